def layX : Lay := [.inr (6, [some (some 2), some (some 1), some none, some none]), .inl 4, .inr (3, [some (some 3), some (some 4), some (some 5), some (some 6), some (some 7), some (some 8), none]), .inl 120, .inl 120, .inl 120, .inl 120, .inl 120, .inl 8, .inr (5, [some (some 2), some (some 10), some (some 15), some (some 18), some (some 20), none, none, none, none, none, none]), .inr (2, [some (some 11), some (some 12), some (some 13), some (some 14), none, none]), .inl 8, .inl 4, .inl 4, .inl 800, .inr (4, [some (some 16), some (some 17), none, none, none, none, none, none]), .inl 5, .inl 30, .inr (1, [some (some 19), none]), .inl 4, .inr (0, [some (some 21), some (some 22), some (some 23), some (some 24), some (some 25), none]), .inl 128, .inl 128, .inl 128, .inl 128, .inl 128, .inr (5, [some (some 2), some (some 27), some (some 32), some (some 35), some (some 37), none, none, none, none, none, none]), .inr (2, [some (some 28), some (some 29), some (some 30), some (some 31), none, none]), .inl 8, .inl 4, .inl 4, .inl 800, .inr (4, [some (some 33), some (some 34), none, none, none, none, none, none]), .inl 5, .inl 30, .inr (1, [some (some 36), none]), .inl 4, .inr (0, [some (some 38), some (some 39), some (some 40), some (some 41), some (some 42), none]), .inl 128, .inl 128, .inl 128, .inl 128, .inl 128]
theorem okX : okL layX = true := by decide +kernel
theorem lX_0 : layX[0]? = some (.inr (6, [some (some 2), some (some 1), some none, some none])) := rfl
theorem lX_1 : layX[1]? = some (.inl 4) := rfl
theorem lX_2 : layX[2]? = some (.inr (3, [some (some 3), some (some 4), some (some 5), some (some 6), some (some 7), some (some 8), none])) := rfl
theorem lX_3 : layX[3]? = some (.inl 120) := rfl
theorem lX_4 : layX[4]? = some (.inl 120) := rfl
theorem lX_5 : layX[5]? = some (.inl 120) := rfl
theorem lX_6 : layX[6]? = some (.inl 120) := rfl
theorem lX_7 : layX[7]? = some (.inl 120) := rfl
theorem lX_8 : layX[8]? = some (.inl 8) := rfl
theorem lX_9 : layX[9]? = some (.inr (5, [some (some 2), some (some 10), some (some 15), some (some 18), some (some 20), none, none, none, none, none, none])) := rfl
theorem lX_10 : layX[10]? = some (.inr (2, [some (some 11), some (some 12), some (some 13), some (some 14), none, none])) := rfl
theorem lX_11 : layX[11]? = some (.inl 8) := rfl
theorem lX_12 : layX[12]? = some (.inl 4) := rfl
theorem lX_13 : layX[13]? = some (.inl 4) := rfl
theorem lX_14 : layX[14]? = some (.inl 800) := rfl
theorem lX_15 : layX[15]? = some (.inr (4, [some (some 16), some (some 17), none, none, none, none, none, none])) := rfl
theorem lX_16 : layX[16]? = some (.inl 5) := rfl
theorem lX_17 : layX[17]? = some (.inl 30) := rfl
theorem lX_18 : layX[18]? = some (.inr (1, [some (some 19), none])) := rfl
theorem lX_19 : layX[19]? = some (.inl 4) := rfl
theorem lX_20 : layX[20]? = some (.inr (0, [some (some 21), some (some 22), some (some 23), some (some 24), some (some 25), none])) := rfl
theorem lX_21 : layX[21]? = some (.inl 128) := rfl
theorem lX_22 : layX[22]? = some (.inl 128) := rfl
theorem lX_23 : layX[23]? = some (.inl 128) := rfl
theorem lX_24 : layX[24]? = some (.inl 128) := rfl
theorem lX_25 : layX[25]? = some (.inl 128) := rfl
theorem lX_26 : layX[26]? = some (.inr (5, [some (some 2), some (some 27), some (some 32), some (some 35), some (some 37), none, none, none, none, none, none])) := rfl
theorem lX_27 : layX[27]? = some (.inr (2, [some (some 28), some (some 29), some (some 30), some (some 31), none, none])) := rfl
theorem lX_28 : layX[28]? = some (.inl 8) := rfl
theorem lX_29 : layX[29]? = some (.inl 4) := rfl
theorem lX_30 : layX[30]? = some (.inl 4) := rfl
theorem lX_31 : layX[31]? = some (.inl 800) := rfl
theorem lX_32 : layX[32]? = some (.inr (4, [some (some 33), some (some 34), none, none, none, none, none, none])) := rfl
theorem lX_33 : layX[33]? = some (.inl 5) := rfl
theorem lX_34 : layX[34]? = some (.inl 30) := rfl
theorem lX_35 : layX[35]? = some (.inr (1, [some (some 36), none])) := rfl
theorem lX_36 : layX[36]? = some (.inl 4) := rfl
theorem lX_37 : layX[37]? = some (.inr (0, [some (some 38), some (some 39), some (some 40), some (some 41), some (some 42), none])) := rfl
theorem lX_38 : layX[38]? = some (.inl 128) := rfl
theorem lX_39 : layX[39]? = some (.inl 128) := rfl
theorem lX_40 : layX[40]? = some (.inl 128) := rfl
theorem lX_41 : layX[41]? = some (.inl 128) := rfl
theorem lX_42 : layX[42]? = some (.inl 128) := rfl
def sgA : List Nat := [9, 10, 11, 12, 13, 14, 15, 16, 17, 18, 19, 20, 21, 22, 23, 24, 25, 2, 3, 4, 5, 6, 7, 8]
def sgB : List Nat := [26, 27, 28, 29, 30, 31, 32, 33, 34, 35, 36, 37, 38, 39, 40, 41, 42, 2, 3, 4, 5, 6, 7, 8]
theorem embA : emb layR layX sgA = true := by decide +kernel
theorem embB : emb layR layX sgB = true := by decide +kernel
theorem sg_r {sg : List Nat} {av : List Value} (h : (av.all (fun v => match v with | .ref r => decide (r < sg.length) | _ => true)) = true) : ∀ v ∈ av, ∀ r, v = .ref r → r < sg.length := by
  intro v hv r e
  have := List.all_eq_true.mp h v hv
  rw [e] at this
  simpa using this
theorem fq {x : Int32} {A : Prop} (h : A) : (∀ v, (some (Value.int x) : Option Value) = some v → ∃ y, v = Value.int y) ∧ A := ⟨fun v e => ⟨x, by injection e with e; exact e.symm⟩, h⟩
theorem fqn {A : Prop} (h : A) : (∀ v, (none : Option Value) = some v → ∃ y, v = Value.int y) ∧ A := ⟨(fun v e => by cases e), h⟩
theorem psS_pl {sg : List Nat} {S : Sx} : psS sg S (plS sg S) = S := by
  funext f i
  unfold psS
  cases h : inv sg (f / 100) with
  | none => rfl
  | some k =>
    obtain ⟨h1, h2⟩ := inv_some h
    show plS sg S (100 * k + f % 100) i = S f i
    rw [plS_at (by omega), h2]
    congr 1
    omega
theorem fqc {x : Int32} {A B : Prop} (h : B → A) (hb : B) : (∀ v, (some (Value.int x) : Option Value) = some v → ∃ y, v = Value.int y) ∧ A := fq (h hb)
/-- which run is the latest -/
def Lat (S : Sx) (sg : List Nat) : Prop := (sg = sgA ∧ S 2 0 = 9 ∧ S 3 0 = 26) ∨ (sg = sgB ∧ S 2 0 = 26 ∧ S 3 0 = 9)
theorem sp_X9_isBudget {d : Nat} {lay : Lay} {S : Sx} {Q : Option Value → Sx → Prop} {b : Int32} (hQ : Q (some (.int (bi (inb b 161)))) S) : CC (d + 1) kX9_isBudget lay [.int b] S Q := by
  refine cc_intro [some _] (by decide) (cc_cat (by rfl)) (Nat.le_of_ble_eq_true rfl) (cc_ls (by rfl)) ?_
  refine aj_iload_n (q := 1) (i := 0) dX9_isBudget_0 rfl rfl rfl ?_
  refine aj_sipush (q := 4) (v := 161) dX9_isBudget_1 rfl (by decide) ?_
  refine aj_callS (q := 7) (As := [_, _]) cl_X9_55 mk_X9_isBelow dX9_isBudget_4 rfl rfl (Nat.le_of_ble_eq_true rfl) (sp_isBelow ?_)
  refine aj_zreturn dX9_isBudget_7 rfl (bi_nar _) ?_
  exact hQ
theorem sp_X9_told_A {d : Nat} {S : Sx} {Q : Option Value → Sx → Prop} {w : Int32} (hl : S 2 0 = 9) (he : S 3 0 = 26) (hw : wfR (plS sgA S)) (hQ : Q (some (.int (rTell (plS sgA S) w))) (S)) : CC (d + 2) kX9_told layX [.ref 0, .int w] S Q := by
  refine cc_intro [some _, some _] (by decide) (cc_cat (by rfl)) (Nat.le_of_ble_eq_true rfl) (cc_ls (by rfl)) ?_
  refine aj_aload_n (q := 1) (i := 0) dX9_told_0 rfl rfl rfl ?_
  refine aj_getD (q := 4) (f := 2) fl_X9_25 dX9_told_1 rfl lX_0 rfl rfl ?_
  rw [hl]
  show AJ _ _ _ _ _ (.ref 9 :: _) _ _
  refine aj_iload_n (q := 5) (i := 1) dX9_told_4 rfl rfl rfl ?_
  refine aj_callV (q := 8) (As := [_]) cl_X9_77 mk_X7_tell dX9_told_5 rfl lX_9 rfl rfl (Nat.le_of_ble_eq_true rfl) (cc_frame (sg := sgA) (av := [.ref 0, .int _]) embA rfl (sg_r rfl) (sp_X7_tell hw (fq ?_)))
  rw [psS_pl]
  refine aj_ireturn dX9_told_8 rfl ?_
  exact hQ
theorem sp_X9_told_B {d : Nat} {S : Sx} {Q : Option Value → Sx → Prop} {w : Int32} (hl : S 2 0 = 26) (he : S 3 0 = 9) (hw : wfR (plS sgB S)) (hQ : Q (some (.int (rTell (plS sgB S) w))) (S)) : CC (d + 2) kX9_told layX [.ref 0, .int w] S Q := by
  refine cc_intro [some _, some _] (by decide) (cc_cat (by rfl)) (Nat.le_of_ble_eq_true rfl) (cc_ls (by rfl)) ?_
  refine aj_aload_n (q := 1) (i := 0) dX9_told_0 rfl rfl rfl ?_
  refine aj_getD (q := 4) (f := 2) fl_X9_25 dX9_told_1 rfl lX_0 rfl rfl ?_
  rw [hl]
  show AJ _ _ _ _ _ (.ref 26 :: _) _ _
  refine aj_iload_n (q := 5) (i := 1) dX9_told_4 rfl rfl rfl ?_
  refine aj_callV (q := 8) (As := [_]) cl_X9_77 mk_X7_tell dX9_told_5 rfl lX_26 rfl rfl (Nat.le_of_ble_eq_true rfl) (cc_frame (sg := sgB) (av := [.ref 0, .int _]) embB rfl (sg_r rfl) (sp_X7_tell hw (fq ?_)))
  rw [psS_pl]
  refine aj_ireturn dX9_told_8 rfl ?_
  exact hQ
theorem sp_X9_marks_A {d : Nat} {S : Sx} {Q : Option Value → Sx → Prop} {m : Int32} (hl : S 2 0 = 9) (he : S 3 0 = 26) (hw : wfR (plS sgA S)) (hQ : Q (some (.int (if inb m 5 then pMarks (plS sgA S) m else -2))) (S)) : CC (d + 2) kX9_marks layX [.ref 0, .int m] S Q := by
  refine cc_intro [some _, some _] (by decide) (cc_cat (by rfl)) (Nat.le_of_ble_eq_true rfl) (cc_ls (by rfl)) ?_
  refine aj_iload_n (q := 1) (i := 1) dX9_marks_0 rfl rfl rfl ?_
  refine aj_iconst (q := 2) (v := 5) dX9_marks_1 rfl (by decide) ?_
  refine aj_callS (q := 5) (As := [_, _]) cl_X9_55 mk_X9_isBelow dX9_marks_2 rfl rfl (Nat.le_of_ble_eq_true rfl) (sp_isBelow ?_)
  refine aj_ifB_eq (q := 8) (tgt := 22) dX9_marks_5 rfl (by decide) (fun c5_1 => ?_) (fun c5_1 => ?_)
  · refine aj_bipush (q := 24) (v := (-2)) dX9_marks_22 rfl (by decide) ?_
    refine aj_ireturn dX9_marks_24 rfl ?_
    first | contradiction | with_reducible exact hQ | (simp (decide := true) only [↓reduceIte, Bool.false_eq_true, bi_t, bi_f, sw_eq, sw_ne, ne_eq, Nat.reduceEqDiff, not_false_eq_true, c5_1] at hQ; with_reducible exact hQ) | (simp (decide := true) only [↓reduceIte, Bool.false_eq_true, bi_t, bi_f, sw_eq, sw_ne, ne_eq, Nat.reduceEqDiff, not_false_eq_true, c5_1] at hQ ⊢; with_reducible exact hQ)
  · refine aj_aload_n (q := 9) (i := 0) dX9_marks_8 rfl rfl rfl ?_
    refine aj_getD (q := 12) (f := 2) fl_X9_25 dX9_marks_9 rfl lX_0 rfl rfl ?_
    rw [hl]
    show AJ _ _ _ _ _ (.ref 9 :: _) _ _
    refine aj_getR (q := 15) fl_X9_82 dX9_marks_12 rfl lX_9 rfl ?_
    refine aj_iload_n (q := 16) (i := 1) dX9_marks_15 rfl rfl rfl ?_
    refine aj_callV (q := 19) (As := [_]) cl_X9_86 mk_X6_marksOf dX9_marks_16 rfl lX_15 rfl rfl (Nat.le_of_ble_eq_true rfl) (cc_frame (sg := sgA) (av := [.ref 6, .int _]) embA rfl (sg_r rfl) (sp_X6_marksOf (fq ?_)))
    rw [psS_pl]
    refine aj_goto (tgt := 24) dX9_marks_19 (by decide) ?_
    refine aj_ireturn dX9_marks_24 rfl ?_
    first | contradiction | with_reducible exact hQ | (simp (decide := true) only [↓reduceIte, Bool.false_eq_true, bi_t, bi_f, sw_eq, sw_ne, ne_eq, Nat.reduceEqDiff, not_false_eq_true, c5_1] at hQ; with_reducible exact hQ) | (simp (decide := true) only [↓reduceIte, Bool.false_eq_true, bi_t, bi_f, sw_eq, sw_ne, ne_eq, Nat.reduceEqDiff, not_false_eq_true, c5_1] at hQ ⊢; with_reducible exact hQ)
theorem sp_X9_marks_B {d : Nat} {S : Sx} {Q : Option Value → Sx → Prop} {m : Int32} (hl : S 2 0 = 26) (he : S 3 0 = 9) (hw : wfR (plS sgB S)) (hQ : Q (some (.int (if inb m 5 then pMarks (plS sgB S) m else -2))) (S)) : CC (d + 2) kX9_marks layX [.ref 0, .int m] S Q := by
  refine cc_intro [some _, some _] (by decide) (cc_cat (by rfl)) (Nat.le_of_ble_eq_true rfl) (cc_ls (by rfl)) ?_
  refine aj_iload_n (q := 1) (i := 1) dX9_marks_0 rfl rfl rfl ?_
  refine aj_iconst (q := 2) (v := 5) dX9_marks_1 rfl (by decide) ?_
  refine aj_callS (q := 5) (As := [_, _]) cl_X9_55 mk_X9_isBelow dX9_marks_2 rfl rfl (Nat.le_of_ble_eq_true rfl) (sp_isBelow ?_)
  refine aj_ifB_eq (q := 8) (tgt := 22) dX9_marks_5 rfl (by decide) (fun c5_1 => ?_) (fun c5_1 => ?_)
  · refine aj_bipush (q := 24) (v := (-2)) dX9_marks_22 rfl (by decide) ?_
    refine aj_ireturn dX9_marks_24 rfl ?_
    first | contradiction | with_reducible exact hQ | (simp (decide := true) only [↓reduceIte, Bool.false_eq_true, bi_t, bi_f, sw_eq, sw_ne, ne_eq, Nat.reduceEqDiff, not_false_eq_true, c5_1] at hQ; with_reducible exact hQ) | (simp (decide := true) only [↓reduceIte, Bool.false_eq_true, bi_t, bi_f, sw_eq, sw_ne, ne_eq, Nat.reduceEqDiff, not_false_eq_true, c5_1] at hQ ⊢; with_reducible exact hQ)
  · refine aj_aload_n (q := 9) (i := 0) dX9_marks_8 rfl rfl rfl ?_
    refine aj_getD (q := 12) (f := 2) fl_X9_25 dX9_marks_9 rfl lX_0 rfl rfl ?_
    rw [hl]
    show AJ _ _ _ _ _ (.ref 26 :: _) _ _
    refine aj_getR (q := 15) fl_X9_82 dX9_marks_12 rfl lX_26 rfl ?_
    refine aj_iload_n (q := 16) (i := 1) dX9_marks_15 rfl rfl rfl ?_
    refine aj_callV (q := 19) (As := [_]) cl_X9_86 mk_X6_marksOf dX9_marks_16 rfl lX_32 rfl rfl (Nat.le_of_ble_eq_true rfl) (cc_frame (sg := sgB) (av := [.ref 6, .int _]) embB rfl (sg_r rfl) (sp_X6_marksOf (fq ?_)))
    rw [psS_pl]
    refine aj_goto (tgt := 24) dX9_marks_19 (by decide) ?_
    refine aj_ireturn dX9_marks_24 rfl ?_
    first | contradiction | with_reducible exact hQ | (simp (decide := true) only [↓reduceIte, Bool.false_eq_true, bi_t, bi_f, sw_eq, sw_ne, ne_eq, Nat.reduceEqDiff, not_false_eq_true, c5_1] at hQ; with_reducible exact hQ) | (simp (decide := true) only [↓reduceIte, Bool.false_eq_true, bi_t, bi_f, sw_eq, sw_ne, ne_eq, Nat.reduceEqDiff, not_false_eq_true, c5_1] at hQ ⊢; with_reducible exact hQ)
theorem sp_X9_began_A {d : Nat} {S : Sx} {Q : Option Value → Sx → Prop} {k : Int32} (hl : S 2 0 = 9) (he : S 3 0 = 26) (hw : wfR (plS sgA S)) (hQ : Q (some (.int (if 0 ≤ k then pBegun (plS sgA S) k else -2))) (S)) : CC (d + 2) kX9_began layX [.ref 0, .int k] S Q := by
  refine cc_intro [some _, some _] (by decide) (cc_cat (by rfl)) (Nat.le_of_ble_eq_true rfl) (cc_ls (by rfl)) ?_
  refine aj_iload_n (q := 1) (i := 1) dX9_began_0 rfl rfl rfl ?_
  refine aj_if_ge (q := 4) (tgt := 9) dX9_began_1 rfl (by decide) (fun c1_1 => ?_) (fun c1_1 => ?_)
  · refine aj_aload_n (q := 10) (i := 0) dX9_began_9 rfl rfl rfl ?_
    refine aj_getD (q := 13) (f := 2) fl_X9_25 dX9_began_10 rfl lX_0 rfl rfl ?_
    rw [hl]
    show AJ _ _ _ _ _ (.ref 9 :: _) _ _
    refine aj_getR (q := 16) fl_X9_82 dX9_began_13 rfl lX_9 rfl ?_
    refine aj_iload_n (q := 17) (i := 1) dX9_began_16 rfl rfl rfl ?_
    refine aj_callV (q := 20) (As := [_]) cl_X9_91 mk_X6_begunAt dX9_began_17 rfl lX_15 rfl rfl (Nat.le_of_ble_eq_true rfl) (cc_frame (sg := sgA) (av := [.ref 6, .int _]) embA rfl (sg_r rfl) (sp_X6_begunAt hw (fq ?_)))
    rw [psS_pl]
    refine aj_ireturn dX9_began_20 rfl ?_
    first | contradiction | with_reducible exact hQ | (simp (decide := true) only [↓reduceIte, Bool.false_eq_true, bi_t, bi_f, sw_eq, sw_ne, ne_eq, Nat.reduceEqDiff, not_false_eq_true, c1_1] at hQ; with_reducible exact hQ) | (simp (decide := true) only [↓reduceIte, Bool.false_eq_true, bi_t, bi_f, sw_eq, sw_ne, ne_eq, Nat.reduceEqDiff, not_false_eq_true, c1_1] at hQ ⊢; with_reducible exact hQ)
  · refine aj_bipush (q := 6) (v := (-2)) dX9_began_4 rfl (by decide) ?_
    refine aj_goto (tgt := 20) dX9_began_6 (by decide) ?_
    refine aj_ireturn dX9_began_20 rfl ?_
    first | contradiction | with_reducible exact hQ | (simp (decide := true) only [↓reduceIte, Bool.false_eq_true, bi_t, bi_f, sw_eq, sw_ne, ne_eq, Nat.reduceEqDiff, not_false_eq_true, c1_1] at hQ; with_reducible exact hQ) | (simp (decide := true) only [↓reduceIte, Bool.false_eq_true, bi_t, bi_f, sw_eq, sw_ne, ne_eq, Nat.reduceEqDiff, not_false_eq_true, c1_1] at hQ ⊢; with_reducible exact hQ)
theorem sp_X9_began_B {d : Nat} {S : Sx} {Q : Option Value → Sx → Prop} {k : Int32} (hl : S 2 0 = 26) (he : S 3 0 = 9) (hw : wfR (plS sgB S)) (hQ : Q (some (.int (if 0 ≤ k then pBegun (plS sgB S) k else -2))) (S)) : CC (d + 2) kX9_began layX [.ref 0, .int k] S Q := by
  refine cc_intro [some _, some _] (by decide) (cc_cat (by rfl)) (Nat.le_of_ble_eq_true rfl) (cc_ls (by rfl)) ?_
  refine aj_iload_n (q := 1) (i := 1) dX9_began_0 rfl rfl rfl ?_
  refine aj_if_ge (q := 4) (tgt := 9) dX9_began_1 rfl (by decide) (fun c1_1 => ?_) (fun c1_1 => ?_)
  · refine aj_aload_n (q := 10) (i := 0) dX9_began_9 rfl rfl rfl ?_
    refine aj_getD (q := 13) (f := 2) fl_X9_25 dX9_began_10 rfl lX_0 rfl rfl ?_
    rw [hl]
    show AJ _ _ _ _ _ (.ref 26 :: _) _ _
    refine aj_getR (q := 16) fl_X9_82 dX9_began_13 rfl lX_26 rfl ?_
    refine aj_iload_n (q := 17) (i := 1) dX9_began_16 rfl rfl rfl ?_
    refine aj_callV (q := 20) (As := [_]) cl_X9_91 mk_X6_begunAt dX9_began_17 rfl lX_32 rfl rfl (Nat.le_of_ble_eq_true rfl) (cc_frame (sg := sgB) (av := [.ref 6, .int _]) embB rfl (sg_r rfl) (sp_X6_begunAt hw (fq ?_)))
    rw [psS_pl]
    refine aj_ireturn dX9_began_20 rfl ?_
    first | contradiction | with_reducible exact hQ | (simp (decide := true) only [↓reduceIte, Bool.false_eq_true, bi_t, bi_f, sw_eq, sw_ne, ne_eq, Nat.reduceEqDiff, not_false_eq_true, c1_1] at hQ; with_reducible exact hQ) | (simp (decide := true) only [↓reduceIte, Bool.false_eq_true, bi_t, bi_f, sw_eq, sw_ne, ne_eq, Nat.reduceEqDiff, not_false_eq_true, c1_1] at hQ ⊢; with_reducible exact hQ)
  · refine aj_bipush (q := 6) (v := (-2)) dX9_began_4 rfl (by decide) ?_
    refine aj_goto (tgt := 20) dX9_began_6 (by decide) ?_
    refine aj_ireturn dX9_began_20 rfl ?_
    first | contradiction | with_reducible exact hQ | (simp (decide := true) only [↓reduceIte, Bool.false_eq_true, bi_t, bi_f, sw_eq, sw_ne, ne_eq, Nat.reduceEqDiff, not_false_eq_true, c1_1] at hQ; with_reducible exact hQ) | (simp (decide := true) only [↓reduceIte, Bool.false_eq_true, bi_t, bi_f, sw_eq, sw_ne, ne_eq, Nat.reduceEqDiff, not_false_eq_true, c1_1] at hQ ⊢; with_reducible exact hQ)
theorem sp_X9_variable_A {d : Nat} {S : Sx} {Q : Option Value → Sx → Prop} {x : Int32} (hl : S 2 0 = 9) (he : S 3 0 = 26) (hw : wfR (plS sgA S)) (hQ : Q (some (.int (mRead (plS sgA S) x))) (S)) : CC (d + 2) kX9_variable layX [.ref 0, .int x] S Q := by
  refine cc_intro [some _, some _] (by decide) (cc_cat (by rfl)) (Nat.le_of_ble_eq_true rfl) (cc_ls (by rfl)) ?_
  refine aj_aload_n (q := 1) (i := 0) dX9_variable_0 rfl rfl rfl ?_
  refine aj_getD (q := 4) (f := 2) fl_X9_25 dX9_variable_1 rfl lX_0 rfl rfl ?_
  rw [hl]
  show AJ _ _ _ _ _ (.ref 9 :: _) _ _
  refine aj_getR (q := 7) fl_X9_94 dX9_variable_4 rfl lX_9 rfl ?_
  refine aj_iload_n (q := 8) (i := 1) dX9_variable_7 rfl rfl rfl ?_
  refine aj_callV (q := 11) (As := [_]) cl_X9_98 mk_X4_read dX9_variable_8 rfl lX_10 rfl rfl (Nat.le_of_ble_eq_true rfl) (cc_frame (sg := sgA) (av := [.ref 1, .int _]) embA rfl (sg_r rfl) (sp_X4_read (fq ?_)))
  rw [psS_pl]
  refine aj_ireturn dX9_variable_11 rfl ?_
  exact hQ
theorem sp_X9_variable_B {d : Nat} {S : Sx} {Q : Option Value → Sx → Prop} {x : Int32} (hl : S 2 0 = 26) (he : S 3 0 = 9) (hw : wfR (plS sgB S)) (hQ : Q (some (.int (mRead (plS sgB S) x))) (S)) : CC (d + 2) kX9_variable layX [.ref 0, .int x] S Q := by
  refine cc_intro [some _, some _] (by decide) (cc_cat (by rfl)) (Nat.le_of_ble_eq_true rfl) (cc_ls (by rfl)) ?_
  refine aj_aload_n (q := 1) (i := 0) dX9_variable_0 rfl rfl rfl ?_
  refine aj_getD (q := 4) (f := 2) fl_X9_25 dX9_variable_1 rfl lX_0 rfl rfl ?_
  rw [hl]
  show AJ _ _ _ _ _ (.ref 26 :: _) _ _
  refine aj_getR (q := 7) fl_X9_94 dX9_variable_4 rfl lX_26 rfl ?_
  refine aj_iload_n (q := 8) (i := 1) dX9_variable_7 rfl rfl rfl ?_
  refine aj_callV (q := 11) (As := [_]) cl_X9_98 mk_X4_read dX9_variable_8 rfl lX_27 rfl rfl (Nat.le_of_ble_eq_true rfl) (cc_frame (sg := sgB) (av := [.ref 1, .int _]) embB rfl (sg_r rfl) (sp_X4_read (fq ?_)))
  rw [psS_pl]
  refine aj_ireturn dX9_variable_11 rfl ?_
  exact hQ
theorem sp_X9_size_A {d : Nat} {S : Sx} {Q : Option Value → Sx → Prop} {r : Int32} (hl : S 2 0 = 9) (he : S 3 0 = 26) (hw : wfR (plS sgA S)) (hQ : Q (some (.int (if inb r 4 then mLen (plS sgA S) r else -2))) (S)) : CC (d + 2) kX9_size layX [.ref 0, .int r] S Q := by
  refine cc_intro [some _, some _] (by decide) (cc_cat (by rfl)) (Nat.le_of_ble_eq_true rfl) (cc_ls (by rfl)) ?_
  refine aj_iload_n (q := 1) (i := 1) dX9_size_0 rfl rfl rfl ?_
  refine aj_iconst (q := 2) (v := 4) dX9_size_1 rfl (by decide) ?_
  refine aj_callS (q := 5) (As := [_, _]) cl_X9_55 mk_X9_isBelow dX9_size_2 rfl rfl (Nat.le_of_ble_eq_true rfl) (sp_isBelow ?_)
  refine aj_ifB_eq (q := 8) (tgt := 22) dX9_size_5 rfl (by decide) (fun c5_1 => ?_) (fun c5_1 => ?_)
  · refine aj_bipush (q := 24) (v := (-2)) dX9_size_22 rfl (by decide) ?_
    refine aj_ireturn dX9_size_24 rfl ?_
    first | contradiction | with_reducible exact hQ | (simp (decide := true) only [↓reduceIte, Bool.false_eq_true, bi_t, bi_f, sw_eq, sw_ne, ne_eq, Nat.reduceEqDiff, not_false_eq_true, c5_1] at hQ; with_reducible exact hQ) | (simp (decide := true) only [↓reduceIte, Bool.false_eq_true, bi_t, bi_f, sw_eq, sw_ne, ne_eq, Nat.reduceEqDiff, not_false_eq_true, c5_1] at hQ ⊢; with_reducible exact hQ)
  · refine aj_aload_n (q := 9) (i := 0) dX9_size_8 rfl rfl rfl ?_
    refine aj_getD (q := 12) (f := 2) fl_X9_25 dX9_size_9 rfl lX_0 rfl rfl ?_
    rw [hl]
    show AJ _ _ _ _ _ (.ref 9 :: _) _ _
    refine aj_getR (q := 15) fl_X9_94 dX9_size_12 rfl lX_9 rfl ?_
    refine aj_iload_n (q := 16) (i := 1) dX9_size_15 rfl rfl rfl ?_
    refine aj_callV (q := 19) (As := [_]) cl_X9_103 mk_X4_lengthOf dX9_size_16 rfl lX_10 rfl rfl (Nat.le_of_ble_eq_true rfl) (cc_frame (sg := sgA) (av := [.ref 1, .int _]) embA rfl (sg_r rfl) (sp_X4_lengthOf (fq ?_)))
    rw [psS_pl]
    refine aj_goto (tgt := 24) dX9_size_19 (by decide) ?_
    refine aj_ireturn dX9_size_24 rfl ?_
    first | contradiction | with_reducible exact hQ | (simp (decide := true) only [↓reduceIte, Bool.false_eq_true, bi_t, bi_f, sw_eq, sw_ne, ne_eq, Nat.reduceEqDiff, not_false_eq_true, c5_1] at hQ; with_reducible exact hQ) | (simp (decide := true) only [↓reduceIte, Bool.false_eq_true, bi_t, bi_f, sw_eq, sw_ne, ne_eq, Nat.reduceEqDiff, not_false_eq_true, c5_1] at hQ ⊢; with_reducible exact hQ)
theorem sp_X9_size_B {d : Nat} {S : Sx} {Q : Option Value → Sx → Prop} {r : Int32} (hl : S 2 0 = 26) (he : S 3 0 = 9) (hw : wfR (plS sgB S)) (hQ : Q (some (.int (if inb r 4 then mLen (plS sgB S) r else -2))) (S)) : CC (d + 2) kX9_size layX [.ref 0, .int r] S Q := by
  refine cc_intro [some _, some _] (by decide) (cc_cat (by rfl)) (Nat.le_of_ble_eq_true rfl) (cc_ls (by rfl)) ?_
  refine aj_iload_n (q := 1) (i := 1) dX9_size_0 rfl rfl rfl ?_
  refine aj_iconst (q := 2) (v := 4) dX9_size_1 rfl (by decide) ?_
  refine aj_callS (q := 5) (As := [_, _]) cl_X9_55 mk_X9_isBelow dX9_size_2 rfl rfl (Nat.le_of_ble_eq_true rfl) (sp_isBelow ?_)
  refine aj_ifB_eq (q := 8) (tgt := 22) dX9_size_5 rfl (by decide) (fun c5_1 => ?_) (fun c5_1 => ?_)
  · refine aj_bipush (q := 24) (v := (-2)) dX9_size_22 rfl (by decide) ?_
    refine aj_ireturn dX9_size_24 rfl ?_
    first | contradiction | with_reducible exact hQ | (simp (decide := true) only [↓reduceIte, Bool.false_eq_true, bi_t, bi_f, sw_eq, sw_ne, ne_eq, Nat.reduceEqDiff, not_false_eq_true, c5_1] at hQ; with_reducible exact hQ) | (simp (decide := true) only [↓reduceIte, Bool.false_eq_true, bi_t, bi_f, sw_eq, sw_ne, ne_eq, Nat.reduceEqDiff, not_false_eq_true, c5_1] at hQ ⊢; with_reducible exact hQ)
  · refine aj_aload_n (q := 9) (i := 0) dX9_size_8 rfl rfl rfl ?_
    refine aj_getD (q := 12) (f := 2) fl_X9_25 dX9_size_9 rfl lX_0 rfl rfl ?_
    rw [hl]
    show AJ _ _ _ _ _ (.ref 26 :: _) _ _
    refine aj_getR (q := 15) fl_X9_94 dX9_size_12 rfl lX_26 rfl ?_
    refine aj_iload_n (q := 16) (i := 1) dX9_size_15 rfl rfl rfl ?_
    refine aj_callV (q := 19) (As := [_]) cl_X9_103 mk_X4_lengthOf dX9_size_16 rfl lX_27 rfl rfl (Nat.le_of_ble_eq_true rfl) (cc_frame (sg := sgB) (av := [.ref 1, .int _]) embB rfl (sg_r rfl) (sp_X4_lengthOf (fq ?_)))
    rw [psS_pl]
    refine aj_goto (tgt := 24) dX9_size_19 (by decide) ?_
    refine aj_ireturn dX9_size_24 rfl ?_
    first | contradiction | with_reducible exact hQ | (simp (decide := true) only [↓reduceIte, Bool.false_eq_true, bi_t, bi_f, sw_eq, sw_ne, ne_eq, Nat.reduceEqDiff, not_false_eq_true, c5_1] at hQ; with_reducible exact hQ) | (simp (decide := true) only [↓reduceIte, Bool.false_eq_true, bi_t, bi_f, sw_eq, sw_ne, ne_eq, Nat.reduceEqDiff, not_false_eq_true, c5_1] at hQ ⊢; with_reducible exact hQ)
theorem sp_X9_drop_A {d : Nat} {S : Sx} {Q : Option Value → Sx → Prop} (hl : S 2 0 = 9) (he : S 3 0 = 26) (hw : wfR (plS sgA S)) (hQ : Q (some (.int (if gCan (plS sgA S) then imax 0 ((plS sgA S) 1706 0 - 1) else -2))) (if gCan (plS sgA S) then psS sgA S (gLose (plS sgA S)) else S)) : CC (d + 2) kX9_drop layX [.ref 0] S Q := by
  refine cc_intro [some _] (by decide) (cc_cat (by rfl)) (Nat.le_of_ble_eq_true rfl) (cc_ls (by rfl)) ?_
  refine aj_aload_n (q := 1) (i := 0) dX9_drop_0 rfl rfl rfl ?_
  refine aj_getR (q := 4) fl_X9_10 dX9_drop_1 rfl lX_0 rfl ?_
  refine aj_callV (q := 7) (As := []) cl_X9_44 mk_X5_canLoseLast dX9_drop_4 rfl lX_2 rfl rfl (Nat.le_of_ble_eq_true rfl) (cc_frame (sg := sgA) (av := [.ref 17]) embA rfl (sg_r rfl) (sp_X5_canLoseLast (fq ?_)))
  rw [psS_pl]
  refine aj_ifB_eq (q := 10) (tgt := 20) dX9_drop_7 rfl (by decide) (fun c7_1 => ?_) (fun c7_1 => ?_)
  · refine aj_bipush (q := 22) (v := (-2)) dX9_drop_20 rfl (by decide) ?_
    refine aj_ireturn dX9_drop_22 rfl ?_
    first | contradiction | with_reducible exact hQ | (simp (decide := true) only [↓reduceIte, Bool.false_eq_true, bi_t, bi_f, sw_eq, sw_ne, ne_eq, Nat.reduceEqDiff, not_false_eq_true, c7_1] at hQ; with_reducible exact hQ) | (simp (decide := true) only [↓reduceIte, Bool.false_eq_true, bi_t, bi_f, sw_eq, sw_ne, ne_eq, Nat.reduceEqDiff, not_false_eq_true, c7_1] at hQ ⊢; with_reducible exact hQ)
  · refine aj_aload_n (q := 11) (i := 0) dX9_drop_10 rfl rfl rfl ?_
    refine aj_getR (q := 14) fl_X9_10 dX9_drop_11 rfl lX_0 rfl ?_
    refine aj_callV (q := 17) (As := []) cl_X9_47 mk_X5_loseLast dX9_drop_14 rfl lX_2 rfl rfl (Nat.le_of_ble_eq_true rfl) (cc_frame (sg := sgA) (av := [.ref 17]) embA rfl (sg_r rfl) (sp_X5_loseLast hw (fun hw2 => fq ?_)))
    refine aj_goto (tgt := 22) dX9_drop_17 (by decide) ?_
    refine aj_ireturn dX9_drop_22 rfl ?_
    first | contradiction | with_reducible exact hQ | (simp (decide := true) only [↓reduceIte, Bool.false_eq_true, bi_t, bi_f, sw_eq, sw_ne, ne_eq, Nat.reduceEqDiff, not_false_eq_true, c7_1] at hQ; with_reducible exact hQ) | (simp (decide := true) only [↓reduceIte, Bool.false_eq_true, bi_t, bi_f, sw_eq, sw_ne, ne_eq, Nat.reduceEqDiff, not_false_eq_true, c7_1] at hQ ⊢; with_reducible exact hQ)
theorem sp_X9_drop_B {d : Nat} {S : Sx} {Q : Option Value → Sx → Prop} (hl : S 2 0 = 26) (he : S 3 0 = 9) (hw : wfR (plS sgB S)) (hQ : Q (some (.int (if gCan (plS sgB S) then imax 0 ((plS sgB S) 1706 0 - 1) else -2))) (if gCan (plS sgB S) then psS sgB S (gLose (plS sgB S)) else S)) : CC (d + 2) kX9_drop layX [.ref 0] S Q := by
  refine cc_intro [some _] (by decide) (cc_cat (by rfl)) (Nat.le_of_ble_eq_true rfl) (cc_ls (by rfl)) ?_
  refine aj_aload_n (q := 1) (i := 0) dX9_drop_0 rfl rfl rfl ?_
  refine aj_getR (q := 4) fl_X9_10 dX9_drop_1 rfl lX_0 rfl ?_
  refine aj_callV (q := 7) (As := []) cl_X9_44 mk_X5_canLoseLast dX9_drop_4 rfl lX_2 rfl rfl (Nat.le_of_ble_eq_true rfl) (cc_frame (sg := sgB) (av := [.ref 17]) embB rfl (sg_r rfl) (sp_X5_canLoseLast (fq ?_)))
  rw [psS_pl]
  refine aj_ifB_eq (q := 10) (tgt := 20) dX9_drop_7 rfl (by decide) (fun c7_1 => ?_) (fun c7_1 => ?_)
  · refine aj_bipush (q := 22) (v := (-2)) dX9_drop_20 rfl (by decide) ?_
    refine aj_ireturn dX9_drop_22 rfl ?_
    first | contradiction | with_reducible exact hQ | (simp (decide := true) only [↓reduceIte, Bool.false_eq_true, bi_t, bi_f, sw_eq, sw_ne, ne_eq, Nat.reduceEqDiff, not_false_eq_true, c7_1] at hQ; with_reducible exact hQ) | (simp (decide := true) only [↓reduceIte, Bool.false_eq_true, bi_t, bi_f, sw_eq, sw_ne, ne_eq, Nat.reduceEqDiff, not_false_eq_true, c7_1] at hQ ⊢; with_reducible exact hQ)
  · refine aj_aload_n (q := 11) (i := 0) dX9_drop_10 rfl rfl rfl ?_
    refine aj_getR (q := 14) fl_X9_10 dX9_drop_11 rfl lX_0 rfl ?_
    refine aj_callV (q := 17) (As := []) cl_X9_47 mk_X5_loseLast dX9_drop_14 rfl lX_2 rfl rfl (Nat.le_of_ble_eq_true rfl) (cc_frame (sg := sgB) (av := [.ref 17]) embB rfl (sg_r rfl) (sp_X5_loseLast hw (fun hw2 => fq ?_)))
    refine aj_goto (tgt := 22) dX9_drop_17 (by decide) ?_
    refine aj_ireturn dX9_drop_22 rfl ?_
    first | contradiction | with_reducible exact hQ | (simp (decide := true) only [↓reduceIte, Bool.false_eq_true, bi_t, bi_f, sw_eq, sw_ne, ne_eq, Nat.reduceEqDiff, not_false_eq_true, c7_1] at hQ; with_reducible exact hQ) | (simp (decide := true) only [↓reduceIte, Bool.false_eq_true, bi_t, bi_f, sw_eq, sw_ne, ne_eq, Nat.reduceEqDiff, not_false_eq_true, c7_1] at hQ ⊢; with_reducible exact hQ)
theorem sp_X9_make_A {d : Nat} {S : Sx} {Q : Option Value → Sx → Prop} {t a b c : Int32} (hl : S 2 0 = 9) (he : S 3 0 = 26) (hw : wfR (plS sgA S)) (hQ : Q (some (.int (if gTakes (plS sgA S) t a b c then (if gFull (plS sgA S) then -3 else (plS sgA S) 1706 0 + 1 - 1) else -2))) (if gTakes (plS sgA S) t a b c then (if gFull (plS sgA S) then S else psS sgA S (gAdd (plS sgA S) t a b c)) else S)) : CC (d + 5) kX9_make layX [.ref 0, .int t, .int a, .int b, .int c] S Q := by
  refine cc_intro [some _, some _, some _, some _, some _] (by decide) (cc_cat (by rfl)) (Nat.le_of_ble_eq_true rfl) (cc_ls (by rfl)) ?_
  refine aj_aload_n (q := 1) (i := 0) dX9_make_0 rfl rfl rfl ?_
  refine aj_getR (q := 4) fl_X9_10 dX9_make_1 rfl lX_0 rfl ?_
  refine aj_iload_n (q := 5) (i := 1) dX9_make_4 rfl rfl rfl ?_
  refine aj_iload_n (q := 6) (i := 2) dX9_make_5 rfl rfl rfl ?_
  refine aj_iload_n (q := 7) (i := 3) dX9_make_6 rfl rfl rfl ?_
  refine aj_iload (q := 9) (i := 4) dX9_make_7 rfl rfl ?_
  refine aj_callV (q := 12) (As := [_, _, _, _]) cl_X9_32 mk_X5_takes dX9_make_9 rfl lX_2 rfl rfl (Nat.le_of_ble_eq_true rfl) (cc_frame (sg := sgA) (av := [.ref 17, .int _, .int _, .int _, .int _]) embA rfl (sg_r rfl) (sp_X5_takes hw (fq ?_)))
  rw [psS_pl]
  refine aj_ifB_ne (q := 15) (tgt := 18) dX9_make_12 rfl (by decide) (fun c12_1 => ?_) (fun c12_1 => ?_)
  · refine aj_aload_n (q := 19) (i := 0) dX9_make_18 rfl rfl rfl ?_
    refine aj_getR (q := 22) fl_X9_10 dX9_make_19 rfl lX_0 rfl ?_
    refine aj_callV (q := 25) (As := []) cl_X9_36 mk_X5_isFull dX9_make_22 rfl lX_2 rfl rfl (Nat.le_of_ble_eq_true rfl) (cc_frame (sg := sgA) (av := [.ref 17]) embA rfl (sg_r rfl) (sp_X5_isFull (fq ?_)))
    rw [psS_pl]
    refine aj_ifB_eq (q := 28) (tgt := 33) dX9_make_25 rfl (by decide) (fun c25_2 => ?_) (fun c25_2 => ?_)
    · refine aj_aload_n (q := 34) (i := 0) dX9_make_33 rfl rfl rfl ?_
      refine aj_getR (q := 37) fl_X9_10 dX9_make_34 rfl lX_0 rfl ?_
      refine aj_iload_n (q := 38) (i := 1) dX9_make_37 rfl rfl rfl ?_
      refine aj_iload_n (q := 39) (i := 2) dX9_make_38 rfl rfl rfl ?_
      refine aj_iload_n (q := 40) (i := 3) dX9_make_39 rfl rfl rfl ?_
      refine aj_iload (q := 42) (i := 4) dX9_make_40 rfl rfl ?_
      refine aj_callV (q := 45) (As := [_, _, _, _]) cl_X9_40 mk_X5_add dX9_make_42 rfl lX_2 rfl rfl (Nat.le_of_ble_eq_true rfl) (cc_frame (sg := sgA) (av := [.ref 17, .int _, .int _, .int _, .int _]) embA rfl (sg_r rfl) (sp_X5_add hw (by assumption) (fun hw3 => fq ?_)))
      refine aj_ireturn dX9_make_45 rfl ?_
      first | contradiction | with_reducible exact hQ | (simp (decide := true) only [↓reduceIte, Bool.false_eq_true, bi_t, bi_f, sw_eq, sw_ne, ne_eq, Nat.reduceEqDiff, not_false_eq_true, c12_1, c25_2] at hQ; with_reducible exact hQ) | (simp (decide := true) only [↓reduceIte, Bool.false_eq_true, bi_t, bi_f, sw_eq, sw_ne, ne_eq, Nat.reduceEqDiff, not_false_eq_true, c12_1, c25_2] at hQ ⊢; with_reducible exact hQ)
    · refine aj_bipush (q := 30) (v := (-3)) dX9_make_28 rfl (by decide) ?_
      refine aj_goto (tgt := 45) dX9_make_30 (by decide) ?_
      refine aj_ireturn dX9_make_45 rfl ?_
      first | contradiction | with_reducible exact hQ | (simp (decide := true) only [↓reduceIte, Bool.false_eq_true, bi_t, bi_f, sw_eq, sw_ne, ne_eq, Nat.reduceEqDiff, not_false_eq_true, c12_1, c25_2] at hQ; with_reducible exact hQ) | (simp (decide := true) only [↓reduceIte, Bool.false_eq_true, bi_t, bi_f, sw_eq, sw_ne, ne_eq, Nat.reduceEqDiff, not_false_eq_true, c12_1, c25_2] at hQ ⊢; with_reducible exact hQ)
  · refine aj_bipush (q := 17) (v := (-2)) dX9_make_15 rfl (by decide) ?_
    refine aj_ireturn dX9_make_17 rfl ?_
    first | contradiction | with_reducible exact hQ | (simp (decide := true) only [↓reduceIte, Bool.false_eq_true, bi_t, bi_f, sw_eq, sw_ne, ne_eq, Nat.reduceEqDiff, not_false_eq_true, c12_1] at hQ; with_reducible exact hQ) | (simp (decide := true) only [↓reduceIte, Bool.false_eq_true, bi_t, bi_f, sw_eq, sw_ne, ne_eq, Nat.reduceEqDiff, not_false_eq_true, c12_1] at hQ ⊢; with_reducible exact hQ)
theorem sp_X9_make_B {d : Nat} {S : Sx} {Q : Option Value → Sx → Prop} {t a b c : Int32} (hl : S 2 0 = 26) (he : S 3 0 = 9) (hw : wfR (plS sgB S)) (hQ : Q (some (.int (if gTakes (plS sgB S) t a b c then (if gFull (plS sgB S) then -3 else (plS sgB S) 1706 0 + 1 - 1) else -2))) (if gTakes (plS sgB S) t a b c then (if gFull (plS sgB S) then S else psS sgB S (gAdd (plS sgB S) t a b c)) else S)) : CC (d + 5) kX9_make layX [.ref 0, .int t, .int a, .int b, .int c] S Q := by
  refine cc_intro [some _, some _, some _, some _, some _] (by decide) (cc_cat (by rfl)) (Nat.le_of_ble_eq_true rfl) (cc_ls (by rfl)) ?_
  refine aj_aload_n (q := 1) (i := 0) dX9_make_0 rfl rfl rfl ?_
  refine aj_getR (q := 4) fl_X9_10 dX9_make_1 rfl lX_0 rfl ?_
  refine aj_iload_n (q := 5) (i := 1) dX9_make_4 rfl rfl rfl ?_
  refine aj_iload_n (q := 6) (i := 2) dX9_make_5 rfl rfl rfl ?_
  refine aj_iload_n (q := 7) (i := 3) dX9_make_6 rfl rfl rfl ?_
  refine aj_iload (q := 9) (i := 4) dX9_make_7 rfl rfl ?_
  refine aj_callV (q := 12) (As := [_, _, _, _]) cl_X9_32 mk_X5_takes dX9_make_9 rfl lX_2 rfl rfl (Nat.le_of_ble_eq_true rfl) (cc_frame (sg := sgB) (av := [.ref 17, .int _, .int _, .int _, .int _]) embB rfl (sg_r rfl) (sp_X5_takes hw (fq ?_)))
  rw [psS_pl]
  refine aj_ifB_ne (q := 15) (tgt := 18) dX9_make_12 rfl (by decide) (fun c12_1 => ?_) (fun c12_1 => ?_)
  · refine aj_aload_n (q := 19) (i := 0) dX9_make_18 rfl rfl rfl ?_
    refine aj_getR (q := 22) fl_X9_10 dX9_make_19 rfl lX_0 rfl ?_
    refine aj_callV (q := 25) (As := []) cl_X9_36 mk_X5_isFull dX9_make_22 rfl lX_2 rfl rfl (Nat.le_of_ble_eq_true rfl) (cc_frame (sg := sgB) (av := [.ref 17]) embB rfl (sg_r rfl) (sp_X5_isFull (fq ?_)))
    rw [psS_pl]
    refine aj_ifB_eq (q := 28) (tgt := 33) dX9_make_25 rfl (by decide) (fun c25_2 => ?_) (fun c25_2 => ?_)
    · refine aj_aload_n (q := 34) (i := 0) dX9_make_33 rfl rfl rfl ?_
      refine aj_getR (q := 37) fl_X9_10 dX9_make_34 rfl lX_0 rfl ?_
      refine aj_iload_n (q := 38) (i := 1) dX9_make_37 rfl rfl rfl ?_
      refine aj_iload_n (q := 39) (i := 2) dX9_make_38 rfl rfl rfl ?_
      refine aj_iload_n (q := 40) (i := 3) dX9_make_39 rfl rfl rfl ?_
      refine aj_iload (q := 42) (i := 4) dX9_make_40 rfl rfl ?_
      refine aj_callV (q := 45) (As := [_, _, _, _]) cl_X9_40 mk_X5_add dX9_make_42 rfl lX_2 rfl rfl (Nat.le_of_ble_eq_true rfl) (cc_frame (sg := sgB) (av := [.ref 17, .int _, .int _, .int _, .int _]) embB rfl (sg_r rfl) (sp_X5_add hw (by assumption) (fun hw3 => fq ?_)))
      refine aj_ireturn dX9_make_45 rfl ?_
      first | contradiction | with_reducible exact hQ | (simp (decide := true) only [↓reduceIte, Bool.false_eq_true, bi_t, bi_f, sw_eq, sw_ne, ne_eq, Nat.reduceEqDiff, not_false_eq_true, c12_1, c25_2] at hQ; with_reducible exact hQ) | (simp (decide := true) only [↓reduceIte, Bool.false_eq_true, bi_t, bi_f, sw_eq, sw_ne, ne_eq, Nat.reduceEqDiff, not_false_eq_true, c12_1, c25_2] at hQ ⊢; with_reducible exact hQ)
    · refine aj_bipush (q := 30) (v := (-3)) dX9_make_28 rfl (by decide) ?_
      refine aj_goto (tgt := 45) dX9_make_30 (by decide) ?_
      refine aj_ireturn dX9_make_45 rfl ?_
      first | contradiction | with_reducible exact hQ | (simp (decide := true) only [↓reduceIte, Bool.false_eq_true, bi_t, bi_f, sw_eq, sw_ne, ne_eq, Nat.reduceEqDiff, not_false_eq_true, c12_1, c25_2] at hQ; with_reducible exact hQ) | (simp (decide := true) only [↓reduceIte, Bool.false_eq_true, bi_t, bi_f, sw_eq, sw_ne, ne_eq, Nat.reduceEqDiff, not_false_eq_true, c12_1, c25_2] at hQ ⊢; with_reducible exact hQ)
  · refine aj_bipush (q := 17) (v := (-2)) dX9_make_15 rfl (by decide) ?_
    refine aj_ireturn dX9_make_17 rfl ?_
    first | contradiction | with_reducible exact hQ | (simp (decide := true) only [↓reduceIte, Bool.false_eq_true, bi_t, bi_f, sw_eq, sw_ne, ne_eq, Nat.reduceEqDiff, not_false_eq_true, c12_1] at hQ; with_reducible exact hQ) | (simp (decide := true) only [↓reduceIte, Bool.false_eq_true, bi_t, bi_f, sw_eq, sw_ne, ne_eq, Nat.reduceEqDiff, not_false_eq_true, c12_1] at hQ ⊢; with_reducible exact hQ)
theorem sp_X9_body_A {d : Nat} {S : Sx} {Q : Option Value → Sx → Prop} {m s : Int32} (hl : S 2 0 = 9) (he : S 3 0 = 26) (hw : wfR (plS sgA S)) (hQ : Q (some (.int (if inb m 8 then (if s = -1 then 1 else if inb s ((plS sgA S) 1706 0) then 1 else -2) else -2))) (if inb m 8 then (if s = -1 then psS sgA S (gSetBody (plS sgA S) m s) else if inb s ((plS sgA S) 1706 0) then psS sgA S (gSetBody (plS sgA S) m s) else S) else S)) : CC (d + 3) kX9_body layX [.ref 0, .int m, .int s] S Q := by
  refine cc_intro [some _, some _, some _, none] (by decide) (cc_cat (by rfl)) (Nat.le_of_ble_eq_true rfl) (cc_ls (by rfl)) ?_
  refine aj_iload_n (q := 1) (i := 2) dX9_body_0 rfl rfl rfl ?_
  refine aj_iconst (q := 2) (v := (-1)) dX9_body_1 rfl (by decide) ?_
  refine aj_icmp_eq (q := 5) (tgt := 16) dX9_body_2 rfl (by decide) (fun c2_1 => ?_) (fun c2_1 => ?_)
  · refine aj_iconst (q := 17) (v := 1) dX9_body_16 rfl (by decide) ?_
    refine aj_goto (tgt := 21) dX9_body_17 (by decide) ?_
    refine aj_istore_n (q := 22) (i := 3) (ls' := [_, _, _, _]) dX9_body_21 rfl rfl (by decide) rfl ?_
    refine aj_iload_n (q := 23) (i := 1) dX9_body_22 rfl rfl rfl ?_
    refine aj_bipush (q := 25) (v := 8) dX9_body_23 rfl (by decide) ?_
    refine aj_callS (q := 28) (As := [_, _]) cl_X9_55 mk_X9_isBelow dX9_body_25 rfl rfl (Nat.le_of_ble_eq_true rfl) (sp_isBelow ?_)
    refine aj_ifB_eq (q := 31) (tgt := 35) dX9_body_28 rfl (by decide) (fun c28_2 => ?_) (fun c28_2 => ?_)
    · refine aj_bipush (q := 37) (v := (-2)) dX9_body_35 rfl (by decide) ?_
      refine aj_ireturn dX9_body_37 rfl ?_
      first | contradiction | with_reducible exact hQ | (simp (decide := true) only [↓reduceIte, Bool.false_eq_true, bi_t, bi_f, sw_eq, sw_ne, ne_eq, Nat.reduceEqDiff, not_false_eq_true, c2_1, c28_2] at hQ; with_reducible exact hQ) | (simp (decide := true) only [↓reduceIte, Bool.false_eq_true, bi_t, bi_f, sw_eq, sw_ne, ne_eq, Nat.reduceEqDiff, not_false_eq_true, c2_1, c28_2] at hQ ⊢; with_reducible exact hQ)
    · refine aj_iload_n (q := 32) (i := 3) dX9_body_31 rfl rfl rfl ?_
      refine aj_if_ne (q := 35) (tgt := 38) dX9_body_32 rfl (by decide) (fun _ => ?_) (fun c => absurd c (by decide))
      refine aj_aload_n (q := 39) (i := 0) dX9_body_38 rfl rfl rfl ?_
      refine aj_getR (q := 42) fl_X9_10 dX9_body_39 rfl lX_0 rfl ?_
      refine aj_iload_n (q := 43) (i := 1) dX9_body_42 rfl rfl rfl ?_
      refine aj_iload_n (q := 44) (i := 2) dX9_body_43 rfl rfl rfl ?_
      refine aj_callV (q := 47) (As := [_, _]) cl_X9_59 mk_X5_setBody dX9_body_44 rfl lX_2 rfl rfl (Nat.le_of_ble_eq_true rfl) (cc_frame (sg := sgA) (av := [.ref 17, .int _, .int _]) embA rfl (sg_r rfl) (sp_X5_setBody hw (fun hw4 => fqn ?_)))
      refine aj_iconst (q := 48) (v := 1) dX9_body_47 rfl (by decide) ?_
      refine aj_ireturn dX9_body_48 rfl ?_
      first | contradiction | with_reducible exact hQ | (simp (decide := true) only [↓reduceIte, Bool.false_eq_true, bi_t, bi_f, sw_eq, sw_ne, ne_eq, Nat.reduceEqDiff, not_false_eq_true, c2_1, c28_2] at hQ; with_reducible exact hQ) | (simp (decide := true) only [↓reduceIte, Bool.false_eq_true, bi_t, bi_f, sw_eq, sw_ne, ne_eq, Nat.reduceEqDiff, not_false_eq_true, c2_1, c28_2] at hQ ⊢; with_reducible exact hQ)
  · refine aj_aload_n (q := 6) (i := 0) dX9_body_5 rfl rfl rfl ?_
    refine aj_getR (q := 9) fl_X9_10 dX9_body_6 rfl lX_0 rfl ?_
    refine aj_iload_n (q := 10) (i := 2) dX9_body_9 rfl rfl rfl ?_
    refine aj_callV (q := 13) (As := [_]) cl_X9_51 mk_X5_has dX9_body_10 rfl lX_2 rfl rfl (Nat.le_of_ble_eq_true rfl) (cc_frame (sg := sgA) (av := [.ref 17, .int _]) embA rfl (sg_r rfl) (sp_X5_has (fq ?_)))
    rw [psS_pl]
    refine aj_ifB_eq (q := 16) (tgt := 20) dX9_body_13 rfl (by decide) (fun c13_5 => ?_) (fun c13_5 => ?_)
    · refine aj_iconst (q := 21) (v := 0) dX9_body_20 rfl (by decide) ?_
      refine aj_istore_n (q := 22) (i := 3) (ls' := [_, _, _, _]) dX9_body_21 rfl rfl (by decide) rfl ?_
      refine aj_iload_n (q := 23) (i := 1) dX9_body_22 rfl rfl rfl ?_
      refine aj_bipush (q := 25) (v := 8) dX9_body_23 rfl (by decide) ?_
      refine aj_callS (q := 28) (As := [_, _]) cl_X9_55 mk_X9_isBelow dX9_body_25 rfl rfl (Nat.le_of_ble_eq_true rfl) (sp_isBelow ?_)
      refine aj_ifB_eq (q := 31) (tgt := 35) dX9_body_28 rfl (by decide) (fun c28_6 => ?_) (fun c28_6 => ?_)
      · refine aj_bipush (q := 37) (v := (-2)) dX9_body_35 rfl (by decide) ?_
        refine aj_ireturn dX9_body_37 rfl ?_
        first | contradiction | with_reducible exact hQ | (simp (decide := true) only [↓reduceIte, Bool.false_eq_true, bi_t, bi_f, sw_eq, sw_ne, ne_eq, Nat.reduceEqDiff, not_false_eq_true, c2_1, c13_5, c28_6] at hQ; with_reducible exact hQ) | (simp (decide := true) only [↓reduceIte, Bool.false_eq_true, bi_t, bi_f, sw_eq, sw_ne, ne_eq, Nat.reduceEqDiff, not_false_eq_true, c2_1, c13_5, c28_6] at hQ ⊢; with_reducible exact hQ)
      · refine aj_iload_n (q := 32) (i := 3) dX9_body_31 rfl rfl rfl ?_
        refine aj_if_ne (q := 35) (tgt := 38) dX9_body_32 rfl (by decide) (fun c => absurd c (by decide)) (fun _ => ?_)
        refine aj_bipush (q := 37) (v := (-2)) dX9_body_35 rfl (by decide) ?_
        refine aj_ireturn dX9_body_37 rfl ?_
        first | contradiction | with_reducible exact hQ | (simp (decide := true) only [↓reduceIte, Bool.false_eq_true, bi_t, bi_f, sw_eq, sw_ne, ne_eq, Nat.reduceEqDiff, not_false_eq_true, c2_1, c13_5, c28_6] at hQ; with_reducible exact hQ) | (simp (decide := true) only [↓reduceIte, Bool.false_eq_true, bi_t, bi_f, sw_eq, sw_ne, ne_eq, Nat.reduceEqDiff, not_false_eq_true, c2_1, c13_5, c28_6] at hQ ⊢; with_reducible exact hQ)
    · refine aj_iconst (q := 17) (v := 1) dX9_body_16 rfl (by decide) ?_
      refine aj_goto (tgt := 21) dX9_body_17 (by decide) ?_
      refine aj_istore_n (q := 22) (i := 3) (ls' := [_, _, _, _]) dX9_body_21 rfl rfl (by decide) rfl ?_
      refine aj_iload_n (q := 23) (i := 1) dX9_body_22 rfl rfl rfl ?_
      refine aj_bipush (q := 25) (v := 8) dX9_body_23 rfl (by decide) ?_
      refine aj_callS (q := 28) (As := [_, _]) cl_X9_55 mk_X9_isBelow dX9_body_25 rfl rfl (Nat.le_of_ble_eq_true rfl) (sp_isBelow ?_)
      refine aj_ifB_eq (q := 31) (tgt := 35) dX9_body_28 rfl (by decide) (fun c28_8 => ?_) (fun c28_8 => ?_)
      · refine aj_bipush (q := 37) (v := (-2)) dX9_body_35 rfl (by decide) ?_
        refine aj_ireturn dX9_body_37 rfl ?_
        first | contradiction | with_reducible exact hQ | (simp (decide := true) only [↓reduceIte, Bool.false_eq_true, bi_t, bi_f, sw_eq, sw_ne, ne_eq, Nat.reduceEqDiff, not_false_eq_true, c2_1, c13_5, c28_8] at hQ; with_reducible exact hQ) | (simp (decide := true) only [↓reduceIte, Bool.false_eq_true, bi_t, bi_f, sw_eq, sw_ne, ne_eq, Nat.reduceEqDiff, not_false_eq_true, c2_1, c13_5, c28_8] at hQ ⊢; with_reducible exact hQ)
      · refine aj_iload_n (q := 32) (i := 3) dX9_body_31 rfl rfl rfl ?_
        refine aj_if_ne (q := 35) (tgt := 38) dX9_body_32 rfl (by decide) (fun _ => ?_) (fun c => absurd c (by decide))
        refine aj_aload_n (q := 39) (i := 0) dX9_body_38 rfl rfl rfl ?_
        refine aj_getR (q := 42) fl_X9_10 dX9_body_39 rfl lX_0 rfl ?_
        refine aj_iload_n (q := 43) (i := 1) dX9_body_42 rfl rfl rfl ?_
        refine aj_iload_n (q := 44) (i := 2) dX9_body_43 rfl rfl rfl ?_
        refine aj_callV (q := 47) (As := [_, _]) cl_X9_59 mk_X5_setBody dX9_body_44 rfl lX_2 rfl rfl (Nat.le_of_ble_eq_true rfl) (cc_frame (sg := sgA) (av := [.ref 17, .int _, .int _]) embA rfl (sg_r rfl) (sp_X5_setBody hw (fun hw10 => fqn ?_)))
        refine aj_iconst (q := 48) (v := 1) dX9_body_47 rfl (by decide) ?_
        refine aj_ireturn dX9_body_48 rfl ?_
        first | contradiction | with_reducible exact hQ | (simp (decide := true) only [↓reduceIte, Bool.false_eq_true, bi_t, bi_f, sw_eq, sw_ne, ne_eq, Nat.reduceEqDiff, not_false_eq_true, c2_1, c13_5, c28_8] at hQ; with_reducible exact hQ) | (simp (decide := true) only [↓reduceIte, Bool.false_eq_true, bi_t, bi_f, sw_eq, sw_ne, ne_eq, Nat.reduceEqDiff, not_false_eq_true, c2_1, c13_5, c28_8] at hQ ⊢; with_reducible exact hQ)
theorem sp_X9_body_B {d : Nat} {S : Sx} {Q : Option Value → Sx → Prop} {m s : Int32} (hl : S 2 0 = 26) (he : S 3 0 = 9) (hw : wfR (plS sgB S)) (hQ : Q (some (.int (if inb m 8 then (if s = -1 then 1 else if inb s ((plS sgB S) 1706 0) then 1 else -2) else -2))) (if inb m 8 then (if s = -1 then psS sgB S (gSetBody (plS sgB S) m s) else if inb s ((plS sgB S) 1706 0) then psS sgB S (gSetBody (plS sgB S) m s) else S) else S)) : CC (d + 3) kX9_body layX [.ref 0, .int m, .int s] S Q := by
  refine cc_intro [some _, some _, some _, none] (by decide) (cc_cat (by rfl)) (Nat.le_of_ble_eq_true rfl) (cc_ls (by rfl)) ?_
  refine aj_iload_n (q := 1) (i := 2) dX9_body_0 rfl rfl rfl ?_
  refine aj_iconst (q := 2) (v := (-1)) dX9_body_1 rfl (by decide) ?_
  refine aj_icmp_eq (q := 5) (tgt := 16) dX9_body_2 rfl (by decide) (fun c2_1 => ?_) (fun c2_1 => ?_)
  · refine aj_iconst (q := 17) (v := 1) dX9_body_16 rfl (by decide) ?_
    refine aj_goto (tgt := 21) dX9_body_17 (by decide) ?_
    refine aj_istore_n (q := 22) (i := 3) (ls' := [_, _, _, _]) dX9_body_21 rfl rfl (by decide) rfl ?_
    refine aj_iload_n (q := 23) (i := 1) dX9_body_22 rfl rfl rfl ?_
    refine aj_bipush (q := 25) (v := 8) dX9_body_23 rfl (by decide) ?_
    refine aj_callS (q := 28) (As := [_, _]) cl_X9_55 mk_X9_isBelow dX9_body_25 rfl rfl (Nat.le_of_ble_eq_true rfl) (sp_isBelow ?_)
    refine aj_ifB_eq (q := 31) (tgt := 35) dX9_body_28 rfl (by decide) (fun c28_2 => ?_) (fun c28_2 => ?_)
    · refine aj_bipush (q := 37) (v := (-2)) dX9_body_35 rfl (by decide) ?_
      refine aj_ireturn dX9_body_37 rfl ?_
      first | contradiction | with_reducible exact hQ | (simp (decide := true) only [↓reduceIte, Bool.false_eq_true, bi_t, bi_f, sw_eq, sw_ne, ne_eq, Nat.reduceEqDiff, not_false_eq_true, c2_1, c28_2] at hQ; with_reducible exact hQ) | (simp (decide := true) only [↓reduceIte, Bool.false_eq_true, bi_t, bi_f, sw_eq, sw_ne, ne_eq, Nat.reduceEqDiff, not_false_eq_true, c2_1, c28_2] at hQ ⊢; with_reducible exact hQ)
    · refine aj_iload_n (q := 32) (i := 3) dX9_body_31 rfl rfl rfl ?_
      refine aj_if_ne (q := 35) (tgt := 38) dX9_body_32 rfl (by decide) (fun _ => ?_) (fun c => absurd c (by decide))
      refine aj_aload_n (q := 39) (i := 0) dX9_body_38 rfl rfl rfl ?_
      refine aj_getR (q := 42) fl_X9_10 dX9_body_39 rfl lX_0 rfl ?_
      refine aj_iload_n (q := 43) (i := 1) dX9_body_42 rfl rfl rfl ?_
      refine aj_iload_n (q := 44) (i := 2) dX9_body_43 rfl rfl rfl ?_
      refine aj_callV (q := 47) (As := [_, _]) cl_X9_59 mk_X5_setBody dX9_body_44 rfl lX_2 rfl rfl (Nat.le_of_ble_eq_true rfl) (cc_frame (sg := sgB) (av := [.ref 17, .int _, .int _]) embB rfl (sg_r rfl) (sp_X5_setBody hw (fun hw4 => fqn ?_)))
      refine aj_iconst (q := 48) (v := 1) dX9_body_47 rfl (by decide) ?_
      refine aj_ireturn dX9_body_48 rfl ?_
      first | contradiction | with_reducible exact hQ | (simp (decide := true) only [↓reduceIte, Bool.false_eq_true, bi_t, bi_f, sw_eq, sw_ne, ne_eq, Nat.reduceEqDiff, not_false_eq_true, c2_1, c28_2] at hQ; with_reducible exact hQ) | (simp (decide := true) only [↓reduceIte, Bool.false_eq_true, bi_t, bi_f, sw_eq, sw_ne, ne_eq, Nat.reduceEqDiff, not_false_eq_true, c2_1, c28_2] at hQ ⊢; with_reducible exact hQ)
  · refine aj_aload_n (q := 6) (i := 0) dX9_body_5 rfl rfl rfl ?_
    refine aj_getR (q := 9) fl_X9_10 dX9_body_6 rfl lX_0 rfl ?_
    refine aj_iload_n (q := 10) (i := 2) dX9_body_9 rfl rfl rfl ?_
    refine aj_callV (q := 13) (As := [_]) cl_X9_51 mk_X5_has dX9_body_10 rfl lX_2 rfl rfl (Nat.le_of_ble_eq_true rfl) (cc_frame (sg := sgB) (av := [.ref 17, .int _]) embB rfl (sg_r rfl) (sp_X5_has (fq ?_)))
    rw [psS_pl]
    refine aj_ifB_eq (q := 16) (tgt := 20) dX9_body_13 rfl (by decide) (fun c13_5 => ?_) (fun c13_5 => ?_)
    · refine aj_iconst (q := 21) (v := 0) dX9_body_20 rfl (by decide) ?_
      refine aj_istore_n (q := 22) (i := 3) (ls' := [_, _, _, _]) dX9_body_21 rfl rfl (by decide) rfl ?_
      refine aj_iload_n (q := 23) (i := 1) dX9_body_22 rfl rfl rfl ?_
      refine aj_bipush (q := 25) (v := 8) dX9_body_23 rfl (by decide) ?_
      refine aj_callS (q := 28) (As := [_, _]) cl_X9_55 mk_X9_isBelow dX9_body_25 rfl rfl (Nat.le_of_ble_eq_true rfl) (sp_isBelow ?_)
      refine aj_ifB_eq (q := 31) (tgt := 35) dX9_body_28 rfl (by decide) (fun c28_6 => ?_) (fun c28_6 => ?_)
      · refine aj_bipush (q := 37) (v := (-2)) dX9_body_35 rfl (by decide) ?_
        refine aj_ireturn dX9_body_37 rfl ?_
        first | contradiction | with_reducible exact hQ | (simp (decide := true) only [↓reduceIte, Bool.false_eq_true, bi_t, bi_f, sw_eq, sw_ne, ne_eq, Nat.reduceEqDiff, not_false_eq_true, c2_1, c13_5, c28_6] at hQ; with_reducible exact hQ) | (simp (decide := true) only [↓reduceIte, Bool.false_eq_true, bi_t, bi_f, sw_eq, sw_ne, ne_eq, Nat.reduceEqDiff, not_false_eq_true, c2_1, c13_5, c28_6] at hQ ⊢; with_reducible exact hQ)
      · refine aj_iload_n (q := 32) (i := 3) dX9_body_31 rfl rfl rfl ?_
        refine aj_if_ne (q := 35) (tgt := 38) dX9_body_32 rfl (by decide) (fun c => absurd c (by decide)) (fun _ => ?_)
        refine aj_bipush (q := 37) (v := (-2)) dX9_body_35 rfl (by decide) ?_
        refine aj_ireturn dX9_body_37 rfl ?_
        first | contradiction | with_reducible exact hQ | (simp (decide := true) only [↓reduceIte, Bool.false_eq_true, bi_t, bi_f, sw_eq, sw_ne, ne_eq, Nat.reduceEqDiff, not_false_eq_true, c2_1, c13_5, c28_6] at hQ; with_reducible exact hQ) | (simp (decide := true) only [↓reduceIte, Bool.false_eq_true, bi_t, bi_f, sw_eq, sw_ne, ne_eq, Nat.reduceEqDiff, not_false_eq_true, c2_1, c13_5, c28_6] at hQ ⊢; with_reducible exact hQ)
    · refine aj_iconst (q := 17) (v := 1) dX9_body_16 rfl (by decide) ?_
      refine aj_goto (tgt := 21) dX9_body_17 (by decide) ?_
      refine aj_istore_n (q := 22) (i := 3) (ls' := [_, _, _, _]) dX9_body_21 rfl rfl (by decide) rfl ?_
      refine aj_iload_n (q := 23) (i := 1) dX9_body_22 rfl rfl rfl ?_
      refine aj_bipush (q := 25) (v := 8) dX9_body_23 rfl (by decide) ?_
      refine aj_callS (q := 28) (As := [_, _]) cl_X9_55 mk_X9_isBelow dX9_body_25 rfl rfl (Nat.le_of_ble_eq_true rfl) (sp_isBelow ?_)
      refine aj_ifB_eq (q := 31) (tgt := 35) dX9_body_28 rfl (by decide) (fun c28_8 => ?_) (fun c28_8 => ?_)
      · refine aj_bipush (q := 37) (v := (-2)) dX9_body_35 rfl (by decide) ?_
        refine aj_ireturn dX9_body_37 rfl ?_
        first | contradiction | with_reducible exact hQ | (simp (decide := true) only [↓reduceIte, Bool.false_eq_true, bi_t, bi_f, sw_eq, sw_ne, ne_eq, Nat.reduceEqDiff, not_false_eq_true, c2_1, c13_5, c28_8] at hQ; with_reducible exact hQ) | (simp (decide := true) only [↓reduceIte, Bool.false_eq_true, bi_t, bi_f, sw_eq, sw_ne, ne_eq, Nat.reduceEqDiff, not_false_eq_true, c2_1, c13_5, c28_8] at hQ ⊢; with_reducible exact hQ)
      · refine aj_iload_n (q := 32) (i := 3) dX9_body_31 rfl rfl rfl ?_
        refine aj_if_ne (q := 35) (tgt := 38) dX9_body_32 rfl (by decide) (fun _ => ?_) (fun c => absurd c (by decide))
        refine aj_aload_n (q := 39) (i := 0) dX9_body_38 rfl rfl rfl ?_
        refine aj_getR (q := 42) fl_X9_10 dX9_body_39 rfl lX_0 rfl ?_
        refine aj_iload_n (q := 43) (i := 1) dX9_body_42 rfl rfl rfl ?_
        refine aj_iload_n (q := 44) (i := 2) dX9_body_43 rfl rfl rfl ?_
        refine aj_callV (q := 47) (As := [_, _]) cl_X9_59 mk_X5_setBody dX9_body_44 rfl lX_2 rfl rfl (Nat.le_of_ble_eq_true rfl) (cc_frame (sg := sgB) (av := [.ref 17, .int _, .int _]) embB rfl (sg_r rfl) (sp_X5_setBody hw (fun hw10 => fqn ?_)))
        refine aj_iconst (q := 48) (v := 1) dX9_body_47 rfl (by decide) ?_
        refine aj_ireturn dX9_body_48 rfl ?_
        first | contradiction | with_reducible exact hQ | (simp (decide := true) only [↓reduceIte, Bool.false_eq_true, bi_t, bi_f, sw_eq, sw_ne, ne_eq, Nat.reduceEqDiff, not_false_eq_true, c2_1, c13_5, c28_8] at hQ; with_reducible exact hQ) | (simp (decide := true) only [↓reduceIte, Bool.false_eq_true, bi_t, bi_f, sw_eq, sw_ne, ne_eq, Nat.reduceEqDiff, not_false_eq_true, c2_1, c13_5, c28_8] at hQ ⊢; with_reducible exact hQ)
def xCnt (S : Sx) (a : Int32) : Sx := if inb a 4 then sw S 100 a.toNatClampNeg (S 100 a.toNatClampNeg + 1) else S
theorem sp_X9_counted {d : Nat} {S : Sx} {Q : Option Value → Sx → Prop} {a : Int32} (hQ : Q (some (.int a)) (xCnt S a)) : CC (d + 1) kX9_counted layX [.ref 0, .int a] S Q := by
  refine cc_intro [some _, some _] (by decide) (cc_cat (by rfl)) (Nat.le_of_ble_eq_true rfl) (cc_ls (by rfl)) ?_
  refine aj_iload_n (q := 1) (i := 1) dX9_counted_0 rfl rfl rfl ?_
  refine aj_iconst (q := 2) (v := 4) dX9_counted_1 rfl (by decide) ?_
  refine aj_callS (q := 5) (As := [_, _]) cl_X9_55 mk_X9_isBelow dX9_counted_2 rfl rfl (Nat.le_of_ble_eq_true rfl) (sp_isBelow ?_)
  refine aj_ifB_eq (q := 8) (tgt := 18) dX9_counted_5 rfl (by decide) (fun c5_1 => ?_) (fun c5_1 => ?_)
  · refine aj_iload_n (q := 19) (i := 1) dX9_counted_18 rfl rfl rfl ?_
    refine aj_ireturn dX9_counted_19 rfl ?_
    simp (decide := true) only [xCnt, ↓reduceIte, Bool.false_eq_true, c5_1] at hQ
    exact hQ
  · refine aj_aload_n (q := 9) (i := 0) dX9_counted_8 rfl rfl rfl ?_
    refine aj_getR (q := 12) fl_X9_16 dX9_counted_9 rfl lX_0 rfl ?_
    refine aj_iload_n (q := 13) (i := 1) dX9_counted_12 rfl rfl rfl ?_
    refine aj_dup2 (q := 14) dX9_counted_13 rfl rfl rfl ?_
    refine aj_iaload (q := 15) (f := 100) dX9_counted_14 rfl lX_1 rfl (vin (m := 4) (by decide) (by assumption)) ?_
    refine aj_iconst (q := 16) (v := 1) dX9_counted_15 rfl (by decide) ?_
    refine aj_iadd (q := 17) dX9_counted_16 rfl ?_
    refine aj_iastore (q := 18) (f := 100) okX dX9_counted_17 rfl lX_1 rfl (vin (m := 4) (by decide) (by assumption)) ?_
    refine aj_iload_n (q := 19) (i := 1) dX9_counted_18 rfl rfl rfl ?_
    refine aj_ireturn dX9_counted_19 rfl ?_
    simp (decide := true) only [xCnt, ↓reduceIte, Bool.false_eq_true, c5_1] at hQ
    exact hQ
theorem sp_X9_count_A {d : Nat} {S : Sx} {Q : Option Value → Sx → Prop} {w : Int32} (hl : S 2 0 = 9) (he : S 3 0 = 26) (hw : wfR (plS sgA S)) (hQ : Q (some (.int (if w = 4 then (plS sgA S) 1706 0 else if w = 5 then gBodF (plS sgA S) 8 0 0 else if inb w 4 then S 100 w.toNatClampNeg else -2))) (S)) : CC (d + 2) kX9_count layX [.ref 0, .int w] S Q := by
  refine cc_intro [some _, some _] (by decide) (cc_cat (by rfl)) (Nat.le_of_ble_eq_true rfl) (cc_ls (by rfl)) ?_
  refine aj_iload_n (q := 1) (i := 1) dX9_count_0 rfl rfl rfl ?_
  refine aj_iconst (q := 2) (v := 4) dX9_count_1 rfl (by decide) ?_
  refine aj_icmp_ne (q := 5) (tgt := 13) dX9_count_2 rfl (by decide) (fun c2_1 => ?_) (fun c2_1 => ?_)
  · refine aj_iload_n (q := 14) (i := 1) dX9_count_13 rfl rfl rfl ?_
    refine aj_iconst (q := 15) (v := 5) dX9_count_14 rfl (by decide) ?_
    refine aj_icmp_ne (q := 18) (tgt := 26) dX9_count_15 rfl (by decide) (fun c15_2 => ?_) (fun c15_2 => ?_)
    · refine aj_iload_n (q := 27) (i := 1) dX9_count_26 rfl rfl rfl ?_
      refine aj_iconst (q := 28) (v := 4) dX9_count_27 rfl (by decide) ?_
      refine aj_callS (q := 31) (As := [_, _]) cl_X9_55 mk_X9_isBelow dX9_count_28 rfl rfl (Nat.le_of_ble_eq_true rfl) (sp_isBelow ?_)
      refine aj_ifB_eq (q := 34) (tgt := 43) dX9_count_31 rfl (by decide) (fun c31_3 => ?_) (fun c31_3 => ?_)
      · refine aj_bipush (q := 45) (v := (-2)) dX9_count_43 rfl (by decide) ?_
        refine aj_ireturn dX9_count_45 rfl ?_
        first | contradiction | with_reducible exact hQ | (simp (decide := true) only [↓reduceIte, Bool.false_eq_true, bi_t, bi_f, sw_eq, sw_ne, ne_eq, Nat.reduceEqDiff, not_false_eq_true, c2_1, c15_2, c31_3] at hQ; with_reducible exact hQ) | (simp (decide := true) only [↓reduceIte, Bool.false_eq_true, bi_t, bi_f, sw_eq, sw_ne, ne_eq, Nat.reduceEqDiff, not_false_eq_true, c2_1, c15_2, c31_3] at hQ ⊢; with_reducible exact hQ)
      · refine aj_aload_n (q := 35) (i := 0) dX9_count_34 rfl rfl rfl ?_
        refine aj_getR (q := 38) fl_X9_16 dX9_count_35 rfl lX_0 rfl ?_
        refine aj_iload_n (q := 39) (i := 1) dX9_count_38 rfl rfl rfl ?_
        refine aj_iaload (q := 40) (f := 100) dX9_count_39 rfl lX_1 rfl (vin (m := 4) (by decide) (by assumption)) ?_
        refine aj_goto (tgt := 45) dX9_count_40 (by decide) ?_
        refine aj_ireturn dX9_count_45 rfl ?_
        first | contradiction | with_reducible exact hQ | (simp (decide := true) only [↓reduceIte, Bool.false_eq_true, bi_t, bi_f, sw_eq, sw_ne, ne_eq, Nat.reduceEqDiff, not_false_eq_true, c2_1, c15_2, c31_3] at hQ; with_reducible exact hQ) | (simp (decide := true) only [↓reduceIte, Bool.false_eq_true, bi_t, bi_f, sw_eq, sw_ne, ne_eq, Nat.reduceEqDiff, not_false_eq_true, c2_1, c15_2, c31_3] at hQ ⊢; with_reducible exact hQ)
    · refine aj_aload_n (q := 19) (i := 0) dX9_count_18 rfl rfl rfl ?_
      refine aj_getR (q := 22) fl_X9_10 dX9_count_19 rfl lX_0 rfl ?_
      refine aj_callV (q := 25) (As := []) cl_X9_131 mk_X5_bodies dX9_count_22 rfl lX_2 rfl rfl (Nat.le_of_ble_eq_true rfl) (cc_frame (sg := sgA) (av := [.ref 17]) embA rfl (sg_r rfl) (sp_X5_bodies (fq ?_)))
      rw [psS_pl]
      refine aj_ireturn dX9_count_25 rfl ?_
      first | contradiction | with_reducible exact hQ | (simp (decide := true) only [↓reduceIte, Bool.false_eq_true, bi_t, bi_f, sw_eq, sw_ne, ne_eq, Nat.reduceEqDiff, not_false_eq_true, c2_1, c15_2] at hQ; with_reducible exact hQ) | (simp (decide := true) only [↓reduceIte, Bool.false_eq_true, bi_t, bi_f, sw_eq, sw_ne, ne_eq, Nat.reduceEqDiff, not_false_eq_true, c2_1, c15_2] at hQ ⊢; with_reducible exact hQ)
  · refine aj_aload_n (q := 6) (i := 0) dX9_count_5 rfl rfl rfl ?_
    refine aj_getR (q := 9) fl_X9_10 dX9_count_6 rfl lX_0 rfl ?_
    refine aj_callV (q := 12) (As := []) cl_X9_128 mk_X5_statements dX9_count_9 rfl lX_2 rfl rfl (Nat.le_of_ble_eq_true rfl) (cc_frame (sg := sgA) (av := [.ref 17]) embA rfl (sg_r rfl) (sp_X5_statements (fq ?_)))
    rw [psS_pl]
    refine aj_ireturn dX9_count_12 rfl ?_
    first | contradiction | with_reducible exact hQ | (simp (decide := true) only [↓reduceIte, Bool.false_eq_true, bi_t, bi_f, sw_eq, sw_ne, ne_eq, Nat.reduceEqDiff, not_false_eq_true, c2_1] at hQ; with_reducible exact hQ) | (simp (decide := true) only [↓reduceIte, Bool.false_eq_true, bi_t, bi_f, sw_eq, sw_ne, ne_eq, Nat.reduceEqDiff, not_false_eq_true, c2_1] at hQ ⊢; with_reducible exact hQ)
theorem sp_X9_count_B {d : Nat} {S : Sx} {Q : Option Value → Sx → Prop} {w : Int32} (hl : S 2 0 = 26) (he : S 3 0 = 9) (hw : wfR (plS sgB S)) (hQ : Q (some (.int (if w = 4 then (plS sgB S) 1706 0 else if w = 5 then gBodF (plS sgB S) 8 0 0 else if inb w 4 then S 100 w.toNatClampNeg else -2))) (S)) : CC (d + 2) kX9_count layX [.ref 0, .int w] S Q := by
  refine cc_intro [some _, some _] (by decide) (cc_cat (by rfl)) (Nat.le_of_ble_eq_true rfl) (cc_ls (by rfl)) ?_
  refine aj_iload_n (q := 1) (i := 1) dX9_count_0 rfl rfl rfl ?_
  refine aj_iconst (q := 2) (v := 4) dX9_count_1 rfl (by decide) ?_
  refine aj_icmp_ne (q := 5) (tgt := 13) dX9_count_2 rfl (by decide) (fun c2_1 => ?_) (fun c2_1 => ?_)
  · refine aj_iload_n (q := 14) (i := 1) dX9_count_13 rfl rfl rfl ?_
    refine aj_iconst (q := 15) (v := 5) dX9_count_14 rfl (by decide) ?_
    refine aj_icmp_ne (q := 18) (tgt := 26) dX9_count_15 rfl (by decide) (fun c15_2 => ?_) (fun c15_2 => ?_)
    · refine aj_iload_n (q := 27) (i := 1) dX9_count_26 rfl rfl rfl ?_
      refine aj_iconst (q := 28) (v := 4) dX9_count_27 rfl (by decide) ?_
      refine aj_callS (q := 31) (As := [_, _]) cl_X9_55 mk_X9_isBelow dX9_count_28 rfl rfl (Nat.le_of_ble_eq_true rfl) (sp_isBelow ?_)
      refine aj_ifB_eq (q := 34) (tgt := 43) dX9_count_31 rfl (by decide) (fun c31_3 => ?_) (fun c31_3 => ?_)
      · refine aj_bipush (q := 45) (v := (-2)) dX9_count_43 rfl (by decide) ?_
        refine aj_ireturn dX9_count_45 rfl ?_
        first | contradiction | with_reducible exact hQ | (simp (decide := true) only [↓reduceIte, Bool.false_eq_true, bi_t, bi_f, sw_eq, sw_ne, ne_eq, Nat.reduceEqDiff, not_false_eq_true, c2_1, c15_2, c31_3] at hQ; with_reducible exact hQ) | (simp (decide := true) only [↓reduceIte, Bool.false_eq_true, bi_t, bi_f, sw_eq, sw_ne, ne_eq, Nat.reduceEqDiff, not_false_eq_true, c2_1, c15_2, c31_3] at hQ ⊢; with_reducible exact hQ)
      · refine aj_aload_n (q := 35) (i := 0) dX9_count_34 rfl rfl rfl ?_
        refine aj_getR (q := 38) fl_X9_16 dX9_count_35 rfl lX_0 rfl ?_
        refine aj_iload_n (q := 39) (i := 1) dX9_count_38 rfl rfl rfl ?_
        refine aj_iaload (q := 40) (f := 100) dX9_count_39 rfl lX_1 rfl (vin (m := 4) (by decide) (by assumption)) ?_
        refine aj_goto (tgt := 45) dX9_count_40 (by decide) ?_
        refine aj_ireturn dX9_count_45 rfl ?_
        first | contradiction | with_reducible exact hQ | (simp (decide := true) only [↓reduceIte, Bool.false_eq_true, bi_t, bi_f, sw_eq, sw_ne, ne_eq, Nat.reduceEqDiff, not_false_eq_true, c2_1, c15_2, c31_3] at hQ; with_reducible exact hQ) | (simp (decide := true) only [↓reduceIte, Bool.false_eq_true, bi_t, bi_f, sw_eq, sw_ne, ne_eq, Nat.reduceEqDiff, not_false_eq_true, c2_1, c15_2, c31_3] at hQ ⊢; with_reducible exact hQ)
    · refine aj_aload_n (q := 19) (i := 0) dX9_count_18 rfl rfl rfl ?_
      refine aj_getR (q := 22) fl_X9_10 dX9_count_19 rfl lX_0 rfl ?_
      refine aj_callV (q := 25) (As := []) cl_X9_131 mk_X5_bodies dX9_count_22 rfl lX_2 rfl rfl (Nat.le_of_ble_eq_true rfl) (cc_frame (sg := sgB) (av := [.ref 17]) embB rfl (sg_r rfl) (sp_X5_bodies (fq ?_)))
      rw [psS_pl]
      refine aj_ireturn dX9_count_25 rfl ?_
      first | contradiction | with_reducible exact hQ | (simp (decide := true) only [↓reduceIte, Bool.false_eq_true, bi_t, bi_f, sw_eq, sw_ne, ne_eq, Nat.reduceEqDiff, not_false_eq_true, c2_1, c15_2] at hQ; with_reducible exact hQ) | (simp (decide := true) only [↓reduceIte, Bool.false_eq_true, bi_t, bi_f, sw_eq, sw_ne, ne_eq, Nat.reduceEqDiff, not_false_eq_true, c2_1, c15_2] at hQ ⊢; with_reducible exact hQ)
  · refine aj_aload_n (q := 6) (i := 0) dX9_count_5 rfl rfl rfl ?_
    refine aj_getR (q := 9) fl_X9_10 dX9_count_6 rfl lX_0 rfl ?_
    refine aj_callV (q := 12) (As := []) cl_X9_128 mk_X5_statements dX9_count_9 rfl lX_2 rfl rfl (Nat.le_of_ble_eq_true rfl) (cc_frame (sg := sgB) (av := [.ref 17]) embB rfl (sg_r rfl) (sp_X5_statements (fq ?_)))
    rw [psS_pl]
    refine aj_ireturn dX9_count_12 rfl ?_
    first | contradiction | with_reducible exact hQ | (simp (decide := true) only [↓reduceIte, Bool.false_eq_true, bi_t, bi_f, sw_eq, sw_ne, ne_eq, Nat.reduceEqDiff, not_false_eq_true, c2_1] at hQ; with_reducible exact hQ) | (simp (decide := true) only [↓reduceIte, Bool.false_eq_true, bi_t, bi_f, sw_eq, sw_ne, ne_eq, Nat.reduceEqDiff, not_false_eq_true, c2_1] at hQ ⊢; with_reducible exact hQ)
theorem sp_X9_run_A {d : Nat} {S : Sx} {Q : Option Value → Sx → Prop} {m x b : Int32} (j : Nat) (hl : S 2 0 = 9) (he : S 3 0 = 26) (hw : wfR (plS sgA S)) (hm : ¬ gBody (plS sgA S) m = -1) (hb : inb b 161 = true) (hj : j ≤ 1000000000) (h0 : ∀ i, i < j → fEmpty (rIt i (rStart (plS sgA S) (gBody (plS sgA S) m) x b)) = false) (h1 : fEmpty (rIt j (rStart (plS sgA S) (gBody (plS sgA S) m) x b)) = true) (hQ : wfR (rFin (rIt j (rStart (plS sgA S) (gBody (plS sgA S) m) x b))) → Q (some (.int (rIt j (rStart (plS sgA S) (gBody (plS sgA S) m) x b) 8 0))) (xCnt (psS sgA S (rFin (rIt j (rStart (plS sgA S) (gBody (plS sgA S) m) x b)))) (rIt j (rStart (plS sgA S) (gBody (plS sgA S) m) x b) 8 0))) : CC (d + 7) kX9_run layX [.ref 0, .int m, .int x, .int b] S Q := by
  refine cc_intro [some _, some _, some _, some _] (by decide) (cc_cat (by rfl)) (Nat.le_of_ble_eq_true rfl) (cc_ls (by rfl)) ?_
  refine aj_aload_n (q := 1) (i := 0) dX9_run_0 rfl rfl rfl ?_
  refine aj_getR (q := 4) fl_X9_10 dX9_run_1 rfl lX_0 rfl ?_
  refine aj_iload_n (q := 5) (i := 1) dX9_run_4 rfl rfl rfl ?_
  refine aj_callV (q := 8) (As := [_]) cl_X9_63 mk_X5_bodyOf dX9_run_5 rfl lX_2 rfl rfl (Nat.le_of_ble_eq_true rfl) (cc_frame (sg := sgA) (av := [.ref 17, .int _]) embA rfl (sg_r rfl) (sp_X5_bodyOf (fq ?_)))
  rw [psS_pl]
  refine aj_iconst (q := 9) (v := (-1)) dX9_run_8 rfl (by decide) ?_
  refine aj_icmp_eq (q := 12) (tgt := 19) dX9_run_9 rfl (by decide) (fun c => absurd c hm) (fun _ => ?_)
  refine aj_iload_n (q := 13) (i := 3) dX9_run_12 rfl rfl rfl ?_
  refine aj_callS (q := 16) (As := [_]) cl_X9_67 mk_X9_isBudget dX9_run_13 rfl rfl (Nat.le_of_ble_eq_true rfl) (sp_X9_isBudget ?_)
  refine aj_ifB_ne (q := 19) (tgt := 22) dX9_run_16 rfl (by decide) (fun _ => ?_) (fun c => absurd (hb.symm.trans c) (by decide))
  refine aj_aload_n (q := 23) (i := 0) dX9_run_22 rfl rfl rfl ?_
  refine aj_aload_n (q := 24) (i := 0) dX9_run_23 rfl rfl rfl ?_
  refine aj_getD (q := 27) (f := 2) fl_X9_25 dX9_run_24 rfl lX_0 rfl rfl ?_
  rw [hl]
  show AJ _ _ _ _ _ (.ref 9 :: _) _ _
  refine aj_aload_n (q := 28) (i := 0) dX9_run_27 rfl rfl rfl ?_
  refine aj_getR (q := 31) fl_X9_10 dX9_run_28 rfl lX_0 rfl ?_
  refine aj_iload_n (q := 32) (i := 1) dX9_run_31 rfl rfl rfl ?_
  refine aj_callV (q := 35) (As := [_]) cl_X9_63 mk_X5_bodyOf dX9_run_32 rfl lX_2 rfl rfl (Nat.le_of_ble_eq_true rfl) (cc_frame (sg := sgA) (av := [.ref 17, .int _]) embA rfl (sg_r rfl) (sp_X5_bodyOf (fq ?_)))
  rw [psS_pl]
  refine aj_iload_n (q := 36) (i := 2) dX9_run_35 rfl rfl rfl ?_
  refine aj_iload_n (q := 37) (i := 3) dX9_run_36 rfl rfl rfl ?_
  refine aj_callV (q := 40) (As := [_, _, _]) cl_X9_70 mk_X7_perform dX9_run_37 rfl lX_9 rfl rfl (Nat.le_of_ble_eq_true rfl) (cc_frame (sg := sgA) (av := [.ref 0, .int _, .int _, .int _]) embA rfl (sg_r rfl) (sp_X7_perform j hj h0 h1 hw (fun hw3 => fq ?_)))
  refine aj_callV (q := 43) (As := [_]) cl_X9_74 mk_X9_counted dX9_run_40 rfl lX_0 rfl rfl (Nat.le_of_ble_eq_true rfl) (sp_X9_counted ?_)
  refine aj_ireturn dX9_run_43 rfl ?_
  exact hQ hw3
theorem sp_X9_runB_A {d : Nat} {S : Sx} {Q : Option Value → Sx → Prop} {m x b : Int32} (hl : S 2 0 = 9) (he : S 3 0 = 26) (hw : wfR (plS sgA S)) (hm : gBody (plS sgA S) m = -1 ∨ inb b 161 = false) (hQ : Q (some (.int (-2))) S) : CC (d + 7) kX9_run layX [.ref 0, .int m, .int x, .int b] S Q := by
  refine cc_intro [some _, some _, some _, some _] (by decide) (cc_cat (by rfl)) (Nat.le_of_ble_eq_true rfl) (cc_ls (by rfl)) ?_
  refine aj_aload_n (q := 1) (i := 0) dX9_run_0 rfl rfl rfl ?_
  refine aj_getR (q := 4) fl_X9_10 dX9_run_1 rfl lX_0 rfl ?_
  refine aj_iload_n (q := 5) (i := 1) dX9_run_4 rfl rfl rfl ?_
  refine aj_callV (q := 8) (As := [_]) cl_X9_63 mk_X5_bodyOf dX9_run_5 rfl lX_2 rfl rfl (Nat.le_of_ble_eq_true rfl) (cc_frame (sg := sgA) (av := [.ref 17, .int _]) embA rfl (sg_r rfl) (sp_X5_bodyOf (fq ?_)))
  rw [psS_pl]
  refine aj_iconst (q := 9) (v := (-1)) dX9_run_8 rfl (by decide) ?_
  refine aj_icmp_eq (q := 12) (tgt := 19) dX9_run_9 rfl (by decide) (fun c9_1 => ?_) (fun c9_1 => ?_)
  · refine aj_bipush (q := 21) (v := (-2)) dX9_run_19 rfl (by decide) ?_
    refine aj_ireturn dX9_run_21 rfl ?_
    exact hQ
  · refine aj_iload_n (q := 13) (i := 3) dX9_run_12 rfl rfl rfl ?_
    refine aj_callS (q := 16) (As := [_]) cl_X9_67 mk_X9_isBudget dX9_run_13 rfl rfl (Nat.le_of_ble_eq_true rfl) (sp_X9_isBudget ?_)
    refine aj_ifB_ne (q := 19) (tgt := 22) dX9_run_16 rfl (by decide) (fun c16_2 => ?_) (fun c16_2 => ?_)
    · rcases hm with q | q
      · exact absurd q (by assumption)
      · rw [show inb b 161 = true by assumption] at q
        cases q
    · refine aj_bipush (q := 21) (v := (-2)) dX9_run_19 rfl (by decide) ?_
      refine aj_ireturn dX9_run_21 rfl ?_
      exact hQ
theorem sp_X9_run_B {d : Nat} {S : Sx} {Q : Option Value → Sx → Prop} {m x b : Int32} (j : Nat) (hl : S 2 0 = 26) (he : S 3 0 = 9) (hw : wfR (plS sgB S)) (hm : ¬ gBody (plS sgB S) m = -1) (hb : inb b 161 = true) (hj : j ≤ 1000000000) (h0 : ∀ i, i < j → fEmpty (rIt i (rStart (plS sgB S) (gBody (plS sgB S) m) x b)) = false) (h1 : fEmpty (rIt j (rStart (plS sgB S) (gBody (plS sgB S) m) x b)) = true) (hQ : wfR (rFin (rIt j (rStart (plS sgB S) (gBody (plS sgB S) m) x b))) → Q (some (.int (rIt j (rStart (plS sgB S) (gBody (plS sgB S) m) x b) 8 0))) (xCnt (psS sgB S (rFin (rIt j (rStart (plS sgB S) (gBody (plS sgB S) m) x b)))) (rIt j (rStart (plS sgB S) (gBody (plS sgB S) m) x b) 8 0))) : CC (d + 7) kX9_run layX [.ref 0, .int m, .int x, .int b] S Q := by
  refine cc_intro [some _, some _, some _, some _] (by decide) (cc_cat (by rfl)) (Nat.le_of_ble_eq_true rfl) (cc_ls (by rfl)) ?_
  refine aj_aload_n (q := 1) (i := 0) dX9_run_0 rfl rfl rfl ?_
  refine aj_getR (q := 4) fl_X9_10 dX9_run_1 rfl lX_0 rfl ?_
  refine aj_iload_n (q := 5) (i := 1) dX9_run_4 rfl rfl rfl ?_
  refine aj_callV (q := 8) (As := [_]) cl_X9_63 mk_X5_bodyOf dX9_run_5 rfl lX_2 rfl rfl (Nat.le_of_ble_eq_true rfl) (cc_frame (sg := sgB) (av := [.ref 17, .int _]) embB rfl (sg_r rfl) (sp_X5_bodyOf (fq ?_)))
  rw [psS_pl]
  refine aj_iconst (q := 9) (v := (-1)) dX9_run_8 rfl (by decide) ?_
  refine aj_icmp_eq (q := 12) (tgt := 19) dX9_run_9 rfl (by decide) (fun c => absurd c hm) (fun _ => ?_)
  refine aj_iload_n (q := 13) (i := 3) dX9_run_12 rfl rfl rfl ?_
  refine aj_callS (q := 16) (As := [_]) cl_X9_67 mk_X9_isBudget dX9_run_13 rfl rfl (Nat.le_of_ble_eq_true rfl) (sp_X9_isBudget ?_)
  refine aj_ifB_ne (q := 19) (tgt := 22) dX9_run_16 rfl (by decide) (fun _ => ?_) (fun c => absurd (hb.symm.trans c) (by decide))
  refine aj_aload_n (q := 23) (i := 0) dX9_run_22 rfl rfl rfl ?_
  refine aj_aload_n (q := 24) (i := 0) dX9_run_23 rfl rfl rfl ?_
  refine aj_getD (q := 27) (f := 2) fl_X9_25 dX9_run_24 rfl lX_0 rfl rfl ?_
  rw [hl]
  show AJ _ _ _ _ _ (.ref 26 :: _) _ _
  refine aj_aload_n (q := 28) (i := 0) dX9_run_27 rfl rfl rfl ?_
  refine aj_getR (q := 31) fl_X9_10 dX9_run_28 rfl lX_0 rfl ?_
  refine aj_iload_n (q := 32) (i := 1) dX9_run_31 rfl rfl rfl ?_
  refine aj_callV (q := 35) (As := [_]) cl_X9_63 mk_X5_bodyOf dX9_run_32 rfl lX_2 rfl rfl (Nat.le_of_ble_eq_true rfl) (cc_frame (sg := sgB) (av := [.ref 17, .int _]) embB rfl (sg_r rfl) (sp_X5_bodyOf (fq ?_)))
  rw [psS_pl]
  refine aj_iload_n (q := 36) (i := 2) dX9_run_35 rfl rfl rfl ?_
  refine aj_iload_n (q := 37) (i := 3) dX9_run_36 rfl rfl rfl ?_
  refine aj_callV (q := 40) (As := [_, _, _]) cl_X9_70 mk_X7_perform dX9_run_37 rfl lX_26 rfl rfl (Nat.le_of_ble_eq_true rfl) (cc_frame (sg := sgB) (av := [.ref 0, .int _, .int _, .int _]) embB rfl (sg_r rfl) (sp_X7_perform j hj h0 h1 hw (fun hw3 => fq ?_)))
  refine aj_callV (q := 43) (As := [_]) cl_X9_74 mk_X9_counted dX9_run_40 rfl lX_0 rfl rfl (Nat.le_of_ble_eq_true rfl) (sp_X9_counted ?_)
  refine aj_ireturn dX9_run_43 rfl ?_
  exact hQ hw3
theorem sp_X9_runB_B {d : Nat} {S : Sx} {Q : Option Value → Sx → Prop} {m x b : Int32} (hl : S 2 0 = 26) (he : S 3 0 = 9) (hw : wfR (plS sgB S)) (hm : gBody (plS sgB S) m = -1 ∨ inb b 161 = false) (hQ : Q (some (.int (-2))) S) : CC (d + 7) kX9_run layX [.ref 0, .int m, .int x, .int b] S Q := by
  refine cc_intro [some _, some _, some _, some _] (by decide) (cc_cat (by rfl)) (Nat.le_of_ble_eq_true rfl) (cc_ls (by rfl)) ?_
  refine aj_aload_n (q := 1) (i := 0) dX9_run_0 rfl rfl rfl ?_
  refine aj_getR (q := 4) fl_X9_10 dX9_run_1 rfl lX_0 rfl ?_
  refine aj_iload_n (q := 5) (i := 1) dX9_run_4 rfl rfl rfl ?_
  refine aj_callV (q := 8) (As := [_]) cl_X9_63 mk_X5_bodyOf dX9_run_5 rfl lX_2 rfl rfl (Nat.le_of_ble_eq_true rfl) (cc_frame (sg := sgB) (av := [.ref 17, .int _]) embB rfl (sg_r rfl) (sp_X5_bodyOf (fq ?_)))
  rw [psS_pl]
  refine aj_iconst (q := 9) (v := (-1)) dX9_run_8 rfl (by decide) ?_
  refine aj_icmp_eq (q := 12) (tgt := 19) dX9_run_9 rfl (by decide) (fun c9_1 => ?_) (fun c9_1 => ?_)
  · refine aj_bipush (q := 21) (v := (-2)) dX9_run_19 rfl (by decide) ?_
    refine aj_ireturn dX9_run_21 rfl ?_
    exact hQ
  · refine aj_iload_n (q := 13) (i := 3) dX9_run_12 rfl rfl rfl ?_
    refine aj_callS (q := 16) (As := [_]) cl_X9_67 mk_X9_isBudget dX9_run_13 rfl rfl (Nat.le_of_ble_eq_true rfl) (sp_X9_isBudget ?_)
    refine aj_ifB_ne (q := 19) (tgt := 22) dX9_run_16 rfl (by decide) (fun c16_2 => ?_) (fun c16_2 => ?_)
    · rcases hm with q | q
      · exact absurd q (by assumption)
      · rw [show inb b 161 = true by assumption] at q
        cases q
    · refine aj_bipush (q := 21) (v := (-2)) dX9_run_19 rfl (by decide) ?_
      refine aj_ireturn dX9_run_21 rfl ?_
      exact hQ
