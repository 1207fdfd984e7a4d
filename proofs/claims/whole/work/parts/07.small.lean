theorem sw_ne {S : Sx} {f g i j : Nat} {v : Int32} (h : g ≠ f) : sw S f i v g j = S g j := by unfold sw; rw [if_neg h]
theorem sw_eq {S : Sx} {f i : Nat} {v : Int32} : sw S f i v f i = v := by simp [sw]
theorem sw_ix {S : Sx} {f i j : Nat} {v : Int32} (h : j ≠ i) : sw S f i v f j = S f j := by simp [sw, h]
theorem sw_app (S : Sx) (f i : Nat) (v : Int32) (g j : Nat) : sw S f i v g j = if g = f then (if j = i then v else S g j) else S g j := rfl
theorem fil_ne {S : Sx} {f g n j : Nat} {v : Int32} (h : g ≠ f) : fil S f n v g j = S g j := by unfold fil; rw [if_neg (fun e => h e.1)]
section IFB
variable {d : Nat} {k : MK} {lay : Lay} {pc q : Nat} {ls : AL} {st : List Value} {S : Sx} {Q : Option Value → Sx → Prop}
theorem aj_ifB_eq {b : Bool} {off : Int} {tgt : Nat} (hd : decode k.2.1 pc = .ok (.ifCond .eq off, 3)) (hq : pc + 3 = q) (ht : (pc : Int) + off = (tgt : Int)) (kt : b = false → AJ d k lay tgt ls st S Q) (kf : b = true → AJ d k lay q ls st S Q) : AJ d k lay pc ls (.int (bi b) :: st) S Q := aj_if_eq hd hq ht (fun c => kt (bi_eq0.mp c)) (fun c => kf (bi_ne0.mp c))
theorem aj_ifB_ne {b : Bool} {off : Int} {tgt : Nat} (hd : decode k.2.1 pc = .ok (.ifCond .ne off, 3)) (hq : pc + 3 = q) (ht : (pc : Int) + off = (tgt : Int)) (kt : b = true → AJ d k lay tgt ls st S Q) (kf : b = false → AJ d k lay q ls st S Q) : AJ d k lay pc ls (.int (bi b) :: st) S Q := aj_if_ne hd hq ht (fun c => kt (bi_ne0.mp c)) (fun c => kf (bi_eq0.mp c))
end IFB
/-- what keeps the component's rows within their bounds -/
def wfR (S : Sx) : Prop := (0 ≤ (S 1105 0).toInt ∧ (S 1105 0).toInt ≤ 128) ∧ (0 ≤ (S 602 0).toInt ∧ (S 602 0).toInt ≤ 30) ∧ (0 ≤ (S 104 0).toInt ∧ (S 104 0).toInt ≤ 800) ∧ (∀ r, r < 4 → S 400 r = -1 ∨ (0 ≤ (S 400 r).toInt ∧ 0 ≤ (S 300 r).toInt ∧ (S 300 r).toInt + (S 400 r).toInt ≤ 800)) ∧ (0 ≤ (S 1706 0).toInt ∧ (S 1706 0).toInt ≤ 120) ∧ (S 607 0 = 0 ∨ S 607 0 = 1)
def wfFree (f : Nat) : Bool := !([1105, 602, 104, 400, 300, 1706, 607].contains f)
theorem wfR.sw {S : Sx} {f i : Nat} {v : Int32} (h : wfR S) (hf : wfFree f = true) : wfR (sw S f i v) := by
  have hne : 1105 ≠ f ∧ 602 ≠ f ∧ 104 ≠ f ∧ 400 ≠ f ∧ 300 ≠ f ∧ 1706 ≠ f ∧ 607 ≠ f := by
    simp [wfFree] at hf
    omega
  obtain ⟨n1, n2, n3, n4, n5, n6, n7⟩ := hne
  simpa only [wfR, sw_ne n1, sw_ne n2, sw_ne n3, sw_ne n4, sw_ne n5, sw_ne n6, sw_ne n7] using h
theorem wf_put {S : Sx} {f i : Nat} {v : Int32} {A : Prop} (h : wfR S) (hf : wfFree f = true) (k : wfR (sw S f i v) → A) : A := k (h.sw hf)
theorem i32_add {x y : Int32} (h1 : -2147483648 ≤ x.toInt + y.toInt) (h2 : x.toInt + y.toInt < 2147483648) : (x + y).toInt = x.toInt + y.toInt := by
  rw [Int32.toInt_add]
  exact Int.bmod_eq_of_le (by omega) (by omega)
theorem i32_sub {x y : Int32} (h1 : -2147483648 ≤ x.toInt - y.toInt) (h2 : x.toInt - y.toInt < 2147483648) : (x - y).toInt = x.toInt - y.toInt := by
  rw [Int32.toInt_sub]
  exact Int.bmod_eq_of_le (by omega) (by omega)
theorem i32_le {x y : Int32} : x ≤ y ↔ x.toInt ≤ y.toInt := Int32.le_iff_toInt_le
theorem i32_lt {x y : Int32} : x < y ↔ x.toInt < y.toInt := Int32.lt_iff_toInt_lt
/-! Frames -/
def fClear (S : Sx) : Sx := sw S 1105 0 0
def fEmpty (S : Sx) : Bool := decide (S 1105 0 = 0)
def fTop (S : Sx) : Nat := (S 1105 0 - 1).toNatClampNeg
def fOpen (S : Sx) (s : Int32) : Sx := if (128 : Int32) ≤ S 1105 0 then S else sw (sw (sw S 1200 (S 1105 0).toNatClampNeg s) 1300 (S 1105 0).toNatClampNeg 0) 1105 0 (S 1105 0 + 1)
def fClose (S : Sx) : Sx := if S 1105 0 ≤ 0 then S else sw S 1105 0 (S 1105 0 - 1)
def fGet (S : Sx) (f : Nat) (z : Int32) : Int32 := if S 1105 0 ≤ 0 then z else S f (fTop S)
def fSetStage (S : Sx) (g : Int32) : Sx := if S 1105 0 ≤ 0 then S else sw S 1300 (fTop S) g
def fKeep (S : Sx) (a b c : Int32) : Sx := if S 1105 0 ≤ 0 then S else sw (sw (sw S 1400 (fTop S) a) 1500 (fTop S) b) 1600 (fTop S) c
theorem wf_depth {S : Sx} (h : wfR S) (hc : ¬ (128 : Int32) ≤ S 1105 0) : vp_in (S 1105 0) 128 := vp_in_iff.mpr ⟨h.1.1, by
  have := h.1.2
  rw [i32_le] at hc
  have : (128 : Int32).toInt = 128 := rfl
  omega⟩
theorem wf_top {S : Sx} (h : wfR S) (hc : ¬ S 1105 0 ≤ 0) : vp_in (S 1105 0 - 1) 128 := by
  have h1 := h.1
  rw [i32_le] at hc
  have e0 : (0 : Int32).toInt = 0 := rfl
  have e1 : (1 : Int32).toInt = 1 := rfl
  have := i32_sub (x := S 1105 0) (y := 1) (by omega) (by omega)
  exact vp_in_iff.mpr ⟨by omega, by omega⟩
theorem wf_fClear {S : Sx} (h : wfR S) : wfR (fClear S) := by
  obtain ⟨h1, h2, h3, h4, h5, h6⟩ := h
  refine ⟨⟨by simp only [fClear, sw_eq]; decide, by simp only [fClear, sw_eq]; decide⟩, h2, h3, h4, h5, h6⟩
theorem wf_fOpen {S : Sx} {s : Int32} (h : wfR S) : wfR (fOpen S s) := by
  unfold fOpen
  split
  · exact h
  · rename_i hc
    obtain ⟨h1, h2, h3, h4, h5, h6⟩ := h
    rw [i32_le] at hc
    have e0 : (128 : Int32).toInt = 128 := rfl
    have e1 : (1 : Int32).toInt = 1 := rfl
    have := i32_add (x := S 1105 0) (y := 1) (by omega) (by omega)
    refine ⟨⟨by rw [sw_eq]; omega, by rw [sw_eq]; omega⟩, h2, h3, h4, h5, h6⟩
theorem wf_fClose {S : Sx} (h : wfR S) : wfR (fClose S) := by
  unfold fClose
  split
  · exact h
  · rename_i hc
    obtain ⟨h1, h2, h3, h4, h5, h6⟩ := h
    rw [i32_le] at hc
    have e0 : (0 : Int32).toInt = 0 := rfl
    have e1 : (1 : Int32).toInt = 1 := rfl
    have := i32_sub (x := S 1105 0) (y := 1) (by omega) (by omega)
    refine ⟨⟨by rw [sw_eq]; omega, by rw [sw_eq]; omega⟩, h2, h3, h4, h5, h6⟩
theorem wf_fSetStage {S : Sx} {g : Int32} (h : wfR S) : wfR (fSetStage S g) := by
  unfold fSetStage
  split
  · exact h
  · exact h.sw rfl
theorem wf_fKeep {S : Sx} {a b c : Int32} (h : wfR S) : wfR (fKeep S a b c) := by
  unfold fKeep
  split
  · exact h
  · exact ((h.sw rfl).sw rfl).sw rfl
theorem sp_X0_clear {d : Nat} {S : Sx} {Q : Option Value → Sx → Prop} (hw : wfR S) (hQ : wfR (fClear S) → Q none (fClear S)) : CC d kX0_clear layR [.ref 11] S Q := by
  refine cc_intro [some _] (by decide) (cc_cat (by rfl)) (Nat.le_of_ble_eq_true rfl) (cc_ls (by rfl)) ?_
  refine aj_aload_n (q := 1) (i := 0) dX0_clear_0 rfl rfl rfl ?_
  refine aj_iconst (q := 2) (v := 0) dX0_clear_1 rfl (by decide) ?_
  refine aj_putI (q := 5) (f := 1105) okR fp_X0_27 dX0_clear_2 rfl lR_11 rfl rfl ?_
  refine aj_return dX0_clear_5 rfl ?_
  exact hQ (wf_fClear hw)
theorem sp_X0_isEmpty {d : Nat} {S : Sx} {Q : Option Value → Sx → Prop} (hw : wfR S) (hQ : Q (some (.int (bi (fEmpty S)))) S) : CC d kX0_isEmpty layR [.ref 11] S Q := by
  refine cc_intro [some _] (by decide) (cc_cat (by rfl)) (Nat.le_of_ble_eq_true rfl) (cc_ls (by rfl)) ?_
  refine aj_aload_n (q := 1) (i := 0) dX0_isEmpty_0 rfl rfl rfl ?_
  refine aj_getI (q := 4) (f := 1105) fl_X0_27 dX0_isEmpty_1 rfl lR_11 rfl rfl ?_
  refine aj_if_ne (q := 7) (tgt := 11) dX0_isEmpty_4 rfl (by decide) (fun c4_1 => ?_) (fun c4_1 => ?_)
  · refine aj_iconst (q := 12) (v := 0) dX0_isEmpty_11 rfl (by decide) ?_
    refine aj_zreturn dX0_isEmpty_12 rfl (by decide) ?_
    simpa only [fEmpty, c4_1, decide_true, decide_false, bi_t, bi_f] using hQ
  · refine aj_iconst (q := 8) (v := 1) dX0_isEmpty_7 rfl (by decide) ?_
    refine aj_goto (tgt := 12) dX0_isEmpty_8 (by decide) ?_
    refine aj_zreturn dX0_isEmpty_12 rfl (by decide) ?_
    simpa only [fEmpty, c4_1, decide_true, decide_false, bi_t, bi_f] using hQ
theorem sp_X0_open {d : Nat} {S : Sx} {Q : Option Value → Sx → Prop} {s : Int32} (hw : wfR S) (hQ : wfR (fOpen S s) → Q none (fOpen S s)) : CC d kX0_open layR [.ref 11, .int s] S Q := by
  refine cc_intro [some _, some _] (by decide) (cc_cat (by rfl)) (Nat.le_of_ble_eq_true rfl) (cc_ls (by rfl)) ?_
  refine aj_aload_n (q := 1) (i := 0) dX0_open_0 rfl rfl rfl ?_
  refine aj_getI (q := 4) (f := 1105) fl_X0_27 dX0_open_1 rfl lR_11 rfl rfl ?_
  try simp only [sw_eq, sw_ne, fil_ne, ne_eq, Nat.reduceEqDiff, not_false_eq_true]
  refine aj_sipush (q := 7) (v := 128) dX0_open_4 rfl (by decide) ?_
  refine aj_icmp_ge (q := 10) (tgt := 40) dX0_open_7 rfl (by decide) (fun c7_1 => ?_) (fun c7_1 => ?_)
  · refine aj_return dX0_open_40 rfl ?_
    have hq := hQ (wf_fOpen hw)
    simpa only [fOpen, ↓reduceIte, sw_eq, sw_ne, ne_eq, Nat.reduceEqDiff, not_false_eq_true, Bool.false_eq_true, c7_1] using hq
  · refine aj_aload_n (q := 11) (i := 0) dX0_open_10 rfl rfl rfl ?_
    refine aj_getR (q := 14) fl_X0_11 dX0_open_11 rfl lR_11 rfl ?_
    refine aj_aload_n (q := 15) (i := 0) dX0_open_14 rfl rfl rfl ?_
    refine aj_getI (q := 18) (f := 1105) fl_X0_27 dX0_open_15 rfl lR_11 rfl rfl ?_
    try simp only [sw_eq, sw_ne, fil_ne, ne_eq, Nat.reduceEqDiff, not_false_eq_true]
    refine aj_iload_n (q := 19) (i := 1) dX0_open_18 rfl rfl rfl ?_
    refine aj_iastore (q := 20) (f := 1200) okR dX0_open_19 rfl lR_12 rfl (wf_depth hw c7_1) ?_
    refine aj_aload_n (q := 21) (i := 0) dX0_open_20 rfl rfl rfl ?_
    refine aj_getR (q := 24) fl_X0_15 dX0_open_21 rfl lR_11 rfl ?_
    refine aj_aload_n (q := 25) (i := 0) dX0_open_24 rfl rfl rfl ?_
    refine aj_getI (q := 28) (f := 1105) fl_X0_27 dX0_open_25 rfl lR_11 rfl rfl ?_
    try simp only [sw_eq, sw_ne, fil_ne, ne_eq, Nat.reduceEqDiff, not_false_eq_true]
    refine aj_iconst (q := 29) (v := 0) dX0_open_28 rfl (by decide) ?_
    refine aj_iastore (q := 30) (f := 1300) okR dX0_open_29 rfl lR_13 rfl (wf_depth hw c7_1) ?_
    refine aj_aload_n (q := 31) (i := 0) dX0_open_30 rfl rfl rfl ?_
    refine aj_dup (q := 32) dX0_open_31 rfl rfl ?_
    refine aj_getI (q := 35) (f := 1105) fl_X0_27 dX0_open_32 rfl lR_11 rfl rfl ?_
    try simp only [sw_eq, sw_ne, fil_ne, ne_eq, Nat.reduceEqDiff, not_false_eq_true]
    refine aj_iconst (q := 36) (v := 1) dX0_open_35 rfl (by decide) ?_
    refine aj_iadd (q := 37) dX0_open_36 rfl ?_
    refine aj_putI (q := 40) (f := 1105) okR fp_X0_27 dX0_open_37 rfl lR_11 rfl rfl ?_
    refine aj_return dX0_open_40 rfl ?_
    have hq := hQ (wf_fOpen hw)
    simpa only [fOpen, ↓reduceIte, sw_eq, sw_ne, ne_eq, Nat.reduceEqDiff, not_false_eq_true, Bool.false_eq_true, c7_1] using hq
theorem sp_X0_close {d : Nat} {S : Sx} {Q : Option Value → Sx → Prop} (hw : wfR S) (hQ : wfR (fClose S) → Q none (fClose S)) : CC d kX0_close layR [.ref 11] S Q := by
  refine cc_intro [some _] (by decide) (cc_cat (by rfl)) (Nat.le_of_ble_eq_true rfl) (cc_ls (by rfl)) ?_
  refine aj_aload_n (q := 1) (i := 0) dX0_close_0 rfl rfl rfl ?_
  refine aj_getI (q := 4) (f := 1105) fl_X0_27 dX0_close_1 rfl lR_11 rfl rfl ?_
  refine aj_if_le (q := 7) (tgt := 17) dX0_close_4 rfl (by decide) (fun c4_1 => ?_) (fun c4_1 => ?_)
  · refine aj_return dX0_close_17 rfl ?_
    have hq := hQ (wf_fClose hw)
    simpa only [fClose, ↓reduceIte, sw_eq, sw_ne, ne_eq, Nat.reduceEqDiff, not_false_eq_true, Bool.false_eq_true, c4_1] using hq
  · refine aj_aload_n (q := 8) (i := 0) dX0_close_7 rfl rfl rfl ?_
    refine aj_dup (q := 9) dX0_close_8 rfl rfl ?_
    refine aj_getI (q := 12) (f := 1105) fl_X0_27 dX0_close_9 rfl lR_11 rfl rfl ?_
    refine aj_iconst (q := 13) (v := 1) dX0_close_12 rfl (by decide) ?_
    refine aj_isub (q := 14) dX0_close_13 rfl ?_
    refine aj_putI (q := 17) (f := 1105) okR fp_X0_27 dX0_close_14 rfl lR_11 rfl rfl ?_
    refine aj_return dX0_close_17 rfl ?_
    have hq := hQ (wf_fClose hw)
    simpa only [fClose, ↓reduceIte, sw_eq, sw_ne, ne_eq, Nat.reduceEqDiff, not_false_eq_true, Bool.false_eq_true, c4_1] using hq
theorem sp_X0_statement {d : Nat} {S : Sx} {Q : Option Value → Sx → Prop} (hw : wfR S) (hQ : Q (some (.int (fGet S 1200 (-1)))) S) : CC d kX0_statement layR [.ref 11] S Q := by
  refine cc_intro [some _] (by decide) (cc_cat (by rfl)) (Nat.le_of_ble_eq_true rfl) (cc_ls (by rfl)) ?_
  refine aj_aload_n (q := 1) (i := 0) dX0_statement_0 rfl rfl rfl ?_
  refine aj_getI (q := 4) (f := 1105) fl_X0_27 dX0_statement_1 rfl lR_11 rfl rfl ?_
  refine aj_if_le (q := 7) (tgt := 21) dX0_statement_4 rfl (by decide) (fun c4_1 => ?_) (fun c4_1 => ?_)
  · refine aj_iconst (q := 22) (v := (-1)) dX0_statement_21 rfl (by decide) ?_
    refine aj_ireturn dX0_statement_22 rfl ?_
    simpa only [fGet, fTop, ↓reduceIte, c4_1] using hQ
  · refine aj_aload_n (q := 8) (i := 0) dX0_statement_7 rfl rfl rfl ?_
    refine aj_getR (q := 11) fl_X0_11 dX0_statement_8 rfl lR_11 rfl ?_
    refine aj_aload_n (q := 12) (i := 0) dX0_statement_11 rfl rfl rfl ?_
    refine aj_getI (q := 15) (f := 1105) fl_X0_27 dX0_statement_12 rfl lR_11 rfl rfl ?_
    refine aj_iconst (q := 16) (v := 1) dX0_statement_15 rfl (by decide) ?_
    refine aj_isub (q := 17) dX0_statement_16 rfl ?_
    refine aj_iaload (q := 18) (f := 1200) dX0_statement_17 rfl lR_12 rfl (wf_top hw c4_1) ?_
    refine aj_goto (tgt := 22) dX0_statement_18 (by decide) ?_
    refine aj_ireturn dX0_statement_22 rfl ?_
    simpa only [fGet, fTop, ↓reduceIte, c4_1] using hQ
theorem sp_X0_stage {d : Nat} {S : Sx} {Q : Option Value → Sx → Prop} (hw : wfR S) (hQ : Q (some (.int (fGet S 1300 (0)))) S) : CC d kX0_stage layR [.ref 11] S Q := by
  refine cc_intro [some _] (by decide) (cc_cat (by rfl)) (Nat.le_of_ble_eq_true rfl) (cc_ls (by rfl)) ?_
  refine aj_aload_n (q := 1) (i := 0) dX0_stage_0 rfl rfl rfl ?_
  refine aj_getI (q := 4) (f := 1105) fl_X0_27 dX0_stage_1 rfl lR_11 rfl rfl ?_
  refine aj_if_le (q := 7) (tgt := 21) dX0_stage_4 rfl (by decide) (fun c4_1 => ?_) (fun c4_1 => ?_)
  · refine aj_iconst (q := 22) (v := 0) dX0_stage_21 rfl (by decide) ?_
    refine aj_ireturn dX0_stage_22 rfl ?_
    simpa only [fGet, fTop, ↓reduceIte, c4_1] using hQ
  · refine aj_aload_n (q := 8) (i := 0) dX0_stage_7 rfl rfl rfl ?_
    refine aj_getR (q := 11) fl_X0_15 dX0_stage_8 rfl lR_11 rfl ?_
    refine aj_aload_n (q := 12) (i := 0) dX0_stage_11 rfl rfl rfl ?_
    refine aj_getI (q := 15) (f := 1105) fl_X0_27 dX0_stage_12 rfl lR_11 rfl rfl ?_
    refine aj_iconst (q := 16) (v := 1) dX0_stage_15 rfl (by decide) ?_
    refine aj_isub (q := 17) dX0_stage_16 rfl ?_
    refine aj_iaload (q := 18) (f := 1300) dX0_stage_17 rfl lR_13 rfl (wf_top hw c4_1) ?_
    refine aj_goto (tgt := 22) dX0_stage_18 (by decide) ?_
    refine aj_ireturn dX0_stage_22 rfl ?_
    simpa only [fGet, fTop, ↓reduceIte, c4_1] using hQ
theorem sp_X0_keptEnding {d : Nat} {S : Sx} {Q : Option Value → Sx → Prop} (hw : wfR S) (hQ : Q (some (.int (fGet S 1400 (0)))) S) : CC d kX0_keptEnding layR [.ref 11] S Q := by
  refine cc_intro [some _] (by decide) (cc_cat (by rfl)) (Nat.le_of_ble_eq_true rfl) (cc_ls (by rfl)) ?_
  refine aj_aload_n (q := 1) (i := 0) dX0_keptEnding_0 rfl rfl rfl ?_
  refine aj_getI (q := 4) (f := 1105) fl_X0_27 dX0_keptEnding_1 rfl lR_11 rfl rfl ?_
  refine aj_if_le (q := 7) (tgt := 21) dX0_keptEnding_4 rfl (by decide) (fun c4_1 => ?_) (fun c4_1 => ?_)
  · refine aj_iconst (q := 22) (v := 0) dX0_keptEnding_21 rfl (by decide) ?_
    refine aj_ireturn dX0_keptEnding_22 rfl ?_
    simpa only [fGet, fTop, ↓reduceIte, c4_1] using hQ
  · refine aj_aload_n (q := 8) (i := 0) dX0_keptEnding_7 rfl rfl rfl ?_
    refine aj_getR (q := 11) fl_X0_18 dX0_keptEnding_8 rfl lR_11 rfl ?_
    refine aj_aload_n (q := 12) (i := 0) dX0_keptEnding_11 rfl rfl rfl ?_
    refine aj_getI (q := 15) (f := 1105) fl_X0_27 dX0_keptEnding_12 rfl lR_11 rfl rfl ?_
    refine aj_iconst (q := 16) (v := 1) dX0_keptEnding_15 rfl (by decide) ?_
    refine aj_isub (q := 17) dX0_keptEnding_16 rfl ?_
    refine aj_iaload (q := 18) (f := 1400) dX0_keptEnding_17 rfl lR_14 rfl (wf_top hw c4_1) ?_
    refine aj_goto (tgt := 22) dX0_keptEnding_18 (by decide) ?_
    refine aj_ireturn dX0_keptEnding_22 rfl ?_
    simpa only [fGet, fTop, ↓reduceIte, c4_1] using hQ
theorem sp_X0_keptKind {d : Nat} {S : Sx} {Q : Option Value → Sx → Prop} (hw : wfR S) (hQ : Q (some (.int (fGet S 1500 (0)))) S) : CC d kX0_keptKind layR [.ref 11] S Q := by
  refine cc_intro [some _] (by decide) (cc_cat (by rfl)) (Nat.le_of_ble_eq_true rfl) (cc_ls (by rfl)) ?_
  refine aj_aload_n (q := 1) (i := 0) dX0_keptKind_0 rfl rfl rfl ?_
  refine aj_getI (q := 4) (f := 1105) fl_X0_27 dX0_keptKind_1 rfl lR_11 rfl rfl ?_
  refine aj_if_le (q := 7) (tgt := 21) dX0_keptKind_4 rfl (by decide) (fun c4_1 => ?_) (fun c4_1 => ?_)
  · refine aj_iconst (q := 22) (v := 0) dX0_keptKind_21 rfl (by decide) ?_
    refine aj_ireturn dX0_keptKind_22 rfl ?_
    simpa only [fGet, fTop, ↓reduceIte, c4_1] using hQ
  · refine aj_aload_n (q := 8) (i := 0) dX0_keptKind_7 rfl rfl rfl ?_
    refine aj_getR (q := 11) fl_X0_21 dX0_keptKind_8 rfl lR_11 rfl ?_
    refine aj_aload_n (q := 12) (i := 0) dX0_keptKind_11 rfl rfl rfl ?_
    refine aj_getI (q := 15) (f := 1105) fl_X0_27 dX0_keptKind_12 rfl lR_11 rfl rfl ?_
    refine aj_iconst (q := 16) (v := 1) dX0_keptKind_15 rfl (by decide) ?_
    refine aj_isub (q := 17) dX0_keptKind_16 rfl ?_
    refine aj_iaload (q := 18) (f := 1500) dX0_keptKind_17 rfl lR_15 rfl (wf_top hw c4_1) ?_
    refine aj_goto (tgt := 22) dX0_keptKind_18 (by decide) ?_
    refine aj_ireturn dX0_keptKind_22 rfl ?_
    simpa only [fGet, fTop, ↓reduceIte, c4_1] using hQ
theorem sp_X0_keptNumber {d : Nat} {S : Sx} {Q : Option Value → Sx → Prop} (hw : wfR S) (hQ : Q (some (.int (fGet S 1600 (0)))) S) : CC d kX0_keptNumber layR [.ref 11] S Q := by
  refine cc_intro [some _] (by decide) (cc_cat (by rfl)) (Nat.le_of_ble_eq_true rfl) (cc_ls (by rfl)) ?_
  refine aj_aload_n (q := 1) (i := 0) dX0_keptNumber_0 rfl rfl rfl ?_
  refine aj_getI (q := 4) (f := 1105) fl_X0_27 dX0_keptNumber_1 rfl lR_11 rfl rfl ?_
  refine aj_if_le (q := 7) (tgt := 21) dX0_keptNumber_4 rfl (by decide) (fun c4_1 => ?_) (fun c4_1 => ?_)
  · refine aj_iconst (q := 22) (v := 0) dX0_keptNumber_21 rfl (by decide) ?_
    refine aj_ireturn dX0_keptNumber_22 rfl ?_
    simpa only [fGet, fTop, ↓reduceIte, c4_1] using hQ
  · refine aj_aload_n (q := 8) (i := 0) dX0_keptNumber_7 rfl rfl rfl ?_
    refine aj_getR (q := 11) fl_X0_24 dX0_keptNumber_8 rfl lR_11 rfl ?_
    refine aj_aload_n (q := 12) (i := 0) dX0_keptNumber_11 rfl rfl rfl ?_
    refine aj_getI (q := 15) (f := 1105) fl_X0_27 dX0_keptNumber_12 rfl lR_11 rfl rfl ?_
    refine aj_iconst (q := 16) (v := 1) dX0_keptNumber_15 rfl (by decide) ?_
    refine aj_isub (q := 17) dX0_keptNumber_16 rfl ?_
    refine aj_iaload (q := 18) (f := 1600) dX0_keptNumber_17 rfl lR_16 rfl (wf_top hw c4_1) ?_
    refine aj_goto (tgt := 22) dX0_keptNumber_18 (by decide) ?_
    refine aj_ireturn dX0_keptNumber_22 rfl ?_
    simpa only [fGet, fTop, ↓reduceIte, c4_1] using hQ
theorem sp_X0_setStage {d : Nat} {S : Sx} {Q : Option Value → Sx → Prop} {g : Int32} (hw : wfR S) (hQ : wfR (fSetStage S g) → Q none (fSetStage S g)) : CC d kX0_setStage layR [.ref 11, .int g] S Q := by
  refine cc_intro [some _, some _] (by decide) (cc_cat (by rfl)) (Nat.le_of_ble_eq_true rfl) (cc_ls (by rfl)) ?_
  refine aj_aload_n (q := 1) (i := 0) dX0_setStage_0 rfl rfl rfl ?_
  refine aj_getI (q := 4) (f := 1105) fl_X0_27 dX0_setStage_1 rfl lR_11 rfl rfl ?_
  refine aj_if_le (q := 7) (tgt := 19) dX0_setStage_4 rfl (by decide) (fun c4_1 => ?_) (fun c4_1 => ?_)
  · refine aj_return dX0_setStage_19 rfl ?_
    have hq := hQ (wf_fSetStage hw)
    simpa only [fSetStage, fTop, ↓reduceIte, sw_eq, sw_ne, ne_eq, Nat.reduceEqDiff, not_false_eq_true, Bool.false_eq_true, c4_1] using hq
  · refine aj_aload_n (q := 8) (i := 0) dX0_setStage_7 rfl rfl rfl ?_
    refine aj_getR (q := 11) fl_X0_15 dX0_setStage_8 rfl lR_11 rfl ?_
    refine aj_aload_n (q := 12) (i := 0) dX0_setStage_11 rfl rfl rfl ?_
    refine aj_getI (q := 15) (f := 1105) fl_X0_27 dX0_setStage_12 rfl lR_11 rfl rfl ?_
    refine aj_iconst (q := 16) (v := 1) dX0_setStage_15 rfl (by decide) ?_
    refine aj_isub (q := 17) dX0_setStage_16 rfl ?_
    refine aj_iload_n (q := 18) (i := 1) dX0_setStage_17 rfl rfl rfl ?_
    refine aj_iastore (q := 19) (f := 1300) okR dX0_setStage_18 rfl lR_13 rfl (wf_top hw c4_1) ?_
    refine aj_return dX0_setStage_19 rfl ?_
    have hq := hQ (wf_fSetStage hw)
    simpa only [fSetStage, fTop, ↓reduceIte, sw_eq, sw_ne, ne_eq, Nat.reduceEqDiff, not_false_eq_true, Bool.false_eq_true, c4_1] using hq
theorem sp_X0_keep {d : Nat} {S : Sx} {Q : Option Value → Sx → Prop} {a b c : Int32} (hw : wfR S) (hQ : wfR (fKeep S a b c) → Q none (fKeep S a b c)) : CC d kX0_keep layR [.ref 11, .int a, .int b, .int c] S Q := by
  refine cc_intro [some _, some _, some _, some _] (by decide) (cc_cat (by rfl)) (Nat.le_of_ble_eq_true rfl) (cc_ls (by rfl)) ?_
  refine aj_aload_n (q := 1) (i := 0) dX0_keep_0 rfl rfl rfl ?_
  refine aj_getI (q := 4) (f := 1105) fl_X0_27 dX0_keep_1 rfl lR_11 rfl rfl ?_
  try simp only [sw_eq, sw_ne, fil_ne, ne_eq, Nat.reduceEqDiff, not_false_eq_true]
  refine aj_if_le (q := 7) (tgt := 43) dX0_keep_4 rfl (by decide) (fun c4_1 => ?_) (fun c4_1 => ?_)
  · refine aj_return dX0_keep_43 rfl ?_
    have hq := hQ (wf_fKeep hw)
    simpa only [fKeep, fTop, ↓reduceIte, sw_eq, sw_ne, ne_eq, Nat.reduceEqDiff, not_false_eq_true, Bool.false_eq_true, c4_1] using hq
  · refine aj_aload_n (q := 8) (i := 0) dX0_keep_7 rfl rfl rfl ?_
    refine aj_getR (q := 11) fl_X0_18 dX0_keep_8 rfl lR_11 rfl ?_
    refine aj_aload_n (q := 12) (i := 0) dX0_keep_11 rfl rfl rfl ?_
    refine aj_getI (q := 15) (f := 1105) fl_X0_27 dX0_keep_12 rfl lR_11 rfl rfl ?_
    try simp only [sw_eq, sw_ne, fil_ne, ne_eq, Nat.reduceEqDiff, not_false_eq_true]
    refine aj_iconst (q := 16) (v := 1) dX0_keep_15 rfl (by decide) ?_
    refine aj_isub (q := 17) dX0_keep_16 rfl ?_
    refine aj_iload_n (q := 18) (i := 1) dX0_keep_17 rfl rfl rfl ?_
    refine aj_iastore (q := 19) (f := 1400) okR dX0_keep_18 rfl lR_14 rfl (wf_top hw c4_1) ?_
    refine aj_aload_n (q := 20) (i := 0) dX0_keep_19 rfl rfl rfl ?_
    refine aj_getR (q := 23) fl_X0_21 dX0_keep_20 rfl lR_11 rfl ?_
    refine aj_aload_n (q := 24) (i := 0) dX0_keep_23 rfl rfl rfl ?_
    refine aj_getI (q := 27) (f := 1105) fl_X0_27 dX0_keep_24 rfl lR_11 rfl rfl ?_
    try simp only [sw_eq, sw_ne, fil_ne, ne_eq, Nat.reduceEqDiff, not_false_eq_true]
    refine aj_iconst (q := 28) (v := 1) dX0_keep_27 rfl (by decide) ?_
    refine aj_isub (q := 29) dX0_keep_28 rfl ?_
    refine aj_iload_n (q := 30) (i := 2) dX0_keep_29 rfl rfl rfl ?_
    refine aj_iastore (q := 31) (f := 1500) okR dX0_keep_30 rfl lR_15 rfl (wf_top hw c4_1) ?_
    refine aj_aload_n (q := 32) (i := 0) dX0_keep_31 rfl rfl rfl ?_
    refine aj_getR (q := 35) fl_X0_24 dX0_keep_32 rfl lR_11 rfl ?_
    refine aj_aload_n (q := 36) (i := 0) dX0_keep_35 rfl rfl rfl ?_
    refine aj_getI (q := 39) (f := 1105) fl_X0_27 dX0_keep_36 rfl lR_11 rfl rfl ?_
    try simp only [sw_eq, sw_ne, fil_ne, ne_eq, Nat.reduceEqDiff, not_false_eq_true]
    refine aj_iconst (q := 40) (v := 1) dX0_keep_39 rfl (by decide) ?_
    refine aj_isub (q := 41) dX0_keep_40 rfl ?_
    refine aj_iload_n (q := 42) (i := 3) dX0_keep_41 rfl rfl rfl ?_
    refine aj_iastore (q := 43) (f := 1600) okR dX0_keep_42 rfl lR_16 rfl (wf_top hw c4_1) ?_
    refine aj_return dX0_keep_43 rfl ?_
    have hq := hQ (wf_fKeep hw)
    simpa only [fKeep, fTop, ↓reduceIte, sw_eq, sw_ne, ne_eq, Nat.reduceEqDiff, not_false_eq_true, Bool.false_eq_true, c4_1] using hq
/-! Locks -/
def lClear (S : Sx) : Sx := sw (fil S 1000 4 0) 901 0 0
def lTake (S : Sx) (k : Int32) : Sx := if inb k 4 then sw (sw S 1000 k.toNatClampNeg (S 1000 k.toNatClampNeg + 1)) 901 0 (imax (S 901 0) (S 1000 k.toNatClampNeg + 1)) else S
def lFree (S : Sx) (k : Int32) : Sx := if inb k 4 then sw S 1000 k.toNatClampNeg (S 1000 k.toNatClampNeg - 1) else S
def lSum (S : Sx) : Int32 := 0 + S 1000 0 + S 1000 1 + S 1000 2 + S 1000 3
theorem wf_fil {S : Sx} {f n : Nat} {v : Int32} (h : wfR S) (hf : wfFree f = true) : wfR (fil S f n v) := by
  have hne : 1105 ≠ f ∧ 602 ≠ f ∧ 104 ≠ f ∧ 400 ≠ f ∧ 300 ≠ f ∧ 1706 ≠ f ∧ 607 ≠ f := by
    simp [wfFree] at hf
    omega
  obtain ⟨n1, n2, n3, n4, n5, n6, n7⟩ := hne
  simpa only [wfR, fil_ne n1, fil_ne n2, fil_ne n3, fil_ne n4, fil_ne n5, fil_ne n6, fil_ne n7] using h
theorem wf_lClear {S : Sx} (h : wfR S) : wfR (lClear S) := (wf_fil h rfl).sw rfl
theorem wf_lTake {S : Sx} {k : Int32} (h : wfR S) : wfR (lTake S k) := by
  unfold lTake
  split
  · exact (h.sw rfl).sw rfl
  · exact h
theorem wf_lFree {S : Sx} {k : Int32} (h : wfR S) : wfR (lFree S k) := by
  unfold lFree
  split
  · exact h.sw rfl
  · exact h
theorem sp_X2_clear {d : Nat} {S : Sx} {Q : Option Value → Sx → Prop} (hw : wfR S) (hQ : wfR (lClear S) → Q none (lClear S)) : CC (d + 1) kX2_clear layR [.ref 9] S Q := by
  refine cc_intro [some _] (by decide) (cc_cat (by rfl)) (Nat.le_of_ble_eq_true rfl) (cc_ls (by rfl)) ?_
  refine aj_aload_n (q := 1) (i := 0) dX2_clear_0 rfl rfl rfl ?_
  refine aj_getR (q := 4) fl_X2_9 dX2_clear_1 rfl lR_9 rfl ?_
  refine aj_iconst (q := 5) (v := 0) dX2_clear_4 rfl (by decide) ?_
  refine aj_callS (q := 8) (As := [_, _]) cl_X2_15 mk_J7_fill_53178 dX2_clear_5 rfl rfl (Nat.le_of_ble_eq_true rfl) (sp_fill okR lR_10 (by decide) ?_)
  refine aj_aload_n (q := 9) (i := 0) dX2_clear_8 rfl rfl rfl ?_
  refine aj_iconst (q := 10) (v := 0) dX2_clear_9 rfl (by decide) ?_
  refine aj_putI (q := 13) (f := 901) okR fp_X2_21 dX2_clear_10 rfl lR_9 rfl rfl ?_
  refine aj_return dX2_clear_13 rfl ?_
  exact hQ (wf_lClear hw)
theorem sp_X2_take {d : Nat} {S : Sx} {Q : Option Value → Sx → Prop} {k : Int32} (hw : wfR S) (hQ : wfR (lTake S k) → Q none (lTake S k)) : CC (d + 1) kX2_take layR [.ref 9, .int k] S Q := by
  refine cc_intro [some _, some _] (by decide) (cc_cat (by rfl)) (Nat.le_of_ble_eq_true rfl) (cc_ls (by rfl)) ?_
  refine aj_iload_n (q := 1) (i := 1) dX2_take_0 rfl rfl rfl ?_
  refine aj_iconst (q := 2) (v := 4) dX2_take_1 rfl (by decide) ?_
  refine aj_callS (q := 5) (As := [_, _]) cl_X2_25 mk_X9_isBelow dX2_take_2 rfl rfl (Nat.le_of_ble_eq_true rfl) (sp_isBelow ?_)
  refine aj_ifB_eq (q := 8) (tgt := 35) dX2_take_5 rfl (by decide) (fun c5_1 => ?_) (fun c5_1 => ?_)
  · refine aj_return dX2_take_35 rfl ?_
    have hq := hQ (wf_lTake hw)
    simpa only [lTake, ↓reduceIte, sw_eq, sw_ne, ne_eq, Nat.reduceEqDiff, not_false_eq_true, Bool.false_eq_true, c5_1] using hq
  · refine aj_aload_n (q := 9) (i := 0) dX2_take_8 rfl rfl rfl ?_
    refine aj_getR (q := 12) fl_X2_9 dX2_take_9 rfl lR_9 rfl ?_
    refine aj_iload_n (q := 13) (i := 1) dX2_take_12 rfl rfl rfl ?_
    refine aj_dup2 (q := 14) dX2_take_13 rfl rfl rfl ?_
    refine aj_iaload (q := 15) (f := 1000) dX2_take_14 rfl lR_10 rfl (vin (by decide) c5_1) ?_
    try simp only [sw_eq, sw_ne, fil_ne, ne_eq, Nat.reduceEqDiff, not_false_eq_true]
    refine aj_iconst (q := 16) (v := 1) dX2_take_15 rfl (by decide) ?_
    refine aj_iadd (q := 17) dX2_take_16 rfl ?_
    refine aj_iastore (q := 18) (f := 1000) okR dX2_take_17 rfl lR_10 rfl (vin (by decide) c5_1) ?_
    refine aj_aload_n (q := 19) (i := 0) dX2_take_18 rfl rfl rfl ?_
    refine aj_aload_n (q := 20) (i := 0) dX2_take_19 rfl rfl rfl ?_
    refine aj_getI (q := 23) (f := 901) fl_X2_21 dX2_take_20 rfl lR_9 rfl rfl ?_
    try simp only [sw_eq, sw_ne, fil_ne, ne_eq, Nat.reduceEqDiff, not_false_eq_true]
    refine aj_aload_n (q := 24) (i := 0) dX2_take_23 rfl rfl rfl ?_
    refine aj_getR (q := 27) fl_X2_9 dX2_take_24 rfl lR_9 rfl ?_
    refine aj_iload_n (q := 28) (i := 1) dX2_take_27 rfl rfl rfl ?_
    refine aj_iaload (q := 29) (f := 1000) dX2_take_28 rfl lR_10 rfl (vin (by decide) c5_1) ?_
    try simp only [sw_eq, sw_ne, fil_ne, ne_eq, Nat.reduceEqDiff, not_false_eq_true]
    refine aj_max (q := 32) cm_X2_29 dX2_take_29 rfl (Nat.le_of_ble_eq_true rfl) ?_
    refine aj_putI (q := 35) (f := 901) okR fp_X2_21 dX2_take_32 rfl lR_9 rfl rfl ?_
    refine aj_return dX2_take_35 rfl ?_
    have hq := hQ (wf_lTake hw)
    simpa only [lTake, ↓reduceIte, sw_eq, sw_ne, ne_eq, Nat.reduceEqDiff, not_false_eq_true, Bool.false_eq_true, c5_1] using hq
theorem sp_X2_free {d : Nat} {S : Sx} {Q : Option Value → Sx → Prop} {k : Int32} (hw : wfR S) (hQ : wfR (lFree S k) → Q none (lFree S k)) : CC (d + 1) kX2_free layR [.ref 9, .int k] S Q := by
  refine cc_intro [some _, some _] (by decide) (cc_cat (by rfl)) (Nat.le_of_ble_eq_true rfl) (cc_ls (by rfl)) ?_
  refine aj_iload_n (q := 1) (i := 1) dX2_free_0 rfl rfl rfl ?_
  refine aj_iconst (q := 2) (v := 4) dX2_free_1 rfl (by decide) ?_
  refine aj_callS (q := 5) (As := [_, _]) cl_X2_25 mk_X9_isBelow dX2_free_2 rfl rfl (Nat.le_of_ble_eq_true rfl) (sp_isBelow ?_)
  refine aj_ifB_eq (q := 8) (tgt := 18) dX2_free_5 rfl (by decide) (fun c5_1 => ?_) (fun c5_1 => ?_)
  · refine aj_return dX2_free_18 rfl ?_
    have hq := hQ (wf_lFree hw)
    simpa only [lFree, ↓reduceIte, sw_eq, sw_ne, ne_eq, Nat.reduceEqDiff, not_false_eq_true, Bool.false_eq_true, c5_1] using hq
  · refine aj_aload_n (q := 9) (i := 0) dX2_free_8 rfl rfl rfl ?_
    refine aj_getR (q := 12) fl_X2_9 dX2_free_9 rfl lR_9 rfl ?_
    refine aj_iload_n (q := 13) (i := 1) dX2_free_12 rfl rfl rfl ?_
    refine aj_dup2 (q := 14) dX2_free_13 rfl rfl rfl ?_
    refine aj_iaload (q := 15) (f := 1000) dX2_free_14 rfl lR_10 rfl (vin (by decide) c5_1) ?_
    try simp only [sw_eq, sw_ne, fil_ne, ne_eq, Nat.reduceEqDiff, not_false_eq_true]
    refine aj_iconst (q := 16) (v := 1) dX2_free_15 rfl (by decide) ?_
    refine aj_isub (q := 17) dX2_free_16 rfl ?_
    refine aj_iastore (q := 18) (f := 1000) okR dX2_free_17 rfl lR_10 rfl (vin (by decide) c5_1) ?_
    refine aj_return dX2_free_18 rfl ?_
    have hq := hQ (wf_lFree hw)
    simpa only [lFree, ↓reduceIte, sw_eq, sw_ne, ne_eq, Nat.reduceEqDiff, not_false_eq_true, Bool.false_eq_true, c5_1] using hq
theorem sp_X2_most {d : Nat} {S : Sx} {Q : Option Value → Sx → Prop} (hw : wfR S) (hQ : Q (some (.int (S 901 0))) S) : CC d kX2_most layR [.ref 9] S Q := by
  refine cc_intro [some _] (by decide) (cc_cat (by rfl)) (Nat.le_of_ble_eq_true rfl) (cc_ls (by rfl)) ?_
  refine aj_aload_n (q := 1) (i := 0) dX2_most_0 rfl rfl rfl ?_
  refine aj_getI (q := 4) (f := 901) fl_X2_21 dX2_most_1 rfl lR_9 rfl rfl ?_
  refine aj_ireturn dX2_most_4 rfl ?_
  exact hQ
/-! Mark -/
def mkPrice (n : Int32) : Int32 := if 0 ≤ n then 1 + n / 4 else 1
theorem sp_X3_makingPrice {d : Nat} {S : Sx} {Q : Option Value → Sx → Prop} {n : Int32} (hQ : Q (some (.int (mkPrice n))) S) : CC d kX3_makingPrice layR [.int n] S Q := by
  refine cc_intro [some _] (by decide) (cc_cat (by rfl)) (Nat.le_of_ble_eq_true rfl) (cc_ls (by rfl)) ?_
  refine aj_iload_n (q := 1) (i := 0) dX3_makingPrice_0 rfl rfl rfl ?_
  refine aj_if_ge (q := 4) (tgt := 8) dX3_makingPrice_1 rfl (by decide) (fun c1_1 => ?_) (fun c1_1 => ?_)
  · refine aj_iconst (q := 9) (v := 1) dX3_makingPrice_8 rfl (by decide) ?_
    refine aj_iload_n (q := 10) (i := 0) dX3_makingPrice_9 rfl rfl rfl ?_
    refine aj_iconst (q := 11) (v := 4) dX3_makingPrice_10 rfl (by decide) ?_
    refine aj_idiv (q := 12) dX3_makingPrice_11 rfl (by decide) ?_
    refine aj_iadd (q := 13) dX3_makingPrice_12 rfl ?_
    refine aj_ireturn dX3_makingPrice_13 rfl ?_
    simpa only [mkPrice, ↓reduceIte, c1_1] using hQ
  · refine aj_iconst (q := 5) (v := 1) dX3_makingPrice_4 rfl (by decide) ?_
    refine aj_goto (tgt := 13) dX3_makingPrice_5 (by decide) ?_
    refine aj_ireturn dX3_makingPrice_13 rfl ?_
    simpa only [mkPrice, ↓reduceIte, c1_1] using hQ
/-! Memory -/
def mRead (S : Sx) (x : Int32) : Int32 := if inb x 8 then S 200 x.toNatClampNeg else 0
def mWrite (S : Sx) (x v : Int32) : Sx := if inb x 8 then sw S 200 x.toNatClampNeg v else S
def mLen (S : Sx) (r : Int32) : Int32 := if inb r 4 then S 400 r.toNatClampNeg else -1
def mMake (S : Sx) (r n : Int32) : Sx := if inb r 4 then (if inb n (800 - S 104 0 + 1) then sw (sw (sw S 300 r.toNatClampNeg (S 104 0)) 400 r.toNatClampNeg n) 104 0 (S 104 0 + n) else S) else S
def mForget (S : Sx) (r : Int32) : Sx := if inb r 4 then sw S 400 r.toNatClampNeg (-1) else S
def mShare (S : Sx) (r f : Int32) : Sx := if inb r 4 then (if inb f 4 then sw (sw S 300 r.toNatClampNeg (S 300 f.toNatClampNeg)) 400 r.toNatClampNeg (S 400 f.toNatClampNeg) else S) else S
def mLoad (S : Sx) (r i : Int32) : Int32 := if inb i (mLen S r) then S 500 (S 300 r.toNatClampNeg + i).toNatClampNeg else 0
def mStore (S : Sx) (r i v : Int32) : Sx := if inb i (mLen S r) then sw S 500 (S 300 r.toNatClampNeg + i).toNatClampNeg v else S
def mClear (S : Sx) : Sx := sw (sw (fil (fil (fil S 200 8 0) 400 4 (-1)) 500 800 0) 104 0 0) 105 0 0
theorem inb_nat {x m : Int32} {n : Nat} (hm : m.toInt = n) (h : inb x m = true) : x.toNatClampNeg < n ∧ (x.toNatClampNeg : Int) = x.toInt := by
  have h1 := inb_iff.mp h
  have : (x.toNatClampNeg : Int) = x.toInt := by
    show ((x.toInt.toNat : Nat) : Int) = x.toInt
    omega
  omega
theorem ml_row {S : Sx} {r i : Int32} (h : inb i (mLen S r) = true) : inb r 4 = true := by
  cases hr : inb r 4 with
  | true => rfl
  | false =>
    rw [mLen, hr] at h
    have h1 := inb_iff.mp h
    rw [if_neg (by decide)] at h1
    have : (-1 : Int32).toInt = -1 := rfl
    omega
theorem ml_cell {S : Sx} {r i : Int32} (hw : wfR S) (h : inb i (mLen S r) = true) : vp_in (S 300 r.toNatClampNeg + i) 800 := by
  have hr := ml_row h
  have h1 := inb_iff.mp h
  rw [mLen, if_pos hr] at h1
  have hb := hw.2.2.2.1 r.toNatClampNeg (inb_nat (n := 4) rfl hr).1
  rcases hb with hb | ⟨b1, b2, b3⟩
  · rw [hb] at h1
    have : (-1 : Int32).toInt = -1 := rfl
    omega
  · have := i32_add (x := S 300 r.toNatClampNeg) (y := i) (by omega) (by omega)
    exact vp_in_iff.mpr ⟨by omega, by omega⟩
theorem wf_mWrite {S : Sx} {x v : Int32} (h : wfR S) : wfR (mWrite S x v) := by
  unfold mWrite
  split
  · exact h.sw rfl
  · exact h
theorem wf_mStore {S : Sx} {r i v : Int32} (h : wfR S) : wfR (mStore S r i v) := by
  unfold mStore
  split
  · exact h.sw rfl
  · exact h
theorem wf_mForget {S : Sx} {r : Int32} (h : wfR S) : wfR (mForget S r) := by
  unfold mForget
  split
  · obtain ⟨h1, h2, h3, h4, h5, h6⟩ := h
    refine ⟨h1, h2, h3, fun z hz => ?_, h5, h6⟩
    by_cases e : z = r.toNatClampNeg
    · subst e
      exact Or.inl sw_eq
    · rw [sw_ix e, sw_ne (by decide)]
      exact h4 z hz
  · exact h
theorem wf_mShare {S : Sx} {r f : Int32} (h : wfR S) : wfR (mShare S r f) := by
  unfold mShare
  split
  · split
    · rename_i hf
      have hfn := (inb_nat (n := 4) rfl hf).1
      obtain ⟨h1, h2, h3, h4, h5, h6⟩ := h
      refine ⟨h1, h2, h3, fun z hz => ?_, h5, h6⟩
      by_cases e : z = r.toNatClampNeg
      · subst e
        rw [sw_eq, sw_ne (by decide), sw_eq]
        exact h4 _ hfn
      · rw [sw_ix e, sw_ne (by decide), sw_ne (by decide), sw_ix e]
        exact h4 z hz
    · exact h
  · exact h
theorem wf_mMake {S : Sx} {r n : Int32} (h : wfR S) : wfR (mMake S r n) := by
  unfold mMake
  split
  · split
    · rename_i hf
      obtain ⟨h1, h2, h3, h4, h5, h6⟩ := h
      have g := inb_iff.mp hf
      have e1 : (1 : Int32).toInt = 1 := rfl
      have e8 : (800 : Int32).toInt = 800 := rfl
      have a1 := i32_sub (x := 800) (y := S 104 0) (by omega) (by omega)
      have a2 := i32_add (x := 800 - S 104 0) (y := 1) (by omega) (by omega)
      have a3 := i32_add (x := S 104 0) (y := n) (by omega) (by omega)
      refine ⟨h1, h2, ⟨by rw [sw_eq]; omega, by rw [sw_eq]; omega⟩, fun z hz => ?_, h5, h6⟩
      by_cases e : z = r.toNatClampNeg
      · subst e
        rw [sw_ne (by decide), sw_eq, sw_ne (by decide), sw_ne (by decide), sw_eq]
        exact Or.inr ⟨by omega, by omega, by omega⟩
      · rw [sw_ne (by decide), sw_ix e, sw_ne (by decide), sw_ne (by decide), sw_ne (by decide), sw_ix e]
        exact h4 z hz
    · exact h
  · exact h
theorem wf_mClear {S : Sx} (h : wfR S) : wfR (mClear S) := by
  obtain ⟨h1, h2, h3, h4, h5, h6⟩ := h
  refine ⟨h1, h2, ⟨by rw [show mClear S 104 0 = 0 from rfl]; decide, by rw [show mClear S 104 0 = 0 from rfl]; decide⟩, fun z hz => Or.inl ?_, h5, h6⟩
  simp only [mClear, sw_ne, fil_ne, ne_eq, Nat.reduceEqDiff, not_false_eq_true]
  simp [fil, hz]
theorem sp_X4_clear {d : Nat} {S : Sx} {Q : Option Value → Sx → Prop} (hw : wfR S) (hQ : wfR (mClear S) → Q none (mClear S)) : CC (d + 1) kX4_clear layR [.ref 1] S Q := by
  refine cc_intro [some _] (by decide) (cc_cat (by rfl)) (Nat.le_of_ble_eq_true rfl) (cc_ls (by rfl)) ?_
  refine aj_aload_n (q := 1) (i := 0) dX4_clear_0 rfl rfl rfl ?_
  refine aj_getR (q := 4) fl_X4_9 dX4_clear_1 rfl lR_1 rfl ?_
  refine aj_iconst (q := 5) (v := 0) dX4_clear_4 rfl (by decide) ?_
  refine aj_callS (q := 8) (As := [_, _]) cl_X4_24 mk_J7_fill_53178 dX4_clear_5 rfl rfl (Nat.le_of_ble_eq_true rfl) (sp_fill okR lR_2 (by decide) ?_)
  refine aj_aload_n (q := 9) (i := 0) dX4_clear_8 rfl rfl rfl ?_
  refine aj_getR (q := 12) fl_X4_18 dX4_clear_9 rfl lR_1 rfl ?_
  refine aj_iconst (q := 13) (v := (-1)) dX4_clear_12 rfl (by decide) ?_
  refine aj_callS (q := 16) (As := [_, _]) cl_X4_24 mk_J7_fill_53178 dX4_clear_13 rfl rfl (Nat.le_of_ble_eq_true rfl) (sp_fill okR lR_4 (by decide) ?_)
  refine aj_aload_n (q := 17) (i := 0) dX4_clear_16 rfl rfl rfl ?_
  refine aj_getR (q := 20) fl_X4_21 dX4_clear_17 rfl lR_1 rfl ?_
  refine aj_iconst (q := 21) (v := 0) dX4_clear_20 rfl (by decide) ?_
  refine aj_callS (q := 24) (As := [_, _]) cl_X4_24 mk_J7_fill_53178 dX4_clear_21 rfl rfl (Nat.le_of_ble_eq_true rfl) (sp_fill okR lR_5 (by decide) ?_)
  refine aj_aload_n (q := 25) (i := 0) dX4_clear_24 rfl rfl rfl ?_
  refine aj_iconst (q := 26) (v := 0) dX4_clear_25 rfl (by decide) ?_
  refine aj_putI (q := 29) (f := 104) okR fp_X4_30 dX4_clear_26 rfl lR_1 rfl rfl ?_
  refine aj_aload_n (q := 30) (i := 0) dX4_clear_29 rfl rfl rfl ?_
  refine aj_iconst (q := 31) (v := 0) dX4_clear_30 rfl (by decide) ?_
  refine aj_putI (q := 34) (f := 105) okR fp_X4_34 dX4_clear_31 rfl lR_1 rfl rfl ?_
  refine aj_return dX4_clear_34 rfl ?_
  exact hQ (wf_mClear hw)
theorem sp_X4_read {d : Nat} {S : Sx} {Q : Option Value → Sx → Prop} {x : Int32} (hQ : Q (some (.int (mRead S x))) S) : CC (d + 1) kX4_read layR [.ref 1, .int x] S Q := by
  refine cc_intro [some _, some _] (by decide) (cc_cat (by rfl)) (Nat.le_of_ble_eq_true rfl) (cc_ls (by rfl)) ?_
  refine aj_iload_n (q := 1) (i := 1) dX4_read_0 rfl rfl rfl ?_
  refine aj_bipush (q := 3) (v := 8) dX4_read_1 rfl (by decide) ?_
  refine aj_callS (q := 6) (As := [_, _]) cl_X4_37 mk_X9_isBelow dX4_read_3 rfl rfl (Nat.le_of_ble_eq_true rfl) (sp_isBelow ?_)
  refine aj_ifB_eq (q := 9) (tgt := 18) dX4_read_6 rfl (by decide) (fun c6_1 => ?_) (fun c6_1 => ?_)
  · refine aj_iconst (q := 19) (v := 0) dX4_read_18 rfl (by decide) ?_
    refine aj_ireturn dX4_read_19 rfl ?_
    simpa only [mRead, ↓reduceIte, Bool.false_eq_true, c6_1] using hQ
  · refine aj_aload_n (q := 10) (i := 0) dX4_read_9 rfl rfl rfl ?_
    refine aj_getR (q := 13) fl_X4_9 dX4_read_10 rfl lR_1 rfl ?_
    refine aj_iload_n (q := 14) (i := 1) dX4_read_13 rfl rfl rfl ?_
    refine aj_iaload (q := 15) (f := 200) dX4_read_14 rfl lR_2 rfl (vin (by decide) c6_1) ?_
    refine aj_goto (tgt := 19) dX4_read_15 (by decide) ?_
    refine aj_ireturn dX4_read_19 rfl ?_
    simpa only [mRead, ↓reduceIte, Bool.false_eq_true, c6_1] using hQ
theorem sp_X4_write {d : Nat} {S : Sx} {Q : Option Value → Sx → Prop} {x v : Int32} (hw : wfR S) (hQ : wfR (mWrite S x v) → Q none (mWrite S x v)) : CC (d + 1) kX4_write layR [.ref 1, .int x, .int v] S Q := by
  refine cc_intro [some _, some _, some _] (by decide) (cc_cat (by rfl)) (Nat.le_of_ble_eq_true rfl) (cc_ls (by rfl)) ?_
  refine aj_iload_n (q := 1) (i := 1) dX4_write_0 rfl rfl rfl ?_
  refine aj_bipush (q := 3) (v := 8) dX4_write_1 rfl (by decide) ?_
  refine aj_callS (q := 6) (As := [_, _]) cl_X4_37 mk_X9_isBelow dX4_write_3 rfl rfl (Nat.le_of_ble_eq_true rfl) (sp_isBelow ?_)
  refine aj_ifB_eq (q := 9) (tgt := 16) dX4_write_6 rfl (by decide) (fun c6_1 => ?_) (fun c6_1 => ?_)
  · refine aj_return dX4_write_16 rfl ?_
    have hq := hQ (wf_mWrite hw)
    simpa only [mWrite, ↓reduceIte, sw_eq, sw_ne, ne_eq, Nat.reduceEqDiff, not_false_eq_true, Bool.false_eq_true, c6_1] using hq
  · refine aj_aload_n (q := 10) (i := 0) dX4_write_9 rfl rfl rfl ?_
    refine aj_getR (q := 13) fl_X4_9 dX4_write_10 rfl lR_1 rfl ?_
    refine aj_iload_n (q := 14) (i := 1) dX4_write_13 rfl rfl rfl ?_
    refine aj_iload_n (q := 15) (i := 2) dX4_write_14 rfl rfl rfl ?_
    refine aj_iastore (q := 16) (f := 200) okR dX4_write_15 rfl lR_2 rfl (vin (by decide) c6_1) ?_
    refine aj_return dX4_write_16 rfl ?_
    have hq := hQ (wf_mWrite hw)
    simpa only [mWrite, ↓reduceIte, sw_eq, sw_ne, ne_eq, Nat.reduceEqDiff, not_false_eq_true, Bool.false_eq_true, c6_1] using hq
theorem sp_X4_result {d : Nat} {S : Sx} {Q : Option Value → Sx → Prop} (hQ : Q (some (.int (S 105 0))) S) : CC d kX4_result layR [.ref 1] S Q := by
  refine cc_intro [some _] (by decide) (cc_cat (by rfl)) (Nat.le_of_ble_eq_true rfl) (cc_ls (by rfl)) ?_
  refine aj_aload_n (q := 1) (i := 0) dX4_result_0 rfl rfl rfl ?_
  refine aj_getI (q := 4) (f := 105) fl_X4_34 dX4_result_1 rfl lR_1 rfl rfl ?_
  refine aj_ireturn dX4_result_4 rfl ?_
  exact hQ
theorem sp_X4_setResult {d : Nat} {S : Sx} {Q : Option Value → Sx → Prop} {v : Int32} (hw : wfR S) (hQ : wfR (sw S 105 0 v) → Q none (sw S 105 0 v)) : CC d kX4_setResult layR [.ref 1, .int v] S Q := by
  refine cc_intro [some _, some _] (by decide) (cc_cat (by rfl)) (Nat.le_of_ble_eq_true rfl) (cc_ls (by rfl)) ?_
  refine aj_aload_n (q := 1) (i := 0) dX4_setResult_0 rfl rfl rfl ?_
  refine aj_iload_n (q := 2) (i := 1) dX4_setResult_1 rfl rfl rfl ?_
  refine aj_putI (q := 5) (f := 105) okR fp_X4_34 dX4_setResult_2 rfl lR_1 rfl rfl ?_
  refine aj_return dX4_setResult_5 rfl ?_
  exact hQ (hw.sw rfl)
theorem sp_X4_lengthOf {d : Nat} {S : Sx} {Q : Option Value → Sx → Prop} {r : Int32} (hQ : Q (some (.int (mLen S r))) S) : CC (d + 1) kX4_lengthOf layR [.ref 1, .int r] S Q := by
  refine cc_intro [some _, some _] (by decide) (cc_cat (by rfl)) (Nat.le_of_ble_eq_true rfl) (cc_ls (by rfl)) ?_
  refine aj_iload_n (q := 1) (i := 1) dX4_lengthOf_0 rfl rfl rfl ?_
  refine aj_iconst (q := 2) (v := 4) dX4_lengthOf_1 rfl (by decide) ?_
  refine aj_callS (q := 5) (As := [_, _]) cl_X4_37 mk_X9_isBelow dX4_lengthOf_2 rfl rfl (Nat.le_of_ble_eq_true rfl) (sp_isBelow ?_)
  refine aj_ifB_eq (q := 8) (tgt := 17) dX4_lengthOf_5 rfl (by decide) (fun c5_1 => ?_) (fun c5_1 => ?_)
  · refine aj_iconst (q := 18) (v := (-1)) dX4_lengthOf_17 rfl (by decide) ?_
    refine aj_ireturn dX4_lengthOf_18 rfl ?_
    simpa only [mLen, ↓reduceIte, Bool.false_eq_true, c5_1] using hQ
  · refine aj_aload_n (q := 9) (i := 0) dX4_lengthOf_8 rfl rfl rfl ?_
    refine aj_getR (q := 12) fl_X4_18 dX4_lengthOf_9 rfl lR_1 rfl ?_
    refine aj_iload_n (q := 13) (i := 1) dX4_lengthOf_12 rfl rfl rfl ?_
    refine aj_iaload (q := 14) (f := 400) dX4_lengthOf_13 rfl lR_4 rfl (vin (by decide) c5_1) ?_
    refine aj_goto (tgt := 18) dX4_lengthOf_14 (by decide) ?_
    refine aj_ireturn dX4_lengthOf_18 rfl ?_
    simpa only [mLen, ↓reduceIte, Bool.false_eq_true, c5_1] using hQ
theorem sp_X4_makeRow {d : Nat} {S : Sx} {Q : Option Value → Sx → Prop} {r n : Int32} (hw : wfR S) (hQ : wfR (mMake S r n) → Q none (mMake S r n)) : CC (d + 1) kX4_makeRow layR [.ref 1, .int r, .int n] S Q := by
  refine cc_intro [some _, some _, some _] (by decide) (cc_cat (by rfl)) (Nat.le_of_ble_eq_true rfl) (cc_ls (by rfl)) ?_
  refine aj_iload_n (q := 1) (i := 1) dX4_makeRow_0 rfl rfl rfl ?_
  refine aj_iconst (q := 2) (v := 4) dX4_makeRow_1 rfl (by decide) ?_
  refine aj_callS (q := 5) (As := [_, _]) cl_X4_37 mk_X9_isBelow dX4_makeRow_2 rfl rfl (Nat.le_of_ble_eq_true rfl) (sp_isBelow ?_)
  refine aj_ifB_eq (q := 8) (tgt := 25) dX4_makeRow_5 rfl (by decide) (fun c5_1 => ?_) (fun c5_1 => ?_)
  · refine aj_return dX4_makeRow_25 rfl ?_
    have hq := hQ (wf_mMake hw)
    simpa only [mMake, ↓reduceIte, sw_eq, sw_ne, ne_eq, Nat.reduceEqDiff, not_false_eq_true, Bool.false_eq_true, c5_1] using hq
  · refine aj_iload_n (q := 9) (i := 2) dX4_makeRow_8 rfl rfl rfl ?_
    refine aj_sipush (q := 12) (v := 800) dX4_makeRow_9 rfl (by decide) ?_
    refine aj_aload_n (q := 13) (i := 0) dX4_makeRow_12 rfl rfl rfl ?_
    refine aj_getI (q := 16) (f := 104) fl_X4_30 dX4_makeRow_13 rfl lR_1 rfl rfl ?_
    try simp only [sw_eq, sw_ne, fil_ne, ne_eq, Nat.reduceEqDiff, not_false_eq_true]
    refine aj_isub (q := 17) dX4_makeRow_16 rfl ?_
    refine aj_iconst (q := 18) (v := 1) dX4_makeRow_17 rfl (by decide) ?_
    refine aj_iadd (q := 19) dX4_makeRow_18 rfl ?_
    refine aj_callS (q := 22) (As := [_, _]) cl_X4_37 mk_X9_isBelow dX4_makeRow_19 rfl rfl (Nat.le_of_ble_eq_true rfl) (sp_isBelow ?_)
    refine aj_ifB_ne (q := 25) (tgt := 26) dX4_makeRow_22 rfl (by decide) (fun c22_2 => ?_) (fun c22_2 => ?_)
    · refine aj_aload_n (q := 27) (i := 0) dX4_makeRow_26 rfl rfl rfl ?_
      refine aj_getR (q := 30) fl_X4_15 dX4_makeRow_27 rfl lR_1 rfl ?_
      refine aj_iload_n (q := 31) (i := 1) dX4_makeRow_30 rfl rfl rfl ?_
      refine aj_aload_n (q := 32) (i := 0) dX4_makeRow_31 rfl rfl rfl ?_
      refine aj_getI (q := 35) (f := 104) fl_X4_30 dX4_makeRow_32 rfl lR_1 rfl rfl ?_
      try simp only [sw_eq, sw_ne, fil_ne, ne_eq, Nat.reduceEqDiff, not_false_eq_true]
      refine aj_iastore (q := 36) (f := 300) okR dX4_makeRow_35 rfl lR_3 rfl (vin (by decide) c5_1) ?_
      refine aj_aload_n (q := 37) (i := 0) dX4_makeRow_36 rfl rfl rfl ?_
      refine aj_getR (q := 40) fl_X4_18 dX4_makeRow_37 rfl lR_1 rfl ?_
      refine aj_iload_n (q := 41) (i := 1) dX4_makeRow_40 rfl rfl rfl ?_
      refine aj_iload_n (q := 42) (i := 2) dX4_makeRow_41 rfl rfl rfl ?_
      refine aj_iastore (q := 43) (f := 400) okR dX4_makeRow_42 rfl lR_4 rfl (vin (by decide) c5_1) ?_
      refine aj_aload_n (q := 44) (i := 0) dX4_makeRow_43 rfl rfl rfl ?_
      refine aj_dup (q := 45) dX4_makeRow_44 rfl rfl ?_
      refine aj_getI (q := 48) (f := 104) fl_X4_30 dX4_makeRow_45 rfl lR_1 rfl rfl ?_
      try simp only [sw_eq, sw_ne, fil_ne, ne_eq, Nat.reduceEqDiff, not_false_eq_true]
      refine aj_iload_n (q := 49) (i := 2) dX4_makeRow_48 rfl rfl rfl ?_
      refine aj_iadd (q := 50) dX4_makeRow_49 rfl ?_
      refine aj_putI (q := 53) (f := 104) okR fp_X4_30 dX4_makeRow_50 rfl lR_1 rfl rfl ?_
      refine aj_return dX4_makeRow_53 rfl ?_
      have hq := hQ (wf_mMake hw)
      simpa only [mMake, ↓reduceIte, sw_eq, sw_ne, ne_eq, Nat.reduceEqDiff, not_false_eq_true, Bool.false_eq_true, c5_1, c22_2] using hq
    · refine aj_return dX4_makeRow_25 rfl ?_
      have hq := hQ (wf_mMake hw)
      simpa only [mMake, ↓reduceIte, sw_eq, sw_ne, ne_eq, Nat.reduceEqDiff, not_false_eq_true, Bool.false_eq_true, c5_1, c22_2] using hq
theorem sp_X4_forgetRow {d : Nat} {S : Sx} {Q : Option Value → Sx → Prop} {r : Int32} (hw : wfR S) (hQ : wfR (mForget S r) → Q none (mForget S r)) : CC (d + 1) kX4_forgetRow layR [.ref 1, .int r] S Q := by
  refine cc_intro [some _, some _] (by decide) (cc_cat (by rfl)) (Nat.le_of_ble_eq_true rfl) (cc_ls (by rfl)) ?_
  refine aj_iload_n (q := 1) (i := 1) dX4_forgetRow_0 rfl rfl rfl ?_
  refine aj_iconst (q := 2) (v := 4) dX4_forgetRow_1 rfl (by decide) ?_
  refine aj_callS (q := 5) (As := [_, _]) cl_X4_37 mk_X9_isBelow dX4_forgetRow_2 rfl rfl (Nat.le_of_ble_eq_true rfl) (sp_isBelow ?_)
  refine aj_ifB_eq (q := 8) (tgt := 15) dX4_forgetRow_5 rfl (by decide) (fun c5_1 => ?_) (fun c5_1 => ?_)
  · refine aj_return dX4_forgetRow_15 rfl ?_
    have hq := hQ (wf_mForget hw)
    simpa only [mForget, ↓reduceIte, sw_eq, sw_ne, ne_eq, Nat.reduceEqDiff, not_false_eq_true, Bool.false_eq_true, c5_1] using hq
  · refine aj_aload_n (q := 9) (i := 0) dX4_forgetRow_8 rfl rfl rfl ?_
    refine aj_getR (q := 12) fl_X4_18 dX4_forgetRow_9 rfl lR_1 rfl ?_
    refine aj_iload_n (q := 13) (i := 1) dX4_forgetRow_12 rfl rfl rfl ?_
    refine aj_iconst (q := 14) (v := (-1)) dX4_forgetRow_13 rfl (by decide) ?_
    refine aj_iastore (q := 15) (f := 400) okR dX4_forgetRow_14 rfl lR_4 rfl (vin (by decide) c5_1) ?_
    refine aj_return dX4_forgetRow_15 rfl ?_
    have hq := hQ (wf_mForget hw)
    simpa only [mForget, ↓reduceIte, sw_eq, sw_ne, ne_eq, Nat.reduceEqDiff, not_false_eq_true, Bool.false_eq_true, c5_1] using hq
theorem sp_X4_shareRow {d : Nat} {S : Sx} {Q : Option Value → Sx → Prop} {r f : Int32} (hw : wfR S) (hQ : wfR (mShare S r f) → Q none (mShare S r f)) : CC (d + 1) kX4_shareRow layR [.ref 1, .int r, .int f] S Q := by
  refine cc_intro [some _, some _, some _] (by decide) (cc_cat (by rfl)) (Nat.le_of_ble_eq_true rfl) (cc_ls (by rfl)) ?_
  refine aj_iload_n (q := 1) (i := 1) dX4_shareRow_0 rfl rfl rfl ?_
  refine aj_iconst (q := 2) (v := 4) dX4_shareRow_1 rfl (by decide) ?_
  refine aj_callS (q := 5) (As := [_, _]) cl_X4_37 mk_X9_isBelow dX4_shareRow_2 rfl rfl (Nat.le_of_ble_eq_true rfl) (sp_isBelow ?_)
  refine aj_ifB_eq (q := 8) (tgt := 40) dX4_shareRow_5 rfl (by decide) (fun c5_1 => ?_) (fun c5_1 => ?_)
  · refine aj_return dX4_shareRow_40 rfl ?_
    have hq := hQ (wf_mShare hw)
    simpa only [mShare, ↓reduceIte, sw_eq, sw_ne, ne_eq, Nat.reduceEqDiff, not_false_eq_true, Bool.false_eq_true, c5_1] using hq
  · refine aj_iload_n (q := 9) (i := 2) dX4_shareRow_8 rfl rfl rfl ?_
    refine aj_iconst (q := 10) (v := 4) dX4_shareRow_9 rfl (by decide) ?_
    refine aj_callS (q := 13) (As := [_, _]) cl_X4_37 mk_X9_isBelow dX4_shareRow_10 rfl rfl (Nat.le_of_ble_eq_true rfl) (sp_isBelow ?_)
    refine aj_ifB_eq (q := 16) (tgt := 40) dX4_shareRow_13 rfl (by decide) (fun c13_2 => ?_) (fun c13_2 => ?_)
    · refine aj_return dX4_shareRow_40 rfl ?_
      have hq := hQ (wf_mShare hw)
      simpa only [mShare, ↓reduceIte, sw_eq, sw_ne, ne_eq, Nat.reduceEqDiff, not_false_eq_true, Bool.false_eq_true, c5_1, c13_2] using hq
    · refine aj_aload_n (q := 17) (i := 0) dX4_shareRow_16 rfl rfl rfl ?_
      refine aj_getR (q := 20) fl_X4_15 dX4_shareRow_17 rfl lR_1 rfl ?_
      refine aj_iload_n (q := 21) (i := 1) dX4_shareRow_20 rfl rfl rfl ?_
      refine aj_aload_n (q := 22) (i := 0) dX4_shareRow_21 rfl rfl rfl ?_
      refine aj_getR (q := 25) fl_X4_15 dX4_shareRow_22 rfl lR_1 rfl ?_
      refine aj_iload_n (q := 26) (i := 2) dX4_shareRow_25 rfl rfl rfl ?_
      refine aj_iaload (q := 27) (f := 300) dX4_shareRow_26 rfl lR_3 rfl (vin (by decide) c13_2) ?_
      try simp only [sw_eq, sw_ne, fil_ne, ne_eq, Nat.reduceEqDiff, not_false_eq_true]
      refine aj_iastore (q := 28) (f := 300) okR dX4_shareRow_27 rfl lR_3 rfl (vin (by decide) c5_1) ?_
      refine aj_aload_n (q := 29) (i := 0) dX4_shareRow_28 rfl rfl rfl ?_
      refine aj_getR (q := 32) fl_X4_18 dX4_shareRow_29 rfl lR_1 rfl ?_
      refine aj_iload_n (q := 33) (i := 1) dX4_shareRow_32 rfl rfl rfl ?_
      refine aj_aload_n (q := 34) (i := 0) dX4_shareRow_33 rfl rfl rfl ?_
      refine aj_getR (q := 37) fl_X4_18 dX4_shareRow_34 rfl lR_1 rfl ?_
      refine aj_iload_n (q := 38) (i := 2) dX4_shareRow_37 rfl rfl rfl ?_
      refine aj_iaload (q := 39) (f := 400) dX4_shareRow_38 rfl lR_4 rfl (vin (by decide) c13_2) ?_
      try simp only [sw_eq, sw_ne, fil_ne, ne_eq, Nat.reduceEqDiff, not_false_eq_true]
      refine aj_iastore (q := 40) (f := 400) okR dX4_shareRow_39 rfl lR_4 rfl (vin (by decide) c5_1) ?_
      refine aj_return dX4_shareRow_40 rfl ?_
      have hq := hQ (wf_mShare hw)
      simpa only [mShare, ↓reduceIte, sw_eq, sw_ne, ne_eq, Nat.reduceEqDiff, not_false_eq_true, Bool.false_eq_true, c5_1, c13_2] using hq
theorem ml_lenOf {S : Sx} {r i : Int32} (hr : inb r 4 = true) (h : inb i (S 400 r.toNatClampNeg) = true) : inb i (mLen S r) = true := by rw [mLen, if_pos hr]; exact h
theorem ml_cellIn {S : Sx} {r i : Int32} (hw : wfR S) (hr : inb r 4 = true) (h : inb i (S 400 r.toNatClampNeg) = true) : inb (S 300 r.toNatClampNeg + i) 800 = true := by
  have h1 := vp_in_iff.mp (ml_cell hw (ml_lenOf hr h))
  have e8 : (800 : Int32).toInt = 800 := rfl
  exact inb_iff.mpr ⟨h1.1, by omega⟩
theorem ml_none {i : Int32} : inb i (-1) = false := by
  cases h : inb i (-1) with
  | false => rfl
  | true =>
    have h1 := inb_iff.mp h
    have e : (-1 : Int32).toInt = -1 := rfl
    omega
theorem sp_X4_load {d : Nat} {S : Sx} {Q : Option Value → Sx → Prop} {r i : Int32} (hw : wfR S) (hQ : Q (some (.int (mLoad S r i))) S) : CC (d + 2) kX4_load layR [.ref 1, .int r, .int i] S Q := by
  refine cc_intro [some _, some _, some _, none] (by decide) (cc_cat (by rfl)) (Nat.le_of_ble_eq_true rfl) (cc_ls (by rfl)) ?_
  refine aj_iload_n (q := 1) (i := 1) dX4_load_0 rfl rfl rfl ?_
  refine aj_iconst (q := 2) (v := 4) dX4_load_1 rfl (by decide) ?_
  refine aj_callS (q := 5) (As := [_, _]) cl_X4_37 mk_X9_isBelow dX4_load_2 rfl rfl (Nat.le_of_ble_eq_true rfl) (sp_isBelow ?_)
  refine aj_ifB_eq (q := 8) (tgt := 21) dX4_load_5 rfl (by decide) (fun c5_1 => ?_) (fun c5_1 => ?_)
  · refine aj_iconst (q := 22) (v := 0) dX4_load_21 rfl (by decide) ?_
    refine aj_ireturn dX4_load_22 rfl ?_
    simpa only [mLoad, mLen, ml_none, ↓reduceIte, Bool.false_eq_true, c5_1] using hQ
  · refine aj_iload_n (q := 9) (i := 2) dX4_load_8 rfl rfl rfl ?_
    refine aj_aload_n (q := 10) (i := 0) dX4_load_9 rfl rfl rfl ?_
    refine aj_getR (q := 13) fl_X4_18 dX4_load_10 rfl lR_1 rfl ?_
    refine aj_iload_n (q := 14) (i := 1) dX4_load_13 rfl rfl rfl ?_
    refine aj_iaload (q := 15) (f := 400) dX4_load_14 rfl lR_4 rfl (vin (by decide) c5_1) ?_
    refine aj_callS (q := 18) (As := [_, _]) cl_X4_37 mk_X9_isBelow dX4_load_15 rfl rfl (Nat.le_of_ble_eq_true rfl) (sp_isBelow ?_)
    refine aj_ifB_ne (q := 21) (tgt := 23) dX4_load_18 rfl (by decide) (fun c18_2 => ?_) (fun c18_2 => ?_)
    · refine aj_aload_n (q := 24) (i := 0) dX4_load_23 rfl rfl rfl ?_
      refine aj_getR (q := 27) fl_X4_15 dX4_load_24 rfl lR_1 rfl ?_
      refine aj_iload_n (q := 28) (i := 1) dX4_load_27 rfl rfl rfl ?_
      refine aj_iaload (q := 29) (f := 300) dX4_load_28 rfl lR_3 rfl (vin (by decide) c5_1) ?_
      refine aj_iload_n (q := 30) (i := 2) dX4_load_29 rfl rfl rfl ?_
      refine aj_iadd (q := 31) dX4_load_30 rfl ?_
      refine aj_istore_n (q := 32) (i := 3) (ls' := [_, _, _, _]) dX4_load_31 rfl rfl (by decide) rfl ?_
      refine aj_iload_n (q := 33) (i := 3) dX4_load_32 rfl rfl rfl ?_
      refine aj_sipush (q := 36) (v := 800) dX4_load_33 rfl (by decide) ?_
      refine aj_callS (q := 39) (As := [_, _]) cl_X4_37 mk_X9_isBelow dX4_load_36 rfl rfl (Nat.le_of_ble_eq_true rfl) (sp_isBelow ?_)
      refine aj_ifB_eq (q := 42) (tgt := 51) dX4_load_39 rfl (by decide) (fun c => absurd (ml_cellIn hw c5_1 c18_2) (by rw [c]; decide)) (fun _ => ?_)
      refine aj_aload_n (q := 43) (i := 0) dX4_load_42 rfl rfl rfl ?_
      refine aj_getR (q := 46) fl_X4_21 dX4_load_43 rfl lR_1 rfl ?_
      refine aj_iload_n (q := 47) (i := 3) dX4_load_46 rfl rfl rfl ?_
      refine aj_iaload (q := 48) (f := 500) dX4_load_47 rfl lR_5 rfl (ml_cell hw (ml_lenOf c5_1 c18_2)) ?_
      refine aj_goto (tgt := 52) dX4_load_48 (by decide) ?_
      refine aj_ireturn dX4_load_52 rfl ?_
      simpa only [mLoad, mLen, ml_none, ↓reduceIte, Bool.false_eq_true, c5_1, c18_2] using hQ
    · refine aj_iconst (q := 22) (v := 0) dX4_load_21 rfl (by decide) ?_
      refine aj_ireturn dX4_load_22 rfl ?_
      simpa only [mLoad, mLen, ml_none, ↓reduceIte, Bool.false_eq_true, c5_1, c18_2] using hQ
theorem sp_X4_store {d : Nat} {S : Sx} {Q : Option Value → Sx → Prop} {r i v : Int32} (hw : wfR S) (hQ : wfR (mStore S r i v) → Q none (mStore S r i v)) : CC (d + 2) kX4_store layR [.ref 1, .int r, .int i, .int v] S Q := by
  refine cc_intro [some _, some _, some _, some _, none] (by decide) (cc_cat (by rfl)) (Nat.le_of_ble_eq_true rfl) (cc_ls (by rfl)) ?_
  refine aj_iload_n (q := 1) (i := 1) dX4_store_0 rfl rfl rfl ?_
  refine aj_iconst (q := 2) (v := 4) dX4_store_1 rfl (by decide) ?_
  refine aj_callS (q := 5) (As := [_, _]) cl_X4_37 mk_X9_isBelow dX4_store_2 rfl rfl (Nat.le_of_ble_eq_true rfl) (sp_isBelow ?_)
  refine aj_ifB_eq (q := 8) (tgt := 21) dX4_store_5 rfl (by decide) (fun c5_1 => ?_) (fun c5_1 => ?_)
  · refine aj_return dX4_store_21 rfl ?_
    have hq := hQ (wf_mStore hw)
    simpa only [mStore, mLen, ml_none, ↓reduceIte, sw_eq, sw_ne, ne_eq, Nat.reduceEqDiff, not_false_eq_true, Bool.false_eq_true, c5_1] using hq
  · refine aj_iload_n (q := 9) (i := 2) dX4_store_8 rfl rfl rfl ?_
    refine aj_aload_n (q := 10) (i := 0) dX4_store_9 rfl rfl rfl ?_
    refine aj_getR (q := 13) fl_X4_18 dX4_store_10 rfl lR_1 rfl ?_
    refine aj_iload_n (q := 14) (i := 1) dX4_store_13 rfl rfl rfl ?_
    refine aj_iaload (q := 15) (f := 400) dX4_store_14 rfl lR_4 rfl (vin (by decide) c5_1) ?_
    refine aj_callS (q := 18) (As := [_, _]) cl_X4_37 mk_X9_isBelow dX4_store_15 rfl rfl (Nat.le_of_ble_eq_true rfl) (sp_isBelow ?_)
    refine aj_ifB_ne (q := 21) (tgt := 22) dX4_store_18 rfl (by decide) (fun c18_2 => ?_) (fun c18_2 => ?_)
    · refine aj_aload_n (q := 23) (i := 0) dX4_store_22 rfl rfl rfl ?_
      refine aj_getR (q := 26) fl_X4_15 dX4_store_23 rfl lR_1 rfl ?_
      refine aj_iload_n (q := 27) (i := 1) dX4_store_26 rfl rfl rfl ?_
      refine aj_iaload (q := 28) (f := 300) dX4_store_27 rfl lR_3 rfl (vin (by decide) c5_1) ?_
      refine aj_iload_n (q := 29) (i := 2) dX4_store_28 rfl rfl rfl ?_
      refine aj_iadd (q := 30) dX4_store_29 rfl ?_
      refine aj_istore (q := 32) (i := 4) (ls' := [_, _, _, _, _]) dX4_store_30 rfl (by decide) rfl ?_
      refine aj_iload (q := 34) (i := 4) dX4_store_32 rfl rfl ?_
      refine aj_sipush (q := 37) (v := 800) dX4_store_34 rfl (by decide) ?_
      refine aj_callS (q := 40) (As := [_, _]) cl_X4_37 mk_X9_isBelow dX4_store_37 rfl rfl (Nat.le_of_ble_eq_true rfl) (sp_isBelow ?_)
      refine aj_ifB_eq (q := 43) (tgt := 51) dX4_store_40 rfl (by decide) (fun c => absurd (ml_cellIn hw c5_1 c18_2) (by rw [c]; decide)) (fun _ => ?_)
      refine aj_aload_n (q := 44) (i := 0) dX4_store_43 rfl rfl rfl ?_
      refine aj_getR (q := 47) fl_X4_21 dX4_store_44 rfl lR_1 rfl ?_
      refine aj_iload (q := 49) (i := 4) dX4_store_47 rfl rfl ?_
      refine aj_iload_n (q := 50) (i := 3) dX4_store_49 rfl rfl rfl ?_
      refine aj_iastore (q := 51) (f := 500) okR dX4_store_50 rfl lR_5 rfl (ml_cell hw (ml_lenOf c5_1 c18_2)) ?_
      refine aj_return dX4_store_51 rfl ?_
      have hq := hQ (wf_mStore hw)
      simpa only [mStore, mLen, ml_none, ↓reduceIte, sw_eq, sw_ne, ne_eq, Nat.reduceEqDiff, not_false_eq_true, Bool.false_eq_true, c5_1, c18_2] using hq
    · refine aj_return dX4_store_21 rfl ?_
      have hq := hQ (wf_mStore hw)
      simpa only [mStore, mLen, ml_none, ↓reduceIte, sw_eq, sw_ne, ne_eq, Nat.reduceEqDiff, not_false_eq_true, Bool.false_eq_true, c5_1, c18_2] using hq
/-! Purse -/
def pFill (S : Sx) (b : Int32) : Sx := sw (sw (sw (sw (sw (sw (fil S 700 5 0) 602 0 0) 603 0 b) 604 0 40) 605 0 0) 606 0 0) 607 0 0
def pBy (S : Sx) : Bool := decide (¬ S 607 0 = 0)
def pHas (S : Sx) : Int32 := if S 607 0 = 0 then S 603 0 else S 604 0
def pOk (S : Sx) (m p : Int32) : Bool := if pHas S < p then false else inb m 5
def pUpd (S : Sx) (p : Int32) : Sx := if S 607 0 = 0 then sw (sw S 603 0 (S 603 0 - p)) 605 0 (S 605 0 + p) else sw (sw S 604 0 (S 604 0 - p)) 606 0 (S 606 0 + p)
def pPay (S : Sx) (m p : Int32) : Sx := if pOk S m p then sw (pUpd S p) 700 m.toNatClampNeg (S 700 m.toNatClampNeg + 1) else S
def pNote (S : Sx) (s : Int32) : Sx := if (30 : Int32) ≤ S 602 0 then S else sw (sw S 800 (S 602 0).toNatClampNeg s) 602 0 (S 602 0 + 1)
def pBegun (S : Sx) (k : Int32) : Int32 := if inb k (S 602 0) then S 800 k.toNatClampNeg else -1
def pMarks (S : Sx) (m : Int32) : Int32 := if inb m 5 then S 700 m.toNatClampNeg else 0
theorem by_eq {S : Sx} (h : wfR S) : S 607 0 = bi (pBy S) := by
  rcases h.2.2.2.2.2 with e | e <;> simp [pBy, e, bi]
theorem wf_pFill {S : Sx} {b : Int32} (h : wfR S) : wfR (pFill S b) := by
  obtain ⟨h1, h2, h3, h4, h5, h6⟩ := h
  exact ⟨h1, ⟨by rw [show pFill S b 602 0 = 0 from rfl]; decide, by rw [show pFill S b 602 0 = 0 from rfl]; decide⟩, h3, h4, h5, Or.inl rfl⟩
theorem wf_by {S : Sx} {z : Int32} (hz : z = 0 ∨ z = 1) (h : wfR S) : wfR (sw S 607 0 z) := by
  obtain ⟨h1, h2, h3, h4, h5, h6⟩ := h
  exact ⟨h1, h2, h3, h4, h5, by rw [sw_eq]; exact hz⟩
theorem wf_pPay {S : Sx} {m p : Int32} (h : wfR S) : wfR (pPay S m p) := by
  unfold pPay
  split
  · refine wfR.sw ?_ rfl
    unfold pUpd
    split
    · exact (h.sw rfl).sw rfl
    · exact (h.sw rfl).sw rfl
  · exact h
theorem wf_begun {S : Sx} (h : wfR S) (hc : ¬ (30 : Int32) ≤ S 602 0) : vp_in (S 602 0) 30 := vp_in_iff.mpr ⟨h.2.1.1, by
  rw [i32_le] at hc
  have : (30 : Int32).toInt = 30 := rfl
  omega⟩
theorem wf_begunAt {S : Sx} {k : Int32} (h : wfR S) (hc : inb k (S 602 0) = true) : vp_in k 30 := vp_in_iff.mpr ⟨(inb_iff.mp hc).1, by
  have := (inb_iff.mp hc).2
  have := h.2.1.2
  omega⟩
theorem wf_pNote {S : Sx} {s : Int32} (h : wfR S) : wfR (pNote S s) := by
  unfold pNote
  split
  · exact h
  · rename_i hc
    obtain ⟨h1, h2, h3, h4, h5, h6⟩ := h
    rw [i32_le] at hc
    have e0 : (30 : Int32).toInt = 30 := rfl
    have e1 : (1 : Int32).toInt = 1 := rfl
    have := i32_add (x := S 602 0) (y := 1) (by omega) (by omega)
    refine ⟨h1, ⟨by rw [sw_eq]; omega, by rw [sw_eq]; omega⟩, h3, h4, h5, h6⟩
theorem sp_X6_fill {d : Nat} {S : Sx} {Q : Option Value → Sx → Prop} {b : Int32} (hw : wfR S) (hQ : wfR (pFill S b) → Q none (pFill S b)) : CC (d + 1) kX6_fill layR [.ref 6, .int b] S Q := by
  refine cc_intro [some _, some _] (by decide) (cc_cat (by rfl)) (Nat.le_of_ble_eq_true rfl) (cc_ls (by rfl)) ?_
  refine aj_aload_n (q := 1) (i := 0) dX6_fill_0 rfl rfl rfl ?_
  refine aj_getR (q := 4) fl_X6_11 dX6_fill_1 rfl lR_6 rfl ?_
  refine aj_iconst (q := 5) (v := 0) dX6_fill_4 rfl (by decide) ?_
  refine aj_callS (q := 8) (As := [_, _]) cl_X6_20 mk_J7_fill_53178 dX6_fill_5 rfl rfl (Nat.le_of_ble_eq_true rfl) (sp_fill okR lR_7 (by decide) ?_)
  refine aj_aload_n (q := 9) (i := 0) dX6_fill_8 rfl rfl rfl ?_
  refine aj_iconst (q := 10) (v := 0) dX6_fill_9 rfl (by decide) ?_
  refine aj_putI (q := 13) (f := 602) okR fp_X6_26 dX6_fill_10 rfl lR_6 rfl rfl ?_
  refine aj_aload_n (q := 14) (i := 0) dX6_fill_13 rfl rfl rfl ?_
  refine aj_iload_n (q := 15) (i := 1) dX6_fill_14 rfl rfl rfl ?_
  refine aj_putI (q := 18) (f := 603) okR fp_X6_30 dX6_fill_15 rfl lR_6 rfl rfl ?_
  refine aj_aload_n (q := 19) (i := 0) dX6_fill_18 rfl rfl rfl ?_
  refine aj_bipush (q := 21) (v := 40) dX6_fill_19 rfl (by decide) ?_
  refine aj_putI (q := 24) (f := 604) okR fp_X6_33 dX6_fill_21 rfl lR_6 rfl rfl ?_
  refine aj_aload_n (q := 25) (i := 0) dX6_fill_24 rfl rfl rfl ?_
  refine aj_iconst (q := 26) (v := 0) dX6_fill_25 rfl (by decide) ?_
  refine aj_putI (q := 29) (f := 605) okR fp_X6_36 dX6_fill_26 rfl lR_6 rfl rfl ?_
  refine aj_aload_n (q := 30) (i := 0) dX6_fill_29 rfl rfl rfl ?_
  refine aj_iconst (q := 31) (v := 0) dX6_fill_30 rfl (by decide) ?_
  refine aj_putI (q := 34) (f := 606) okR fp_X6_39 dX6_fill_31 rfl lR_6 rfl rfl ?_
  refine aj_aload_n (q := 35) (i := 0) dX6_fill_34 rfl rfl rfl ?_
  refine aj_iconst (q := 36) (v := 0) dX6_fill_35 rfl (by decide) ?_
  refine aj_putZ (q := 39) (f := 607) okR fp_X6_42 dX6_fill_36 rfl lR_6 rfl rfl rfl rfl ?_
  refine aj_return dX6_fill_39 rfl ?_
  exact hQ (wf_pFill hw)
theorem sp_X6_isByReserve {d : Nat} {S : Sx} {Q : Option Value → Sx → Prop} (hw : wfR S) (hQ : Q (some (.int (bi (pBy S)))) S) : CC d kX6_isByReserve layR [.ref 6] S Q := by
  refine cc_intro [some _] (by decide) (cc_cat (by rfl)) (Nat.le_of_ble_eq_true rfl) (cc_ls (by rfl)) ?_
  refine aj_aload_n (q := 1) (i := 0) dX6_isByReserve_0 rfl rfl rfl ?_
  refine aj_getI (q := 4) (f := 607) fl_X6_42 dX6_isByReserve_1 rfl lR_6 rfl rfl ?_
  refine aj_zreturn dX6_isByReserve_4 rfl (by rw [by_eq hw]; exact bi_nar _) ?_
  rw [by_eq hw]
  exact hQ
theorem sp_X6_setByReserve {d : Nat} {S : Sx} {Q : Option Value → Sx → Prop} {z : Int32} (hz : z = 0 ∨ z = 1) (hw : wfR S) (hQ : wfR (sw S 607 0 z) → Q none (sw S 607 0 z)) : CC d kX6_setByReserve layR [.ref 6, .int z] S Q := by
  refine cc_intro [some _, some _] (by decide) (cc_cat (by rfl)) (Nat.le_of_ble_eq_true rfl) (cc_ls (by rfl)) ?_
  refine aj_aload_n (q := 1) (i := 0) dX6_setByReserve_0 rfl rfl rfl ?_
  refine aj_iload_n (q := 2) (i := 1) dX6_setByReserve_1 rfl rfl rfl ?_
  refine aj_putZ (q := 5) (f := 607) okR fp_X6_42 dX6_setByReserve_2 rfl lR_6 rfl rfl (by rcases hz with rfl | rfl <;> rfl) (by rcases hz with rfl | rfl <;> rfl) ?_
  refine aj_return dX6_setByReserve_5 rfl ?_
  exact hQ (wf_by hz hw)
theorem sp_X6_pays {d : Nat} {S : Sx} {Q : Option Value → Sx → Prop} {m p : Int32} (hw : wfR S) (hQ : wfR (pPay S m p) → Q (some (.int (bi (pOk S m p)))) (pPay S m p)) : CC (d + 1) kX6_pays layR [.ref 6, .int m, .int p] S Q := by
  refine cc_intro [some _, some _, some _] (by decide) (cc_cat (by rfl)) (Nat.le_of_ble_eq_true rfl) (cc_ls (by rfl)) ?_
  refine aj_iload_n (q := 1) (i := 2) dX6_pays_0 rfl rfl rfl ?_
  refine aj_aload_n (q := 2) (i := 0) dX6_pays_1 rfl rfl rfl ?_
  refine aj_getI (q := 5) (f := 607) fl_X6_42 dX6_pays_2 rfl lR_6 rfl rfl ?_
  try simp only [sw_eq, sw_ne, fil_ne, ne_eq, Nat.reduceEqDiff, not_false_eq_true]
  refine aj_if_eq (q := 8) (tgt := 15) dX6_pays_5 rfl (by decide) (fun c5_1 => ?_) (fun c5_1 => ?_)
  · refine aj_aload_n (q := 16) (i := 0) dX6_pays_15 rfl rfl rfl ?_
    refine aj_getI (q := 19) (f := 603) fl_X6_30 dX6_pays_16 rfl lR_6 rfl rfl ?_
    try simp only [sw_eq, sw_ne, fil_ne, ne_eq, Nat.reduceEqDiff, not_false_eq_true]
    refine aj_icmp_gt (q := 22) (tgt := 30) dX6_pays_19 rfl (by decide) (fun c19_2 => ?_) (fun c19_2 => ?_)
    · refine aj_iconst (q := 31) (v := 0) dX6_pays_30 rfl (by decide) ?_
      refine aj_zreturn dX6_pays_31 rfl (by decide) ?_
      first | contradiction | (have hq := hQ (wf_pPay hw); simpa only [pPay, pUpd, pOk, pHas, ↓reduceIte, sw_eq, sw_ne, ne_eq, Nat.reduceEqDiff, not_false_eq_true, Bool.false_eq_true, bi_t, bi_f, c5_1, c19_2] using hq)
    · refine aj_iload_n (q := 23) (i := 1) dX6_pays_22 rfl rfl rfl ?_
      refine aj_iconst (q := 24) (v := 5) dX6_pays_23 rfl (by decide) ?_
      refine aj_callS (q := 27) (As := [_, _]) cl_X6_46 mk_X9_isBelow dX6_pays_24 rfl rfl (Nat.le_of_ble_eq_true rfl) (sp_isBelow ?_)
      refine aj_ifB_ne (q := 30) (tgt := 32) dX6_pays_27 rfl (by decide) (fun c27_3 => ?_) (fun c27_3 => ?_)
      · refine aj_aload_n (q := 33) (i := 0) dX6_pays_32 rfl rfl rfl ?_
        refine aj_getI (q := 36) (f := 607) fl_X6_42 dX6_pays_33 rfl lR_6 rfl rfl ?_
        try simp only [sw_eq, sw_ne, fil_ne, ne_eq, Nat.reduceEqDiff, not_false_eq_true]
        refine aj_if_eq (q := 39) (tgt := 62) dX6_pays_36 rfl (by decide) (fun c36_4 => ?_) (fun c36_4 => ?_)
        · refine aj_aload_n (q := 63) (i := 0) dX6_pays_62 rfl rfl rfl ?_
          refine aj_dup (q := 64) dX6_pays_63 rfl rfl ?_
          refine aj_getI (q := 67) (f := 603) fl_X6_30 dX6_pays_64 rfl lR_6 rfl rfl ?_
          try simp only [sw_eq, sw_ne, fil_ne, ne_eq, Nat.reduceEqDiff, not_false_eq_true]
          refine aj_iload_n (q := 68) (i := 2) dX6_pays_67 rfl rfl rfl ?_
          refine aj_isub (q := 69) dX6_pays_68 rfl ?_
          refine aj_putI (q := 72) (f := 603) okR fp_X6_30 dX6_pays_69 rfl lR_6 rfl rfl ?_
          refine aj_aload_n (q := 73) (i := 0) dX6_pays_72 rfl rfl rfl ?_
          refine aj_dup (q := 74) dX6_pays_73 rfl rfl ?_
          refine aj_getI (q := 77) (f := 605) fl_X6_36 dX6_pays_74 rfl lR_6 rfl rfl ?_
          try simp only [sw_eq, sw_ne, fil_ne, ne_eq, Nat.reduceEqDiff, not_false_eq_true]
          refine aj_iload_n (q := 78) (i := 2) dX6_pays_77 rfl rfl rfl ?_
          refine aj_iadd (q := 79) dX6_pays_78 rfl ?_
          refine aj_putI (q := 82) (f := 605) okR fp_X6_36 dX6_pays_79 rfl lR_6 rfl rfl ?_
          refine aj_aload_n (q := 83) (i := 0) dX6_pays_82 rfl rfl rfl ?_
          refine aj_getR (q := 86) fl_X6_11 dX6_pays_83 rfl lR_6 rfl ?_
          refine aj_iload_n (q := 87) (i := 1) dX6_pays_86 rfl rfl rfl ?_
          refine aj_dup2 (q := 88) dX6_pays_87 rfl rfl rfl ?_
          refine aj_iaload (q := 89) (f := 700) dX6_pays_88 rfl lR_7 rfl (vin (m := 5) (by decide) (by assumption)) ?_
          try simp only [sw_eq, sw_ne, fil_ne, ne_eq, Nat.reduceEqDiff, not_false_eq_true]
          refine aj_iconst (q := 90) (v := 1) dX6_pays_89 rfl (by decide) ?_
          refine aj_iadd (q := 91) dX6_pays_90 rfl ?_
          refine aj_iastore (q := 92) (f := 700) okR dX6_pays_91 rfl lR_7 rfl (vin (m := 5) (by decide) (by assumption)) ?_
          refine aj_iconst (q := 93) (v := 1) dX6_pays_92 rfl (by decide) ?_
          refine aj_zreturn dX6_pays_93 rfl (by decide) ?_
          first | contradiction | (have hq := hQ (wf_pPay hw); simpa only [pPay, pUpd, pOk, pHas, ↓reduceIte, sw_eq, sw_ne, ne_eq, Nat.reduceEqDiff, not_false_eq_true, Bool.false_eq_true, bi_t, bi_f, c5_1, c19_2, c27_3, c36_4] using hq)
        · refine aj_aload_n (q := 40) (i := 0) dX6_pays_39 rfl rfl rfl ?_
          refine aj_dup (q := 41) dX6_pays_40 rfl rfl ?_
          refine aj_getI (q := 44) (f := 604) fl_X6_33 dX6_pays_41 rfl lR_6 rfl rfl ?_
          try simp only [sw_eq, sw_ne, fil_ne, ne_eq, Nat.reduceEqDiff, not_false_eq_true]
          refine aj_iload_n (q := 45) (i := 2) dX6_pays_44 rfl rfl rfl ?_
          refine aj_isub (q := 46) dX6_pays_45 rfl ?_
          refine aj_putI (q := 49) (f := 604) okR fp_X6_33 dX6_pays_46 rfl lR_6 rfl rfl ?_
          refine aj_aload_n (q := 50) (i := 0) dX6_pays_49 rfl rfl rfl ?_
          refine aj_dup (q := 51) dX6_pays_50 rfl rfl ?_
          refine aj_getI (q := 54) (f := 606) fl_X6_39 dX6_pays_51 rfl lR_6 rfl rfl ?_
          try simp only [sw_eq, sw_ne, fil_ne, ne_eq, Nat.reduceEqDiff, not_false_eq_true]
          refine aj_iload_n (q := 55) (i := 2) dX6_pays_54 rfl rfl rfl ?_
          refine aj_iadd (q := 56) dX6_pays_55 rfl ?_
          refine aj_putI (q := 59) (f := 606) okR fp_X6_39 dX6_pays_56 rfl lR_6 rfl rfl ?_
          refine aj_goto (tgt := 82) dX6_pays_59 (by decide) ?_
          refine aj_aload_n (q := 83) (i := 0) dX6_pays_82 rfl rfl rfl ?_
          refine aj_getR (q := 86) fl_X6_11 dX6_pays_83 rfl lR_6 rfl ?_
          refine aj_iload_n (q := 87) (i := 1) dX6_pays_86 rfl rfl rfl ?_
          refine aj_dup2 (q := 88) dX6_pays_87 rfl rfl rfl ?_
          refine aj_iaload (q := 89) (f := 700) dX6_pays_88 rfl lR_7 rfl (vin (m := 5) (by decide) (by assumption)) ?_
          try simp only [sw_eq, sw_ne, fil_ne, ne_eq, Nat.reduceEqDiff, not_false_eq_true]
          refine aj_iconst (q := 90) (v := 1) dX6_pays_89 rfl (by decide) ?_
          refine aj_iadd (q := 91) dX6_pays_90 rfl ?_
          refine aj_iastore (q := 92) (f := 700) okR dX6_pays_91 rfl lR_7 rfl (vin (m := 5) (by decide) (by assumption)) ?_
          refine aj_iconst (q := 93) (v := 1) dX6_pays_92 rfl (by decide) ?_
          refine aj_zreturn dX6_pays_93 rfl (by decide) ?_
          first | contradiction | (have hq := hQ (wf_pPay hw); simpa only [pPay, pUpd, pOk, pHas, ↓reduceIte, sw_eq, sw_ne, ne_eq, Nat.reduceEqDiff, not_false_eq_true, Bool.false_eq_true, bi_t, bi_f, c5_1, c19_2, c27_3, c36_4] using hq)
      · refine aj_iconst (q := 31) (v := 0) dX6_pays_30 rfl (by decide) ?_
        refine aj_zreturn dX6_pays_31 rfl (by decide) ?_
        first | contradiction | (have hq := hQ (wf_pPay hw); simpa only [pPay, pUpd, pOk, pHas, ↓reduceIte, sw_eq, sw_ne, ne_eq, Nat.reduceEqDiff, not_false_eq_true, Bool.false_eq_true, bi_t, bi_f, c5_1, c19_2, c27_3] using hq)
  · refine aj_aload_n (q := 9) (i := 0) dX6_pays_8 rfl rfl rfl ?_
    refine aj_getI (q := 12) (f := 604) fl_X6_33 dX6_pays_9 rfl lR_6 rfl rfl ?_
    try simp only [sw_eq, sw_ne, fil_ne, ne_eq, Nat.reduceEqDiff, not_false_eq_true]
    refine aj_goto (tgt := 19) dX6_pays_12 (by decide) ?_
    refine aj_icmp_gt (q := 22) (tgt := 30) dX6_pays_19 rfl (by decide) (fun c19_5 => ?_) (fun c19_5 => ?_)
    · refine aj_iconst (q := 31) (v := 0) dX6_pays_30 rfl (by decide) ?_
      refine aj_zreturn dX6_pays_31 rfl (by decide) ?_
      first | contradiction | (have hq := hQ (wf_pPay hw); simpa only [pPay, pUpd, pOk, pHas, ↓reduceIte, sw_eq, sw_ne, ne_eq, Nat.reduceEqDiff, not_false_eq_true, Bool.false_eq_true, bi_t, bi_f, c5_1, c19_5] using hq)
    · refine aj_iload_n (q := 23) (i := 1) dX6_pays_22 rfl rfl rfl ?_
      refine aj_iconst (q := 24) (v := 5) dX6_pays_23 rfl (by decide) ?_
      refine aj_callS (q := 27) (As := [_, _]) cl_X6_46 mk_X9_isBelow dX6_pays_24 rfl rfl (Nat.le_of_ble_eq_true rfl) (sp_isBelow ?_)
      refine aj_ifB_ne (q := 30) (tgt := 32) dX6_pays_27 rfl (by decide) (fun c27_6 => ?_) (fun c27_6 => ?_)
      · refine aj_aload_n (q := 33) (i := 0) dX6_pays_32 rfl rfl rfl ?_
        refine aj_getI (q := 36) (f := 607) fl_X6_42 dX6_pays_33 rfl lR_6 rfl rfl ?_
        try simp only [sw_eq, sw_ne, fil_ne, ne_eq, Nat.reduceEqDiff, not_false_eq_true]
        refine aj_if_eq (q := 39) (tgt := 62) dX6_pays_36 rfl (by decide) (fun c36_7 => ?_) (fun c36_7 => ?_)
        · refine aj_aload_n (q := 63) (i := 0) dX6_pays_62 rfl rfl rfl ?_
          refine aj_dup (q := 64) dX6_pays_63 rfl rfl ?_
          refine aj_getI (q := 67) (f := 603) fl_X6_30 dX6_pays_64 rfl lR_6 rfl rfl ?_
          try simp only [sw_eq, sw_ne, fil_ne, ne_eq, Nat.reduceEqDiff, not_false_eq_true]
          refine aj_iload_n (q := 68) (i := 2) dX6_pays_67 rfl rfl rfl ?_
          refine aj_isub (q := 69) dX6_pays_68 rfl ?_
          refine aj_putI (q := 72) (f := 603) okR fp_X6_30 dX6_pays_69 rfl lR_6 rfl rfl ?_
          refine aj_aload_n (q := 73) (i := 0) dX6_pays_72 rfl rfl rfl ?_
          refine aj_dup (q := 74) dX6_pays_73 rfl rfl ?_
          refine aj_getI (q := 77) (f := 605) fl_X6_36 dX6_pays_74 rfl lR_6 rfl rfl ?_
          try simp only [sw_eq, sw_ne, fil_ne, ne_eq, Nat.reduceEqDiff, not_false_eq_true]
          refine aj_iload_n (q := 78) (i := 2) dX6_pays_77 rfl rfl rfl ?_
          refine aj_iadd (q := 79) dX6_pays_78 rfl ?_
          refine aj_putI (q := 82) (f := 605) okR fp_X6_36 dX6_pays_79 rfl lR_6 rfl rfl ?_
          refine aj_aload_n (q := 83) (i := 0) dX6_pays_82 rfl rfl rfl ?_
          refine aj_getR (q := 86) fl_X6_11 dX6_pays_83 rfl lR_6 rfl ?_
          refine aj_iload_n (q := 87) (i := 1) dX6_pays_86 rfl rfl rfl ?_
          refine aj_dup2 (q := 88) dX6_pays_87 rfl rfl rfl ?_
          refine aj_iaload (q := 89) (f := 700) dX6_pays_88 rfl lR_7 rfl (vin (m := 5) (by decide) (by assumption)) ?_
          try simp only [sw_eq, sw_ne, fil_ne, ne_eq, Nat.reduceEqDiff, not_false_eq_true]
          refine aj_iconst (q := 90) (v := 1) dX6_pays_89 rfl (by decide) ?_
          refine aj_iadd (q := 91) dX6_pays_90 rfl ?_
          refine aj_iastore (q := 92) (f := 700) okR dX6_pays_91 rfl lR_7 rfl (vin (m := 5) (by decide) (by assumption)) ?_
          refine aj_iconst (q := 93) (v := 1) dX6_pays_92 rfl (by decide) ?_
          refine aj_zreturn dX6_pays_93 rfl (by decide) ?_
          first | contradiction | (have hq := hQ (wf_pPay hw); simpa only [pPay, pUpd, pOk, pHas, ↓reduceIte, sw_eq, sw_ne, ne_eq, Nat.reduceEqDiff, not_false_eq_true, Bool.false_eq_true, bi_t, bi_f, c5_1, c19_5, c27_6, c36_7] using hq)
        · refine aj_aload_n (q := 40) (i := 0) dX6_pays_39 rfl rfl rfl ?_
          refine aj_dup (q := 41) dX6_pays_40 rfl rfl ?_
          refine aj_getI (q := 44) (f := 604) fl_X6_33 dX6_pays_41 rfl lR_6 rfl rfl ?_
          try simp only [sw_eq, sw_ne, fil_ne, ne_eq, Nat.reduceEqDiff, not_false_eq_true]
          refine aj_iload_n (q := 45) (i := 2) dX6_pays_44 rfl rfl rfl ?_
          refine aj_isub (q := 46) dX6_pays_45 rfl ?_
          refine aj_putI (q := 49) (f := 604) okR fp_X6_33 dX6_pays_46 rfl lR_6 rfl rfl ?_
          refine aj_aload_n (q := 50) (i := 0) dX6_pays_49 rfl rfl rfl ?_
          refine aj_dup (q := 51) dX6_pays_50 rfl rfl ?_
          refine aj_getI (q := 54) (f := 606) fl_X6_39 dX6_pays_51 rfl lR_6 rfl rfl ?_
          try simp only [sw_eq, sw_ne, fil_ne, ne_eq, Nat.reduceEqDiff, not_false_eq_true]
          refine aj_iload_n (q := 55) (i := 2) dX6_pays_54 rfl rfl rfl ?_
          refine aj_iadd (q := 56) dX6_pays_55 rfl ?_
          refine aj_putI (q := 59) (f := 606) okR fp_X6_39 dX6_pays_56 rfl lR_6 rfl rfl ?_
          refine aj_goto (tgt := 82) dX6_pays_59 (by decide) ?_
          refine aj_aload_n (q := 83) (i := 0) dX6_pays_82 rfl rfl rfl ?_
          refine aj_getR (q := 86) fl_X6_11 dX6_pays_83 rfl lR_6 rfl ?_
          refine aj_iload_n (q := 87) (i := 1) dX6_pays_86 rfl rfl rfl ?_
          refine aj_dup2 (q := 88) dX6_pays_87 rfl rfl rfl ?_
          refine aj_iaload (q := 89) (f := 700) dX6_pays_88 rfl lR_7 rfl (vin (m := 5) (by decide) (by assumption)) ?_
          try simp only [sw_eq, sw_ne, fil_ne, ne_eq, Nat.reduceEqDiff, not_false_eq_true]
          refine aj_iconst (q := 90) (v := 1) dX6_pays_89 rfl (by decide) ?_
          refine aj_iadd (q := 91) dX6_pays_90 rfl ?_
          refine aj_iastore (q := 92) (f := 700) okR dX6_pays_91 rfl lR_7 rfl (vin (m := 5) (by decide) (by assumption)) ?_
          refine aj_iconst (q := 93) (v := 1) dX6_pays_92 rfl (by decide) ?_
          refine aj_zreturn dX6_pays_93 rfl (by decide) ?_
          first | contradiction | (have hq := hQ (wf_pPay hw); simpa only [pPay, pUpd, pOk, pHas, ↓reduceIte, sw_eq, sw_ne, ne_eq, Nat.reduceEqDiff, not_false_eq_true, Bool.false_eq_true, bi_t, bi_f, c5_1, c19_5, c27_6, c36_7] using hq)
      · refine aj_iconst (q := 31) (v := 0) dX6_pays_30 rfl (by decide) ?_
        refine aj_zreturn dX6_pays_31 rfl (by decide) ?_
        first | contradiction | (have hq := hQ (wf_pPay hw); simpa only [pPay, pUpd, pOk, pHas, ↓reduceIte, sw_eq, sw_ne, ne_eq, Nat.reduceEqDiff, not_false_eq_true, Bool.false_eq_true, bi_t, bi_f, c5_1, c19_5, c27_6] using hq)
theorem sp_X6_noteBegun {d : Nat} {S : Sx} {Q : Option Value → Sx → Prop} {s : Int32} (hw : wfR S) (hQ : wfR (pNote S s) → Q none (pNote S s)) : CC d kX6_noteBegun layR [.ref 6, .int s] S Q := by
  refine cc_intro [some _, some _] (by decide) (cc_cat (by rfl)) (Nat.le_of_ble_eq_true rfl) (cc_ls (by rfl)) ?_
  refine aj_aload_n (q := 1) (i := 0) dX6_noteBegun_0 rfl rfl rfl ?_
  refine aj_getI (q := 4) (f := 602) fl_X6_26 dX6_noteBegun_1 rfl lR_6 rfl rfl ?_
  try simp only [sw_eq, sw_ne, fil_ne, ne_eq, Nat.reduceEqDiff, not_false_eq_true]
  refine aj_bipush (q := 6) (v := 30) dX6_noteBegun_4 rfl (by decide) ?_
  refine aj_icmp_ge (q := 9) (tgt := 29) dX6_noteBegun_6 rfl (by decide) (fun c6_1 => ?_) (fun c6_1 => ?_)
  · refine aj_return dX6_noteBegun_29 rfl ?_
    have hq := hQ (wf_pNote hw)
    simpa only [pNote, ↓reduceIte, sw_eq, sw_ne, ne_eq, Nat.reduceEqDiff, not_false_eq_true, Bool.false_eq_true, c6_1] using hq
  · refine aj_aload_n (q := 10) (i := 0) dX6_noteBegun_9 rfl rfl rfl ?_
    refine aj_getR (q := 13) fl_X6_17 dX6_noteBegun_10 rfl lR_6 rfl ?_
    refine aj_aload_n (q := 14) (i := 0) dX6_noteBegun_13 rfl rfl rfl ?_
    refine aj_getI (q := 17) (f := 602) fl_X6_26 dX6_noteBegun_14 rfl lR_6 rfl rfl ?_
    try simp only [sw_eq, sw_ne, fil_ne, ne_eq, Nat.reduceEqDiff, not_false_eq_true]
    refine aj_iload_n (q := 18) (i := 1) dX6_noteBegun_17 rfl rfl rfl ?_
    refine aj_iastore (q := 19) (f := 800) okR dX6_noteBegun_18 rfl lR_8 rfl (wf_begun hw c6_1) ?_
    refine aj_aload_n (q := 20) (i := 0) dX6_noteBegun_19 rfl rfl rfl ?_
    refine aj_dup (q := 21) dX6_noteBegun_20 rfl rfl ?_
    refine aj_getI (q := 24) (f := 602) fl_X6_26 dX6_noteBegun_21 rfl lR_6 rfl rfl ?_
    try simp only [sw_eq, sw_ne, fil_ne, ne_eq, Nat.reduceEqDiff, not_false_eq_true]
    refine aj_iconst (q := 25) (v := 1) dX6_noteBegun_24 rfl (by decide) ?_
    refine aj_iadd (q := 26) dX6_noteBegun_25 rfl ?_
    refine aj_putI (q := 29) (f := 602) okR fp_X6_26 dX6_noteBegun_26 rfl lR_6 rfl rfl ?_
    refine aj_return dX6_noteBegun_29 rfl ?_
    have hq := hQ (wf_pNote hw)
    simpa only [pNote, ↓reduceIte, sw_eq, sw_ne, ne_eq, Nat.reduceEqDiff, not_false_eq_true, Bool.false_eq_true, c6_1] using hq
theorem sp_X6_begunAt {d : Nat} {S : Sx} {Q : Option Value → Sx → Prop} {k : Int32} (hw : wfR S) (hQ : Q (some (.int (pBegun S k))) S) : CC (d + 1) kX6_begunAt layR [.ref 6, .int k] S Q := by
  refine cc_intro [some _, some _] (by decide) (cc_cat (by rfl)) (Nat.le_of_ble_eq_true rfl) (cc_ls (by rfl)) ?_
  refine aj_iload_n (q := 1) (i := 1) dX6_begunAt_0 rfl rfl rfl ?_
  refine aj_aload_n (q := 2) (i := 0) dX6_begunAt_1 rfl rfl rfl ?_
  refine aj_getI (q := 5) (f := 602) fl_X6_26 dX6_begunAt_2 rfl lR_6 rfl rfl ?_
  refine aj_callS (q := 8) (As := [_, _]) cl_X6_46 mk_X9_isBelow dX6_begunAt_5 rfl rfl (Nat.le_of_ble_eq_true rfl) (sp_isBelow ?_)
  refine aj_ifB_eq (q := 11) (tgt := 20) dX6_begunAt_8 rfl (by decide) (fun c8_1 => ?_) (fun c8_1 => ?_)
  · refine aj_iconst (q := 21) (v := (-1)) dX6_begunAt_20 rfl (by decide) ?_
    refine aj_ireturn dX6_begunAt_21 rfl ?_
    simpa only [pBegun, ↓reduceIte, Bool.false_eq_true, c8_1] using hQ
  · refine aj_aload_n (q := 12) (i := 0) dX6_begunAt_11 rfl rfl rfl ?_
    refine aj_getR (q := 15) fl_X6_17 dX6_begunAt_12 rfl lR_6 rfl ?_
    refine aj_iload_n (q := 16) (i := 1) dX6_begunAt_15 rfl rfl rfl ?_
    refine aj_iaload (q := 17) (f := 800) dX6_begunAt_16 rfl lR_8 rfl (wf_begunAt hw (by assumption)) ?_
    refine aj_goto (tgt := 21) dX6_begunAt_17 (by decide) ?_
    refine aj_ireturn dX6_begunAt_21 rfl ?_
    simpa only [pBegun, ↓reduceIte, Bool.false_eq_true, c8_1] using hQ
theorem sp_X6_marksOf {d : Nat} {S : Sx} {Q : Option Value → Sx → Prop} {m : Int32} (hQ : Q (some (.int (pMarks S m))) S) : CC (d + 1) kX6_marksOf layR [.ref 6, .int m] S Q := by
  refine cc_intro [some _, some _] (by decide) (cc_cat (by rfl)) (Nat.le_of_ble_eq_true rfl) (cc_ls (by rfl)) ?_
  refine aj_iload_n (q := 1) (i := 1) dX6_marksOf_0 rfl rfl rfl ?_
  refine aj_iconst (q := 2) (v := 5) dX6_marksOf_1 rfl (by decide) ?_
  refine aj_callS (q := 5) (As := [_, _]) cl_X6_46 mk_X9_isBelow dX6_marksOf_2 rfl rfl (Nat.le_of_ble_eq_true rfl) (sp_isBelow ?_)
  refine aj_ifB_eq (q := 8) (tgt := 17) dX6_marksOf_5 rfl (by decide) (fun c5_1 => ?_) (fun c5_1 => ?_)
  · refine aj_iconst (q := 18) (v := 0) dX6_marksOf_17 rfl (by decide) ?_
    refine aj_ireturn dX6_marksOf_18 rfl ?_
    simpa only [pMarks, ↓reduceIte, Bool.false_eq_true, c5_1] using hQ
  · refine aj_aload_n (q := 9) (i := 0) dX6_marksOf_8 rfl rfl rfl ?_
    refine aj_getR (q := 12) fl_X6_11 dX6_marksOf_9 rfl lR_6 rfl ?_
    refine aj_iload_n (q := 13) (i := 1) dX6_marksOf_12 rfl rfl rfl ?_
    refine aj_iaload (q := 14) (f := 700) dX6_marksOf_13 rfl lR_7 rfl (vin (m := 5) (by decide) (by assumption)) ?_
    refine aj_goto (tgt := 18) dX6_marksOf_14 (by decide) ?_
    refine aj_ireturn dX6_marksOf_18 rfl ?_
    simpa only [pMarks, ↓reduceIte, Bool.false_eq_true, c5_1] using hQ
theorem sp_X6_spentOfBudget {d : Nat} {S : Sx} {Q : Option Value → Sx → Prop} (hQ : Q (some (.int (S 605 0))) S) : CC d kX6_spentOfBudget layR [.ref 6] S Q := by
  refine cc_intro [some _] (by decide) (cc_cat (by rfl)) (Nat.le_of_ble_eq_true rfl) (cc_ls (by rfl)) ?_
  refine aj_aload_n (q := 1) (i := 0) dX6_spentOfBudget_0 rfl rfl rfl ?_
  refine aj_getI (q := 4) (f := 605) fl_X6_36 dX6_spentOfBudget_1 rfl lR_6 rfl rfl ?_
  refine aj_ireturn dX6_spentOfBudget_4 rfl ?_
  exact hQ
theorem sp_X6_spentOfReserve {d : Nat} {S : Sx} {Q : Option Value → Sx → Prop} (hQ : Q (some (.int (S 606 0))) S) : CC d kX6_spentOfReserve layR [.ref 6] S Q := by
  refine cc_intro [some _] (by decide) (cc_cat (by rfl)) (Nat.le_of_ble_eq_true rfl) (cc_ls (by rfl)) ?_
  refine aj_aload_n (q := 1) (i := 0) dX6_spentOfReserve_0 rfl rfl rfl ?_
  refine aj_getI (q := 4) (f := 606) fl_X6_39 dX6_spentOfReserve_1 rfl lR_6 rfl rfl ?_
  refine aj_ireturn dX6_spentOfReserve_4 rfl ?_
  exact hQ
/-! Program -/
def gOf (S : Sx) (f : Nat) (z s : Int32) : Int32 := if inb s (S 1706 0) then S f s.toNatClampNeg else z
def gBody (S : Sx) (m : Int32) : Int32 := if inb m 8 then S 2300 m.toNatClampNeg else -1
def gSetBody (S : Sx) (m s : Int32) : Sx := if inb m 8 then sw S 2300 m.toNatClampNeg s else S
def gFull (S : Sx) : Bool := decide (¬ S 1706 0 < 120)
theorem wf_stm {S : Sx} {s : Int32} (h : wfR S) (hc : inb s (S 1706 0) = true) : vp_in s 120 := vp_in_iff.mpr ⟨(inb_iff.mp hc).1, by
  have := (inb_iff.mp hc).2
  have := h.2.2.2.2.1.2
  omega⟩
theorem wf_gSetBody {S : Sx} {m s : Int32} (h : wfR S) : wfR (gSetBody S m s) := by
  unfold gSetBody
  split
  · exact h.sw rfl
  · exact h
theorem sp_X5_statements {d : Nat} {S : Sx} {Q : Option Value → Sx → Prop} (hQ : Q (some (.int (S 1706 0))) S) : CC d kX5_statements layR [.ref 17] S Q := by
  refine cc_intro [some _] (by decide) (cc_cat (by rfl)) (Nat.le_of_ble_eq_true rfl) (cc_ls (by rfl)) ?_
  refine aj_aload_n (q := 1) (i := 0) dX5_statements_0 rfl rfl rfl ?_
  refine aj_getI (q := 4) (f := 1706) fl_X5_36 dX5_statements_1 rfl lR_17 rfl rfl ?_
  refine aj_ireturn dX5_statements_4 rfl ?_
  exact hQ
theorem sp_X5_isFull {d : Nat} {S : Sx} {Q : Option Value → Sx → Prop} (hQ : Q (some (.int (bi (gFull S)))) S) : CC d kX5_isFull layR [.ref 17] S Q := by
  refine cc_intro [some _] (by decide) (cc_cat (by rfl)) (Nat.le_of_ble_eq_true rfl) (cc_ls (by rfl)) ?_
  refine aj_aload_n (q := 1) (i := 0) dX5_isFull_0 rfl rfl rfl ?_
  refine aj_getI (q := 4) (f := 1706) fl_X5_36 dX5_isFull_1 rfl lR_17 rfl rfl ?_
  refine aj_bipush (q := 6) (v := 120) dX5_isFull_4 rfl (by decide) ?_
  refine aj_icmp_lt (q := 9) (tgt := 13) dX5_isFull_6 rfl (by decide) (fun c6_1 => ?_) (fun c6_1 => ?_)
  · refine aj_iconst (q := 14) (v := 0) dX5_isFull_13 rfl (by decide) ?_
    refine aj_zreturn dX5_isFull_14 rfl (by decide) ?_
    simpa only [gFull, c6_1, not_true_eq_false, not_false_eq_true, decide_true, decide_false, bi_t, bi_f] using hQ
  · refine aj_iconst (q := 10) (v := 1) dX5_isFull_9 rfl (by decide) ?_
    refine aj_goto (tgt := 14) dX5_isFull_10 (by decide) ?_
    refine aj_zreturn dX5_isFull_14 rfl (by decide) ?_
    simpa only [gFull, c6_1, not_true_eq_false, not_false_eq_true, decide_true, decide_false, bi_t, bi_f] using hQ
theorem sp_X5_has {d : Nat} {S : Sx} {Q : Option Value → Sx → Prop} {s : Int32} (hQ : Q (some (.int (bi (inb s (S 1706 0))))) S) : CC (d + 1) kX5_has layR [.ref 17, .int s] S Q := by
  refine cc_intro [some _, some _] (by decide) (cc_cat (by rfl)) (Nat.le_of_ble_eq_true rfl) (cc_ls (by rfl)) ?_
  refine aj_iload_n (q := 1) (i := 1) dX5_has_0 rfl rfl rfl ?_
  refine aj_aload_n (q := 2) (i := 0) dX5_has_1 rfl rfl rfl ?_
  refine aj_getI (q := 5) (f := 1706) fl_X5_36 dX5_has_2 rfl lR_17 rfl rfl ?_
  refine aj_callS (q := 8) (As := [_, _]) cl_X5_40 mk_X9_isBelow dX5_has_5 rfl rfl (Nat.le_of_ble_eq_true rfl) (sp_isBelow ?_)
  refine aj_zreturn dX5_has_8 rfl (bi_nar _) ?_
  exact hQ
theorem sp_X5_sortOf {d : Nat} {S : Sx} {Q : Option Value → Sx → Prop} {s : Int32} (hw : wfR S) (hQ : Q (some (.int (gOf S 1800 (-1) s))) S) : CC (d + 2) kX5_sortOf layR [.ref 17, .int s] S Q := by
  refine cc_intro [some _, some _] (by decide) (cc_cat (by rfl)) (Nat.le_of_ble_eq_true rfl) (cc_ls (by rfl)) ?_
  refine aj_aload_n (q := 1) (i := 0) dX5_sortOf_0 rfl rfl rfl ?_
  refine aj_iload_n (q := 2) (i := 1) dX5_sortOf_1 rfl rfl rfl ?_
  refine aj_callV (q := 5) (As := [_]) cl_X5_44 mk_X5_has dX5_sortOf_2 rfl lR_17 rfl rfl (Nat.le_of_ble_eq_true rfl) (sp_X5_has ?_)
  refine aj_ifB_eq (q := 8) (tgt := 17) dX5_sortOf_5 rfl (by decide) (fun c5_1 => ?_) (fun c5_1 => ?_)
  · refine aj_iconst (q := 18) (v := (-1)) dX5_sortOf_17 rfl (by decide) ?_
    refine aj_ireturn dX5_sortOf_18 rfl ?_
    simpa only [gOf, ↓reduceIte, Bool.false_eq_true, c5_1] using hQ
  · refine aj_aload_n (q := 9) (i := 0) dX5_sortOf_8 rfl rfl rfl ?_
    refine aj_getR (q := 12) fl_X5_9 dX5_sortOf_9 rfl lR_17 rfl ?_
    refine aj_iload_n (q := 13) (i := 1) dX5_sortOf_12 rfl rfl rfl ?_
    refine aj_iaload (q := 14) (f := 1800) dX5_sortOf_13 rfl lR_18 rfl (wf_stm hw (by assumption)) ?_
    refine aj_goto (tgt := 18) dX5_sortOf_14 (by decide) ?_
    refine aj_ireturn dX5_sortOf_18 rfl ?_
    simpa only [gOf, ↓reduceIte, Bool.false_eq_true, c5_1] using hQ
theorem sp_X5_firstOf {d : Nat} {S : Sx} {Q : Option Value → Sx → Prop} {s : Int32} (hw : wfR S) (hQ : Q (some (.int (gOf S 1900 (-1) s))) S) : CC (d + 2) kX5_firstOf layR [.ref 17, .int s] S Q := by
  refine cc_intro [some _, some _] (by decide) (cc_cat (by rfl)) (Nat.le_of_ble_eq_true rfl) (cc_ls (by rfl)) ?_
  refine aj_aload_n (q := 1) (i := 0) dX5_firstOf_0 rfl rfl rfl ?_
  refine aj_iload_n (q := 2) (i := 1) dX5_firstOf_1 rfl rfl rfl ?_
  refine aj_callV (q := 5) (As := [_]) cl_X5_44 mk_X5_has dX5_firstOf_2 rfl lR_17 rfl rfl (Nat.le_of_ble_eq_true rfl) (sp_X5_has ?_)
  refine aj_ifB_eq (q := 8) (tgt := 17) dX5_firstOf_5 rfl (by decide) (fun c5_1 => ?_) (fun c5_1 => ?_)
  · refine aj_iconst (q := 18) (v := (-1)) dX5_firstOf_17 rfl (by decide) ?_
    refine aj_ireturn dX5_firstOf_18 rfl ?_
    simpa only [gOf, ↓reduceIte, Bool.false_eq_true, c5_1] using hQ
  · refine aj_aload_n (q := 9) (i := 0) dX5_firstOf_8 rfl rfl rfl ?_
    refine aj_getR (q := 12) fl_X5_15 dX5_firstOf_9 rfl lR_17 rfl ?_
    refine aj_iload_n (q := 13) (i := 1) dX5_firstOf_12 rfl rfl rfl ?_
    refine aj_iaload (q := 14) (f := 1900) dX5_firstOf_13 rfl lR_19 rfl (wf_stm hw (by assumption)) ?_
    refine aj_goto (tgt := 18) dX5_firstOf_14 (by decide) ?_
    refine aj_ireturn dX5_firstOf_18 rfl ?_
    simpa only [gOf, ↓reduceIte, Bool.false_eq_true, c5_1] using hQ
theorem sp_X5_secondOf {d : Nat} {S : Sx} {Q : Option Value → Sx → Prop} {s : Int32} (hw : wfR S) (hQ : Q (some (.int (gOf S 2000 (-1) s))) S) : CC (d + 2) kX5_secondOf layR [.ref 17, .int s] S Q := by
  refine cc_intro [some _, some _] (by decide) (cc_cat (by rfl)) (Nat.le_of_ble_eq_true rfl) (cc_ls (by rfl)) ?_
  refine aj_aload_n (q := 1) (i := 0) dX5_secondOf_0 rfl rfl rfl ?_
  refine aj_iload_n (q := 2) (i := 1) dX5_secondOf_1 rfl rfl rfl ?_
  refine aj_callV (q := 5) (As := [_]) cl_X5_44 mk_X5_has dX5_secondOf_2 rfl lR_17 rfl rfl (Nat.le_of_ble_eq_true rfl) (sp_X5_has ?_)
  refine aj_ifB_eq (q := 8) (tgt := 17) dX5_secondOf_5 rfl (by decide) (fun c5_1 => ?_) (fun c5_1 => ?_)
  · refine aj_iconst (q := 18) (v := (-1)) dX5_secondOf_17 rfl (by decide) ?_
    refine aj_ireturn dX5_secondOf_18 rfl ?_
    simpa only [gOf, ↓reduceIte, Bool.false_eq_true, c5_1] using hQ
  · refine aj_aload_n (q := 9) (i := 0) dX5_secondOf_8 rfl rfl rfl ?_
    refine aj_getR (q := 12) fl_X5_18 dX5_secondOf_9 rfl lR_17 rfl ?_
    refine aj_iload_n (q := 13) (i := 1) dX5_secondOf_12 rfl rfl rfl ?_
    refine aj_iaload (q := 14) (f := 2000) dX5_secondOf_13 rfl lR_20 rfl (wf_stm hw (by assumption)) ?_
    refine aj_goto (tgt := 18) dX5_secondOf_14 (by decide) ?_
    refine aj_ireturn dX5_secondOf_18 rfl ?_
    simpa only [gOf, ↓reduceIte, Bool.false_eq_true, c5_1] using hQ
theorem sp_X5_thirdOf {d : Nat} {S : Sx} {Q : Option Value → Sx → Prop} {s : Int32} (hw : wfR S) (hQ : Q (some (.int (gOf S 2100 (-1) s))) S) : CC (d + 2) kX5_thirdOf layR [.ref 17, .int s] S Q := by
  refine cc_intro [some _, some _] (by decide) (cc_cat (by rfl)) (Nat.le_of_ble_eq_true rfl) (cc_ls (by rfl)) ?_
  refine aj_aload_n (q := 1) (i := 0) dX5_thirdOf_0 rfl rfl rfl ?_
  refine aj_iload_n (q := 2) (i := 1) dX5_thirdOf_1 rfl rfl rfl ?_
  refine aj_callV (q := 5) (As := [_]) cl_X5_44 mk_X5_has dX5_thirdOf_2 rfl lR_17 rfl rfl (Nat.le_of_ble_eq_true rfl) (sp_X5_has ?_)
  refine aj_ifB_eq (q := 8) (tgt := 17) dX5_thirdOf_5 rfl (by decide) (fun c5_1 => ?_) (fun c5_1 => ?_)
  · refine aj_iconst (q := 18) (v := (-1)) dX5_thirdOf_17 rfl (by decide) ?_
    refine aj_ireturn dX5_thirdOf_18 rfl ?_
    simpa only [gOf, ↓reduceIte, Bool.false_eq_true, c5_1] using hQ
  · refine aj_aload_n (q := 9) (i := 0) dX5_thirdOf_8 rfl rfl rfl ?_
    refine aj_getR (q := 12) fl_X5_21 dX5_thirdOf_9 rfl lR_17 rfl ?_
    refine aj_iload_n (q := 13) (i := 1) dX5_thirdOf_12 rfl rfl rfl ?_
    refine aj_iaload (q := 14) (f := 2100) dX5_thirdOf_13 rfl lR_21 rfl (wf_stm hw (by assumption)) ?_
    refine aj_goto (tgt := 18) dX5_thirdOf_14 (by decide) ?_
    refine aj_ireturn dX5_thirdOf_18 rfl ?_
    simpa only [gOf, ↓reduceIte, Bool.false_eq_true, c5_1] using hQ
theorem sp_X5_heightOf {d : Nat} {S : Sx} {Q : Option Value → Sx → Prop} {s : Int32} (hw : wfR S) (hQ : Q (some (.int (gOf S 2200 (0) s))) S) : CC (d + 2) kX5_heightOf layR [.ref 17, .int s] S Q := by
  refine cc_intro [some _, some _] (by decide) (cc_cat (by rfl)) (Nat.le_of_ble_eq_true rfl) (cc_ls (by rfl)) ?_
  refine aj_aload_n (q := 1) (i := 0) dX5_heightOf_0 rfl rfl rfl ?_
  refine aj_iload_n (q := 2) (i := 1) dX5_heightOf_1 rfl rfl rfl ?_
  refine aj_callV (q := 5) (As := [_]) cl_X5_44 mk_X5_has dX5_heightOf_2 rfl lR_17 rfl rfl (Nat.le_of_ble_eq_true rfl) (sp_X5_has ?_)
  refine aj_ifB_eq (q := 8) (tgt := 17) dX5_heightOf_5 rfl (by decide) (fun c5_1 => ?_) (fun c5_1 => ?_)
  · refine aj_iconst (q := 18) (v := 0) dX5_heightOf_17 rfl (by decide) ?_
    refine aj_ireturn dX5_heightOf_18 rfl ?_
    simpa only [gOf, ↓reduceIte, Bool.false_eq_true, c5_1] using hQ
  · refine aj_aload_n (q := 9) (i := 0) dX5_heightOf_8 rfl rfl rfl ?_
    refine aj_getR (q := 12) fl_X5_24 dX5_heightOf_9 rfl lR_17 rfl ?_
    refine aj_iload_n (q := 13) (i := 1) dX5_heightOf_12 rfl rfl rfl ?_
    refine aj_iaload (q := 14) (f := 2200) dX5_heightOf_13 rfl lR_22 rfl (wf_stm hw (by assumption)) ?_
    refine aj_goto (tgt := 18) dX5_heightOf_14 (by decide) ?_
    refine aj_ireturn dX5_heightOf_18 rfl ?_
    simpa only [gOf, ↓reduceIte, Bool.false_eq_true, c5_1] using hQ
theorem sp_X5_bodyOf {d : Nat} {S : Sx} {Q : Option Value → Sx → Prop} {m : Int32} (hQ : Q (some (.int (gBody S m))) S) : CC (d + 1) kX5_bodyOf layR [.ref 17, .int m] S Q := by
  refine cc_intro [some _, some _] (by decide) (cc_cat (by rfl)) (Nat.le_of_ble_eq_true rfl) (cc_ls (by rfl)) ?_
  refine aj_iload_n (q := 1) (i := 1) dX5_bodyOf_0 rfl rfl rfl ?_
  refine aj_bipush (q := 3) (v := 8) dX5_bodyOf_1 rfl (by decide) ?_
  refine aj_callS (q := 6) (As := [_, _]) cl_X5_40 mk_X9_isBelow dX5_bodyOf_3 rfl rfl (Nat.le_of_ble_eq_true rfl) (sp_isBelow ?_)
  refine aj_ifB_eq (q := 9) (tgt := 18) dX5_bodyOf_6 rfl (by decide) (fun c6_1 => ?_) (fun c6_1 => ?_)
  · refine aj_iconst (q := 19) (v := (-1)) dX5_bodyOf_18 rfl (by decide) ?_
    refine aj_ireturn dX5_bodyOf_19 rfl ?_
    simpa only [gBody, ↓reduceIte, Bool.false_eq_true, c6_1] using hQ
  · refine aj_aload_n (q := 10) (i := 0) dX5_bodyOf_9 rfl rfl rfl ?_
    refine aj_getR (q := 13) fl_X5_27 dX5_bodyOf_10 rfl lR_17 rfl ?_
    refine aj_iload_n (q := 14) (i := 1) dX5_bodyOf_13 rfl rfl rfl ?_
    refine aj_iaload (q := 15) (f := 2300) dX5_bodyOf_14 rfl lR_23 rfl (vin (m := 8) (by decide) (by assumption)) ?_
    refine aj_goto (tgt := 19) dX5_bodyOf_15 (by decide) ?_
    refine aj_ireturn dX5_bodyOf_19 rfl ?_
    simpa only [gBody, ↓reduceIte, Bool.false_eq_true, c6_1] using hQ
theorem sp_X5_setBody {d : Nat} {S : Sx} {Q : Option Value → Sx → Prop} {m s : Int32} (hw : wfR S) (hQ : wfR (gSetBody S m s) → Q none (gSetBody S m s)) : CC (d + 1) kX5_setBody layR [.ref 17, .int m, .int s] S Q := by
  refine cc_intro [some _, some _, some _] (by decide) (cc_cat (by rfl)) (Nat.le_of_ble_eq_true rfl) (cc_ls (by rfl)) ?_
  refine aj_iload_n (q := 1) (i := 1) dX5_setBody_0 rfl rfl rfl ?_
  refine aj_bipush (q := 3) (v := 8) dX5_setBody_1 rfl (by decide) ?_
  refine aj_callS (q := 6) (As := [_, _]) cl_X5_40 mk_X9_isBelow dX5_setBody_3 rfl rfl (Nat.le_of_ble_eq_true rfl) (sp_isBelow ?_)
  refine aj_ifB_eq (q := 9) (tgt := 16) dX5_setBody_6 rfl (by decide) (fun c6_1 => ?_) (fun c6_1 => ?_)
  · refine aj_return dX5_setBody_16 rfl ?_
    have hq := hQ (wf_gSetBody hw)
    simpa only [gSetBody, ↓reduceIte, sw_eq, sw_ne, ne_eq, Nat.reduceEqDiff, not_false_eq_true, Bool.false_eq_true, c6_1] using hq
  · refine aj_aload_n (q := 10) (i := 0) dX5_setBody_9 rfl rfl rfl ?_
    refine aj_getR (q := 13) fl_X5_27 dX5_setBody_10 rfl lR_17 rfl ?_
    refine aj_iload_n (q := 14) (i := 1) dX5_setBody_13 rfl rfl rfl ?_
    refine aj_iload_n (q := 15) (i := 2) dX5_setBody_14 rfl rfl rfl ?_
    refine aj_iastore (q := 16) (f := 2300) okR dX5_setBody_15 rfl lR_23 rfl (vin (m := 8) (by decide) (by assumption)) ?_
    refine aj_return dX5_setBody_16 rfl ?_
    have hq := hQ (wf_gSetBody hw)
    simpa only [gSetBody, ↓reduceIte, sw_eq, sw_ne, ne_eq, Nat.reduceEqDiff, not_false_eq_true, Bool.false_eq_true, c6_1] using hq
theorem sp_X5_isVariable {d : Nat} {S : Sx} {Q : Option Value → Sx → Prop} {x : Int32} (hQ : Q (some (.int (bi (inb x 8)))) S) : CC (d + 1) kX5_isVariable layR [.int x] S Q := by
  refine cc_intro [some _] (by decide) (cc_cat (by rfl)) (Nat.le_of_ble_eq_true rfl) (cc_ls (by rfl)) ?_
  refine aj_iload_n (q := 1) (i := 0) dX5_isVariable_0 rfl rfl rfl ?_
  refine aj_bipush (q := 3) (v := 8) dX5_isVariable_1 rfl (by decide) ?_
  refine aj_callS (q := 6) (As := [_, _]) cl_X5_40 mk_X9_isBelow dX5_isVariable_3 rfl rfl (Nat.le_of_ble_eq_true rfl) (sp_isBelow ?_)
  refine aj_zreturn dX5_isVariable_6 rfl (bi_nar _) ?_
  exact hQ
theorem sp_X5_isRow {d : Nat} {S : Sx} {Q : Option Value → Sx → Prop} {x : Int32} (hQ : Q (some (.int (bi (inb x 4)))) S) : CC (d + 1) kX5_isRow layR [.int x] S Q := by
  refine cc_intro [some _] (by decide) (cc_cat (by rfl)) (Nat.le_of_ble_eq_true rfl) (cc_ls (by rfl)) ?_
  refine aj_iload_n (q := 1) (i := 0) dX5_isRow_0 rfl rfl rfl ?_
  refine aj_iconst (q := 2) (v := 4) dX5_isRow_1 rfl (by decide) ?_
  refine aj_callS (q := 5) (As := [_, _]) cl_X5_40 mk_X9_isBelow dX5_isRow_2 rfl rfl (Nat.le_of_ble_eq_true rfl) (sp_isBelow ?_)
  refine aj_zreturn dX5_isRow_5 rfl (bi_nar _) ?_
  exact hQ
