theorem sw_ne {S : Sx} {f g i j : Nat} {v : Int32} (h : g ≠ f) : sw S f i v g j = S g j := by unfold sw; rw [if_neg h]
theorem sw_eq {S : Sx} {f i : Nat} {v : Int32} : sw S f i v f i = v := by simp [sw]
theorem sw_ix {S : Sx} {f i j : Nat} {v : Int32} (h : j ≠ i) : sw S f i v f j = S f j := by simp [sw, h]
theorem sw_app (S : Sx) (f i : Nat) (v : Int32) (g j : Nat) : sw S f i v g j = if g = f then (if j = i then v else S g j) else S g j := rfl
theorem fil_ne {S : Sx} {f g n j : Nat} {v : Int32} (h : g ≠ f) : fil S f n v g j = S g j := by unfold fil; rw [if_neg (fun e => h e.1)]
section IFB
variable {d : Nat} {k : MK} {lay : Lay} {pc q : Nat} {ls : AL} {st : List Value} {S : Sx} {Q : Option Value → Sx → Prop}
theorem aj_ifB_eq {b : Bool} {off : Int} {tgt : Nat} (hd : decode k.2.1 pc = .ok (.ifCond .eq off, 3)) (hq : pc + 3 = q) (ht : (pc : Int) + off = (tgt : Int)) (kt : b = false → AJ d k lay tgt ls st S Q) (kf : b = true → AJ d k lay q ls st S Q) : AJ d k lay pc ls (.int (bi b) :: st) S Q := aj_if_eq hd hq ht (fun c => kt (bi_eq0.mp c)) (fun c => kf (bi_ne0.mp c))
theorem aj_ifB_ne {b : Bool} {off : Int} {tgt : Nat} (hd : decode k.2.1 pc = .ok (.ifCond .ne off, 3)) (hq : pc + 3 = q) (ht : (pc : Int) + off = (tgt : Int)) (kt : b = true → AJ d k lay tgt ls st S Q) (kf : b = false → AJ d k lay q ls st S Q) : AJ d k lay pc ls (.int (bi b) :: st) S Q := aj_if_ne hd hq ht (fun c => kt (bi_ne0.mp c)) (fun c => kf (bi_eq0.mp (Classical.not_not.mp c)))
end IFB
/-- what keeps the component's rows within their bounds -/
def wfR (S : Sx) : Prop := (0 ≤ (S 1105 0).toInt ∧ (S 1105 0).toInt ≤ 128) ∧ (0 ≤ (S 602 0).toInt ∧ (S 602 0).toInt ≤ 30) ∧ (0 ≤ (S 104 0).toInt ∧ (S 104 0).toInt ≤ 800) ∧ (∀ r, r < 4 → S 400 r = -1 ∨ (0 ≤ (S 400 r).toInt ∧ 0 ≤ (S 300 r).toInt ∧ (S 300 r).toInt + (S 400 r).toInt ≤ 800)) ∧ (0 ≤ (S 1706 0).toInt ∧ (S 1706 0).toInt ≤ 120) ∧ (S 607 0 = 0 ∨ S 607 0 = 1)
def wfFree (f : Nat) : Bool := !([1105, 602, 104, 400, 300, 1706, 607].contains f)
theorem wfR.sw {S : Sx} {f i : Nat} {v : Int32} (h : wfR S) (hf : wfFree f = true) : wfR (sw S f i v) := by
  have hne : 1105 ≠ f ∧ 602 ≠ f ∧ 104 ≠ f ∧ 400 ≠ f ∧ 300 ≠ f ∧ 1706 ≠ f ∧ 607 ≠ f := by
    simp [wfFree] at hf
    omega
  obtain ⟨n1, n2, n3, n4, n5, n6, n7⟩ := hne
  simpa only [wfR, sw_ne n1, sw_ne n2, sw_ne n3, sw_ne n4, sw_ne n5, sw_ne n6, sw_ne n7] using h
theorem wf_put {S : Sx} {f i : Nat} {v : Int32} {A : Prop} (h : wfR S) (hf : wfFree f = true) (k : wfR (sw S f i v) → A) : A := k (h.sw hf)
theorem i32_add {x y : Int32} (h1 : -2147483648 ≤ x.toInt + y.toInt) (h2 : x.toInt + y.toInt < 2147483648) : (x + y).toInt = x.toInt + y.toInt := by
  rw [Int32.toInt_add]
  exact Int.bmod_eq_of_le (by omega) (by omega)
theorem i32_sub {x y : Int32} (h1 : -2147483648 ≤ x.toInt - y.toInt) (h2 : x.toInt - y.toInt < 2147483648) : (x - y).toInt = x.toInt - y.toInt := by
  rw [Int32.toInt_sub]
  exact Int.bmod_eq_of_le (by omega) (by omega)
theorem i32_le {x y : Int32} : x ≤ y ↔ x.toInt ≤ y.toInt := Int32.le_iff_toInt_le
theorem i32_lt {x y : Int32} : x < y ↔ x.toInt < y.toInt := Int32.lt_iff_toInt_lt
/-! Frames -/
def fClear (S : Sx) : Sx := sw S 1105 0 0
def fEmpty (S : Sx) : Bool := decide (S 1105 0 = 0)
def fTop (S : Sx) : Nat := (S 1105 0 - 1).toNatClampNeg
def fOpen (S : Sx) (s : Int32) : Sx := if (128 : Int32) ≤ S 1105 0 then S else sw (sw (sw S 1200 (S 1105 0).toNatClampNeg s) 1300 (S 1105 0).toNatClampNeg 0) 1105 0 (S 1105 0 + 1)
def fClose (S : Sx) : Sx := if S 1105 0 ≤ 0 then S else sw S 1105 0 (S 1105 0 - 1)
def fGet (S : Sx) (f : Nat) (z : Int32) : Int32 := if S 1105 0 ≤ 0 then z else S f (fTop S)
def fSetStage (S : Sx) (g : Int32) : Sx := if S 1105 0 ≤ 0 then S else sw S 1300 (fTop S) g
def fKeep (S : Sx) (a b c : Int32) : Sx := if S 1105 0 ≤ 0 then S else sw (sw (sw S 1400 (fTop S) a) 1500 (fTop S) b) 1600 (fTop S) c
theorem wf_depth {S : Sx} (h : wfR S) (hc : ¬ (128 : Int32) ≤ S 1105 0) : vp_in (S 1105 0) 128 := vp_in_iff.mpr ⟨h.1.1, by
  have := h.1.2
  rw [i32_le] at hc
  have : (128 : Int32).toInt = 128 := rfl
  omega⟩
theorem wf_top {S : Sx} (h : wfR S) (hc : ¬ S 1105 0 ≤ 0) : vp_in (S 1105 0 - 1) 128 := by
  have h1 := h.1
  rw [i32_le] at hc
  have e0 : (0 : Int32).toInt = 0 := rfl
  have e1 : (1 : Int32).toInt = 1 := rfl
  have := i32_sub (x := S 1105 0) (y := 1) (by omega) (by omega)
  exact vp_in_iff.mpr ⟨by omega, by omega⟩
theorem wf_fClear {S : Sx} (h : wfR S) : wfR (fClear S) := by
  obtain ⟨h1, h2, h3, h4, h5, h6⟩ := h
  refine ⟨⟨by simp only [fClear, sw_eq]; decide, by simp only [fClear, sw_eq]; decide⟩, h2, h3, h4, h5, h6⟩
theorem wf_fOpen {S : Sx} {s : Int32} (h : wfR S) : wfR (fOpen S s) := by
  unfold fOpen
  split
  · exact h
  · rename_i hc
    obtain ⟨h1, h2, h3, h4, h5, h6⟩ := h
    rw [i32_le] at hc
    have e0 : (128 : Int32).toInt = 128 := rfl
    have e1 : (1 : Int32).toInt = 1 := rfl
    have := i32_add (x := S 1105 0) (y := 1) (by omega) (by omega)
    refine ⟨⟨by rw [sw_eq]; omega, by rw [sw_eq]; omega⟩, h2, h3, h4, h5, h6⟩
theorem wf_fClose {S : Sx} (h : wfR S) : wfR (fClose S) := by
  unfold fClose
  split
  · exact h
  · rename_i hc
    obtain ⟨h1, h2, h3, h4, h5, h6⟩ := h
    rw [i32_le] at hc
    have e0 : (0 : Int32).toInt = 0 := rfl
    have e1 : (1 : Int32).toInt = 1 := rfl
    have := i32_sub (x := S 1105 0) (y := 1) (by omega) (by omega)
    refine ⟨⟨by rw [sw_eq]; omega, by rw [sw_eq]; omega⟩, h2, h3, h4, h5, h6⟩
theorem wf_fSetStage {S : Sx} {g : Int32} (h : wfR S) : wfR (fSetStage S g) := by
  unfold fSetStage
  split
  · exact h
  · exact h.sw rfl
theorem wf_fKeep {S : Sx} {a b c : Int32} (h : wfR S) : wfR (fKeep S a b c) := by
  unfold fKeep
  split
  · exact h
  · exact ((h.sw rfl).sw rfl).sw rfl
theorem sp_X0_clear {d : Nat} {S : Sx} {Q : Option Value → Sx → Prop} (hw : wfR S) (hQ : wfR (fClear S) → Q none (fClear S)) : CC d kX0_clear layR [.ref 11] S Q := by
  refine cc_intro [some _] (by decide) (cc_cat (by rfl)) (by decide) (cc_ls (by rfl)) ?_
  refine aj_aload_n (q := 1) (i := 0) dX0_clear_0 rfl rfl rfl ?_
  refine aj_iconst (q := 2) (v := 0) dX0_clear_1 rfl (by decide) ?_
  refine aj_putI (q := 5) (f := 1105) okR fp_X0_27 dX0_clear_2 rfl lR_11 rfl rfl ?_
  refine aj_return dX0_clear_5 rfl ?_
  exact hQ (wf_fClear hw)
theorem sp_X0_isEmpty {d : Nat} {S : Sx} {Q : Option Value → Sx → Prop} (hw : wfR S) (hQ : Q (some (.int (bi (fEmpty S)))) S) : CC d kX0_isEmpty layR [.ref 11] S Q := by
  refine cc_intro [some _] (by decide) (cc_cat (by rfl)) (by decide) (cc_ls (by rfl)) ?_
  refine aj_aload_n (q := 1) (i := 0) dX0_isEmpty_0 rfl rfl rfl ?_
  refine aj_getI (q := 4) (f := 1105) fl_X0_27 dX0_isEmpty_1 rfl lR_11 rfl rfl ?_
  refine aj_if_ne (q := 7) (tgt := 11) dX0_isEmpty_4 rfl (by decide) (fun c4_1 => ?_) (fun c4_1 => ?_)
  · refine aj_iconst (q := 12) (v := 0) dX0_isEmpty_11 rfl (by decide) ?_
    refine aj_zreturn dX0_isEmpty_12 rfl (by decide) ?_
    simpa only [fEmpty, c4_1, decide_true, decide_false, bi_t, bi_f] using hQ
  · refine aj_iconst (q := 8) (v := 1) dX0_isEmpty_7 rfl (by decide) ?_
    refine aj_goto (tgt := 12) dX0_isEmpty_8 (by decide) ?_
    refine aj_zreturn dX0_isEmpty_12 rfl (by decide) ?_
    simpa only [fEmpty, c4_1, decide_true, decide_false, bi_t, bi_f] using hQ
theorem sp_X0_open {d : Nat} {S : Sx} {Q : Option Value → Sx → Prop} {s : Int32} (hw : wfR S) (hQ : wfR (fOpen S s) → Q none (fOpen S s)) : CC d kX0_open layR [.ref 11, .int s] S Q := by
  refine cc_intro [some _, some _] (by decide) (cc_cat (by rfl)) (by decide) (cc_ls (by rfl)) ?_
  refine aj_aload_n (q := 1) (i := 0) dX0_open_0 rfl rfl rfl ?_
  refine aj_getI (q := 4) (f := 1105) fl_X0_27 dX0_open_1 rfl lR_11 rfl rfl ?_
  try simp only [sw_eq, sw_ne, fil_ne, ne_eq, Nat.reduceEqDiff, not_false_eq_true, OfNat.ofNat_ne_zero]
  refine aj_sipush (q := 7) (v := 128) dX0_open_4 rfl (by decide) ?_
  refine aj_icmp_ge (q := 10) (tgt := 40) dX0_open_7 rfl (by decide) (fun c7_1 => ?_) (fun c7_1 => ?_)
  · refine aj_return dX0_open_40 rfl ?_
    have hq := hQ (wf_fOpen hw)
    simpa only [fOpen, ↓reduceIte, sw_eq, sw_ne, ne_eq, Nat.reduceEqDiff, not_false_eq_true, c7_1] using hq
  · refine aj_aload_n (q := 11) (i := 0) dX0_open_10 rfl rfl rfl ?_
    refine aj_getR (q := 14) fl_X0_11 dX0_open_11 rfl lR_11 rfl ?_
    refine aj_aload_n (q := 15) (i := 0) dX0_open_14 rfl rfl rfl ?_
    refine aj_getI (q := 18) (f := 1105) fl_X0_27 dX0_open_15 rfl lR_11 rfl rfl ?_
    try simp only [sw_eq, sw_ne, fil_ne, ne_eq, Nat.reduceEqDiff, not_false_eq_true, OfNat.ofNat_ne_zero]
    refine aj_iload_n (q := 19) (i := 1) dX0_open_18 rfl rfl rfl ?_
    refine aj_iastore (q := 20) (f := 1200) okR dX0_open_19 rfl lR_12 rfl (wf_depth hw c7_1) ?_
    refine aj_aload_n (q := 21) (i := 0) dX0_open_20 rfl rfl rfl ?_
    refine aj_getR (q := 24) fl_X0_15 dX0_open_21 rfl lR_11 rfl ?_
    refine aj_aload_n (q := 25) (i := 0) dX0_open_24 rfl rfl rfl ?_
    refine aj_getI (q := 28) (f := 1105) fl_X0_27 dX0_open_25 rfl lR_11 rfl rfl ?_
    try simp only [sw_eq, sw_ne, fil_ne, ne_eq, Nat.reduceEqDiff, not_false_eq_true, OfNat.ofNat_ne_zero]
    refine aj_iconst (q := 29) (v := 0) dX0_open_28 rfl (by decide) ?_
    refine aj_iastore (q := 30) (f := 1300) okR dX0_open_29 rfl lR_13 rfl (wf_depth hw c7_1) ?_
    refine aj_aload_n (q := 31) (i := 0) dX0_open_30 rfl rfl rfl ?_
    refine aj_dup (q := 32) dX0_open_31 rfl rfl ?_
    refine aj_getI (q := 35) (f := 1105) fl_X0_27 dX0_open_32 rfl lR_11 rfl rfl ?_
    try simp only [sw_eq, sw_ne, fil_ne, ne_eq, Nat.reduceEqDiff, not_false_eq_true, OfNat.ofNat_ne_zero]
    refine aj_iconst (q := 36) (v := 1) dX0_open_35 rfl (by decide) ?_
    refine aj_iadd (q := 37) dX0_open_36 rfl ?_
    refine aj_putI (q := 40) (f := 1105) okR fp_X0_27 dX0_open_37 rfl lR_11 rfl rfl ?_
    refine aj_return dX0_open_40 rfl ?_
    have hq := hQ (wf_fOpen hw)
    simpa only [fOpen, ↓reduceIte, sw_eq, sw_ne, ne_eq, Nat.reduceEqDiff, not_false_eq_true, c7_1] using hq
theorem sp_X0_close {d : Nat} {S : Sx} {Q : Option Value → Sx → Prop} (hw : wfR S) (hQ : wfR (fClose S) → Q none (fClose S)) : CC d kX0_close layR [.ref 11] S Q := by
  refine cc_intro [some _] (by decide) (cc_cat (by rfl)) (by decide) (cc_ls (by rfl)) ?_
  refine aj_aload_n (q := 1) (i := 0) dX0_close_0 rfl rfl rfl ?_
  refine aj_getI (q := 4) (f := 1105) fl_X0_27 dX0_close_1 rfl lR_11 rfl rfl ?_
  refine aj_if_le (q := 7) (tgt := 17) dX0_close_4 rfl (by decide) (fun c4_1 => ?_) (fun c4_1 => ?_)
  · refine aj_return dX0_close_17 rfl ?_
    have hq := hQ (wf_fClose hw)
    simpa only [fClose, ↓reduceIte, sw_eq, sw_ne, ne_eq, Nat.reduceEqDiff, not_false_eq_true, c4_1] using hq
  · refine aj_aload_n (q := 8) (i := 0) dX0_close_7 rfl rfl rfl ?_
    refine aj_dup (q := 9) dX0_close_8 rfl rfl ?_
    refine aj_getI (q := 12) (f := 1105) fl_X0_27 dX0_close_9 rfl lR_11 rfl rfl ?_
    refine aj_iconst (q := 13) (v := 1) dX0_close_12 rfl (by decide) ?_
    refine aj_isub (q := 14) dX0_close_13 rfl ?_
    refine aj_putI (q := 17) (f := 1105) okR fp_X0_27 dX0_close_14 rfl lR_11 rfl rfl ?_
    refine aj_return dX0_close_17 rfl ?_
    have hq := hQ (wf_fClose hw)
    simpa only [fClose, ↓reduceIte, sw_eq, sw_ne, ne_eq, Nat.reduceEqDiff, not_false_eq_true, c4_1] using hq
theorem sp_X0_statement {d : Nat} {S : Sx} {Q : Option Value → Sx → Prop} (hw : wfR S) (hQ : Q (some (.int (fGet S 1200 (-1)))) S) : CC d kX0_statement layR [.ref 11] S Q := by
  refine cc_intro [some _] (by decide) (cc_cat (by rfl)) (by decide) (cc_ls (by rfl)) ?_
  refine aj_aload_n (q := 1) (i := 0) dX0_statement_0 rfl rfl rfl ?_
  refine aj_getI (q := 4) (f := 1105) fl_X0_27 dX0_statement_1 rfl lR_11 rfl rfl ?_
  refine aj_if_le (q := 7) (tgt := 21) dX0_statement_4 rfl (by decide) (fun c4_1 => ?_) (fun c4_1 => ?_)
  · refine aj_iconst (q := 22) (v := (-1)) dX0_statement_21 rfl (by decide) ?_
    refine aj_ireturn dX0_statement_22 rfl ?_
    simpa only [fGet, fTop, ↓reduceIte, c4_1] using hQ
  · refine aj_aload_n (q := 8) (i := 0) dX0_statement_7 rfl rfl rfl ?_
    refine aj_getR (q := 11) fl_X0_11 dX0_statement_8 rfl lR_11 rfl ?_
    refine aj_aload_n (q := 12) (i := 0) dX0_statement_11 rfl rfl rfl ?_
    refine aj_getI (q := 15) (f := 1105) fl_X0_27 dX0_statement_12 rfl lR_11 rfl rfl ?_
    refine aj_iconst (q := 16) (v := 1) dX0_statement_15 rfl (by decide) ?_
    refine aj_isub (q := 17) dX0_statement_16 rfl ?_
    refine aj_iaload (q := 18) (f := 1200) dX0_statement_17 rfl lR_12 rfl (wf_top hw c4_1) ?_
    refine aj_goto (tgt := 22) dX0_statement_18 (by decide) ?_
    refine aj_ireturn dX0_statement_22 rfl ?_
    simpa only [fGet, fTop, ↓reduceIte, c4_1] using hQ
theorem sp_X0_stage {d : Nat} {S : Sx} {Q : Option Value → Sx → Prop} (hw : wfR S) (hQ : Q (some (.int (fGet S 1300 (0)))) S) : CC d kX0_stage layR [.ref 11] S Q := by
  refine cc_intro [some _] (by decide) (cc_cat (by rfl)) (by decide) (cc_ls (by rfl)) ?_
  refine aj_aload_n (q := 1) (i := 0) dX0_stage_0 rfl rfl rfl ?_
  refine aj_getI (q := 4) (f := 1105) fl_X0_27 dX0_stage_1 rfl lR_11 rfl rfl ?_
  refine aj_if_le (q := 7) (tgt := 21) dX0_stage_4 rfl (by decide) (fun c4_1 => ?_) (fun c4_1 => ?_)
  · refine aj_iconst (q := 22) (v := 0) dX0_stage_21 rfl (by decide) ?_
    refine aj_ireturn dX0_stage_22 rfl ?_
    simpa only [fGet, fTop, ↓reduceIte, c4_1] using hQ
  · refine aj_aload_n (q := 8) (i := 0) dX0_stage_7 rfl rfl rfl ?_
    refine aj_getR (q := 11) fl_X0_15 dX0_stage_8 rfl lR_11 rfl ?_
    refine aj_aload_n (q := 12) (i := 0) dX0_stage_11 rfl rfl rfl ?_
    refine aj_getI (q := 15) (f := 1105) fl_X0_27 dX0_stage_12 rfl lR_11 rfl rfl ?_
    refine aj_iconst (q := 16) (v := 1) dX0_stage_15 rfl (by decide) ?_
    refine aj_isub (q := 17) dX0_stage_16 rfl ?_
    refine aj_iaload (q := 18) (f := 1300) dX0_stage_17 rfl lR_13 rfl (wf_top hw c4_1) ?_
    refine aj_goto (tgt := 22) dX0_stage_18 (by decide) ?_
    refine aj_ireturn dX0_stage_22 rfl ?_
    simpa only [fGet, fTop, ↓reduceIte, c4_1] using hQ
theorem sp_X0_keptEnding {d : Nat} {S : Sx} {Q : Option Value → Sx → Prop} (hw : wfR S) (hQ : Q (some (.int (fGet S 1400 (0)))) S) : CC d kX0_keptEnding layR [.ref 11] S Q := by
  refine cc_intro [some _] (by decide) (cc_cat (by rfl)) (by decide) (cc_ls (by rfl)) ?_
  refine aj_aload_n (q := 1) (i := 0) dX0_keptEnding_0 rfl rfl rfl ?_
  refine aj_getI (q := 4) (f := 1105) fl_X0_27 dX0_keptEnding_1 rfl lR_11 rfl rfl ?_
  refine aj_if_le (q := 7) (tgt := 21) dX0_keptEnding_4 rfl (by decide) (fun c4_1 => ?_) (fun c4_1 => ?_)
  · refine aj_iconst (q := 22) (v := 0) dX0_keptEnding_21 rfl (by decide) ?_
    refine aj_ireturn dX0_keptEnding_22 rfl ?_
    simpa only [fGet, fTop, ↓reduceIte, c4_1] using hQ
  · refine aj_aload_n (q := 8) (i := 0) dX0_keptEnding_7 rfl rfl rfl ?_
    refine aj_getR (q := 11) fl_X0_18 dX0_keptEnding_8 rfl lR_11 rfl ?_
    refine aj_aload_n (q := 12) (i := 0) dX0_keptEnding_11 rfl rfl rfl ?_
    refine aj_getI (q := 15) (f := 1105) fl_X0_27 dX0_keptEnding_12 rfl lR_11 rfl rfl ?_
    refine aj_iconst (q := 16) (v := 1) dX0_keptEnding_15 rfl (by decide) ?_
    refine aj_isub (q := 17) dX0_keptEnding_16 rfl ?_
    refine aj_iaload (q := 18) (f := 1400) dX0_keptEnding_17 rfl lR_14 rfl (wf_top hw c4_1) ?_
    refine aj_goto (tgt := 22) dX0_keptEnding_18 (by decide) ?_
    refine aj_ireturn dX0_keptEnding_22 rfl ?_
    simpa only [fGet, fTop, ↓reduceIte, c4_1] using hQ
theorem sp_X0_keptKind {d : Nat} {S : Sx} {Q : Option Value → Sx → Prop} (hw : wfR S) (hQ : Q (some (.int (fGet S 1500 (0)))) S) : CC d kX0_keptKind layR [.ref 11] S Q := by
  refine cc_intro [some _] (by decide) (cc_cat (by rfl)) (by decide) (cc_ls (by rfl)) ?_
  refine aj_aload_n (q := 1) (i := 0) dX0_keptKind_0 rfl rfl rfl ?_
  refine aj_getI (q := 4) (f := 1105) fl_X0_27 dX0_keptKind_1 rfl lR_11 rfl rfl ?_
  refine aj_if_le (q := 7) (tgt := 21) dX0_keptKind_4 rfl (by decide) (fun c4_1 => ?_) (fun c4_1 => ?_)
  · refine aj_iconst (q := 22) (v := 0) dX0_keptKind_21 rfl (by decide) ?_
    refine aj_ireturn dX0_keptKind_22 rfl ?_
    simpa only [fGet, fTop, ↓reduceIte, c4_1] using hQ
  · refine aj_aload_n (q := 8) (i := 0) dX0_keptKind_7 rfl rfl rfl ?_
    refine aj_getR (q := 11) fl_X0_21 dX0_keptKind_8 rfl lR_11 rfl ?_
    refine aj_aload_n (q := 12) (i := 0) dX0_keptKind_11 rfl rfl rfl ?_
    refine aj_getI (q := 15) (f := 1105) fl_X0_27 dX0_keptKind_12 rfl lR_11 rfl rfl ?_
    refine aj_iconst (q := 16) (v := 1) dX0_keptKind_15 rfl (by decide) ?_
    refine aj_isub (q := 17) dX0_keptKind_16 rfl ?_
    refine aj_iaload (q := 18) (f := 1500) dX0_keptKind_17 rfl lR_15 rfl (wf_top hw c4_1) ?_
    refine aj_goto (tgt := 22) dX0_keptKind_18 (by decide) ?_
    refine aj_ireturn dX0_keptKind_22 rfl ?_
    simpa only [fGet, fTop, ↓reduceIte, c4_1] using hQ
theorem sp_X0_keptNumber {d : Nat} {S : Sx} {Q : Option Value → Sx → Prop} (hw : wfR S) (hQ : Q (some (.int (fGet S 1600 (0)))) S) : CC d kX0_keptNumber layR [.ref 11] S Q := by
  refine cc_intro [some _] (by decide) (cc_cat (by rfl)) (by decide) (cc_ls (by rfl)) ?_
  refine aj_aload_n (q := 1) (i := 0) dX0_keptNumber_0 rfl rfl rfl ?_
  refine aj_getI (q := 4) (f := 1105) fl_X0_27 dX0_keptNumber_1 rfl lR_11 rfl rfl ?_
  refine aj_if_le (q := 7) (tgt := 21) dX0_keptNumber_4 rfl (by decide) (fun c4_1 => ?_) (fun c4_1 => ?_)
  · refine aj_iconst (q := 22) (v := 0) dX0_keptNumber_21 rfl (by decide) ?_
    refine aj_ireturn dX0_keptNumber_22 rfl ?_
    simpa only [fGet, fTop, ↓reduceIte, c4_1] using hQ
  · refine aj_aload_n (q := 8) (i := 0) dX0_keptNumber_7 rfl rfl rfl ?_
    refine aj_getR (q := 11) fl_X0_24 dX0_keptNumber_8 rfl lR_11 rfl ?_
    refine aj_aload_n (q := 12) (i := 0) dX0_keptNumber_11 rfl rfl rfl ?_
    refine aj_getI (q := 15) (f := 1105) fl_X0_27 dX0_keptNumber_12 rfl lR_11 rfl rfl ?_
    refine aj_iconst (q := 16) (v := 1) dX0_keptNumber_15 rfl (by decide) ?_
    refine aj_isub (q := 17) dX0_keptNumber_16 rfl ?_
    refine aj_iaload (q := 18) (f := 1600) dX0_keptNumber_17 rfl lR_16 rfl (wf_top hw c4_1) ?_
    refine aj_goto (tgt := 22) dX0_keptNumber_18 (by decide) ?_
    refine aj_ireturn dX0_keptNumber_22 rfl ?_
    simpa only [fGet, fTop, ↓reduceIte, c4_1] using hQ
theorem sp_X0_setStage {d : Nat} {S : Sx} {Q : Option Value → Sx → Prop} {g : Int32} (hw : wfR S) (hQ : wfR (fSetStage S g) → Q none (fSetStage S g)) : CC d kX0_setStage layR [.ref 11, .int g] S Q := by
  refine cc_intro [some _, some _] (by decide) (cc_cat (by rfl)) (by decide) (cc_ls (by rfl)) ?_
  refine aj_aload_n (q := 1) (i := 0) dX0_setStage_0 rfl rfl rfl ?_
  refine aj_getI (q := 4) (f := 1105) fl_X0_27 dX0_setStage_1 rfl lR_11 rfl rfl ?_
  refine aj_if_le (q := 7) (tgt := 19) dX0_setStage_4 rfl (by decide) (fun c4_1 => ?_) (fun c4_1 => ?_)
  · refine aj_return dX0_setStage_19 rfl ?_
    have hq := hQ (wf_fSetStage hw)
    simpa only [fSetStage, fTop, ↓reduceIte, sw_eq, sw_ne, ne_eq, Nat.reduceEqDiff, not_false_eq_true, c4_1] using hq
  · refine aj_aload_n (q := 8) (i := 0) dX0_setStage_7 rfl rfl rfl ?_
    refine aj_getR (q := 11) fl_X0_15 dX0_setStage_8 rfl lR_11 rfl ?_
    refine aj_aload_n (q := 12) (i := 0) dX0_setStage_11 rfl rfl rfl ?_
    refine aj_getI (q := 15) (f := 1105) fl_X0_27 dX0_setStage_12 rfl lR_11 rfl rfl ?_
    refine aj_iconst (q := 16) (v := 1) dX0_setStage_15 rfl (by decide) ?_
    refine aj_isub (q := 17) dX0_setStage_16 rfl ?_
    refine aj_iload_n (q := 18) (i := 1) dX0_setStage_17 rfl rfl rfl ?_
    refine aj_iastore (q := 19) (f := 1300) okR dX0_setStage_18 rfl lR_13 rfl (wf_top hw c4_1) ?_
    refine aj_return dX0_setStage_19 rfl ?_
    have hq := hQ (wf_fSetStage hw)
    simpa only [fSetStage, fTop, ↓reduceIte, sw_eq, sw_ne, ne_eq, Nat.reduceEqDiff, not_false_eq_true, c4_1] using hq
theorem sp_X0_keep {d : Nat} {S : Sx} {Q : Option Value → Sx → Prop} {a b c : Int32} (hw : wfR S) (hQ : wfR (fKeep S a b c) → Q none (fKeep S a b c)) : CC d kX0_keep layR [.ref 11, .int a, .int b, .int c] S Q := by
  refine cc_intro [some _, some _, some _, some _] (by decide) (cc_cat (by rfl)) (by decide) (cc_ls (by rfl)) ?_
  refine aj_aload_n (q := 1) (i := 0) dX0_keep_0 rfl rfl rfl ?_
  refine aj_getI (q := 4) (f := 1105) fl_X0_27 dX0_keep_1 rfl lR_11 rfl rfl ?_
  try simp only [sw_eq, sw_ne, fil_ne, ne_eq, Nat.reduceEqDiff, not_false_eq_true, OfNat.ofNat_ne_zero]
  refine aj_if_le (q := 7) (tgt := 43) dX0_keep_4 rfl (by decide) (fun c4_1 => ?_) (fun c4_1 => ?_)
  · refine aj_return dX0_keep_43 rfl ?_
    have hq := hQ (wf_fKeep hw)
    simpa only [fKeep, fTop, ↓reduceIte, sw_eq, sw_ne, ne_eq, Nat.reduceEqDiff, not_false_eq_true, c4_1] using hq
  · refine aj_aload_n (q := 8) (i := 0) dX0_keep_7 rfl rfl rfl ?_
    refine aj_getR (q := 11) fl_X0_18 dX0_keep_8 rfl lR_11 rfl ?_
    refine aj_aload_n (q := 12) (i := 0) dX0_keep_11 rfl rfl rfl ?_
    refine aj_getI (q := 15) (f := 1105) fl_X0_27 dX0_keep_12 rfl lR_11 rfl rfl ?_
    try simp only [sw_eq, sw_ne, fil_ne, ne_eq, Nat.reduceEqDiff, not_false_eq_true, OfNat.ofNat_ne_zero]
    refine aj_iconst (q := 16) (v := 1) dX0_keep_15 rfl (by decide) ?_
    refine aj_isub (q := 17) dX0_keep_16 rfl ?_
    refine aj_iload_n (q := 18) (i := 1) dX0_keep_17 rfl rfl rfl ?_
    refine aj_iastore (q := 19) (f := 1400) okR dX0_keep_18 rfl lR_14 rfl (wf_top hw c4_1) ?_
    refine aj_aload_n (q := 20) (i := 0) dX0_keep_19 rfl rfl rfl ?_
    refine aj_getR (q := 23) fl_X0_21 dX0_keep_20 rfl lR_11 rfl ?_
    refine aj_aload_n (q := 24) (i := 0) dX0_keep_23 rfl rfl rfl ?_
    refine aj_getI (q := 27) (f := 1105) fl_X0_27 dX0_keep_24 rfl lR_11 rfl rfl ?_
    try simp only [sw_eq, sw_ne, fil_ne, ne_eq, Nat.reduceEqDiff, not_false_eq_true, OfNat.ofNat_ne_zero]
    refine aj_iconst (q := 28) (v := 1) dX0_keep_27 rfl (by decide) ?_
    refine aj_isub (q := 29) dX0_keep_28 rfl ?_
    refine aj_iload_n (q := 30) (i := 2) dX0_keep_29 rfl rfl rfl ?_
    refine aj_iastore (q := 31) (f := 1500) okR dX0_keep_30 rfl lR_15 rfl (wf_top hw c4_1) ?_
    refine aj_aload_n (q := 32) (i := 0) dX0_keep_31 rfl rfl rfl ?_
    refine aj_getR (q := 35) fl_X0_24 dX0_keep_32 rfl lR_11 rfl ?_
    refine aj_aload_n (q := 36) (i := 0) dX0_keep_35 rfl rfl rfl ?_
    refine aj_getI (q := 39) (f := 1105) fl_X0_27 dX0_keep_36 rfl lR_11 rfl rfl ?_
    try simp only [sw_eq, sw_ne, fil_ne, ne_eq, Nat.reduceEqDiff, not_false_eq_true, OfNat.ofNat_ne_zero]
    refine aj_iconst (q := 40) (v := 1) dX0_keep_39 rfl (by decide) ?_
    refine aj_isub (q := 41) dX0_keep_40 rfl ?_
    refine aj_iload_n (q := 42) (i := 3) dX0_keep_41 rfl rfl rfl ?_
    refine aj_iastore (q := 43) (f := 1600) okR dX0_keep_42 rfl lR_16 rfl (wf_top hw c4_1) ?_
    refine aj_return dX0_keep_43 rfl ?_
    have hq := hQ (wf_fKeep hw)
    simpa only [fKeep, fTop, ↓reduceIte, sw_eq, sw_ne, ne_eq, Nat.reduceEqDiff, not_false_eq_true, c4_1] using hq
/-! Locks -/
def lClear (S : Sx) : Sx := sw (fil S 1000 4 0) 901 0 0
def lTake (S : Sx) (k : Int32) : Sx := if inb k 4 then sw (sw S 1000 k.toNatClampNeg (S 1000 k.toNatClampNeg + 1)) 901 0 (imax (S 901 0) (S 1000 k.toNatClampNeg + 1)) else S
def lFree (S : Sx) (k : Int32) : Sx := if inb k 4 then sw S 1000 k.toNatClampNeg (S 1000 k.toNatClampNeg - 1) else S
def lSum (S : Sx) : Int32 := 0 + S 1000 0 + S 1000 1 + S 1000 2 + S 1000 3
theorem wf_fil {S : Sx} {f n : Nat} {v : Int32} (h : wfR S) (hf : wfFree f = true) : wfR (fil S f n v) := by
  have hne : 1105 ≠ f ∧ 602 ≠ f ∧ 104 ≠ f ∧ 400 ≠ f ∧ 300 ≠ f ∧ 1706 ≠ f ∧ 607 ≠ f := by
    simp [wfFree] at hf
    omega
  obtain ⟨n1, n2, n3, n4, n5, n6, n7⟩ := hne
  simpa only [wfR, fil_ne n1, fil_ne n2, fil_ne n3, fil_ne n4, fil_ne n5, fil_ne n6, fil_ne n7] using h
theorem wf_lClear {S : Sx} (h : wfR S) : wfR (lClear S) := (wf_fil h rfl).sw rfl
theorem wf_lTake {S : Sx} {k : Int32} (h : wfR S) : wfR (lTake S k) := by
  unfold lTake
  split
  · exact (h.sw rfl).sw rfl
  · exact h
theorem wf_lFree {S : Sx} {k : Int32} (h : wfR S) : wfR (lFree S k) := by
  unfold lFree
  split
  · exact h.sw rfl
  · exact h
theorem sp_X2_clear {d : Nat} {S : Sx} {Q : Option Value → Sx → Prop} (hw : wfR S) (hQ : wfR (lClear S) → Q none (lClear S)) : CC (d + 1) kX2_clear layR [.ref 9] S Q := by
  refine cc_intro [some _] (by decide) (cc_cat (by rfl)) (by decide) (cc_ls (by rfl)) ?_
  refine aj_aload_n (q := 1) (i := 0) dX2_clear_0 rfl rfl rfl ?_
  refine aj_getR (q := 4) fl_X2_9 dX2_clear_1 rfl lR_9 rfl ?_
  refine aj_iconst (q := 5) (v := 0) dX2_clear_4 rfl (by decide) ?_
  refine aj_callS (q := 8) (As := [_, _]) cl_X2_15 mk_J7_fill_53178 dX2_clear_5 rfl rfl (Nat.le_of_ble_eq_true rfl) (sp_fill okR lR_10 (by decide) ?_)
  refine aj_aload_n (q := 9) (i := 0) dX2_clear_8 rfl rfl rfl ?_
  refine aj_iconst (q := 10) (v := 0) dX2_clear_9 rfl (by decide) ?_
  refine aj_putI (q := 13) (f := 901) okR fp_X2_21 dX2_clear_10 rfl lR_9 rfl rfl ?_
  refine aj_return dX2_clear_13 rfl ?_
  exact hQ (wf_lClear hw)
theorem sp_X2_take {d : Nat} {S : Sx} {Q : Option Value → Sx → Prop} {k : Int32} (hw : wfR S) (hQ : wfR (lTake S k) → Q none (lTake S k)) : CC (d + 1) kX2_take layR [.ref 9, .int k] S Q := by
  refine cc_intro [some _, some _] (by decide) (cc_cat (by rfl)) (by decide) (cc_ls (by rfl)) ?_
  refine aj_iload_n (q := 1) (i := 1) dX2_take_0 rfl rfl rfl ?_
  refine aj_iconst (q := 2) (v := 4) dX2_take_1 rfl (by decide) ?_
  refine aj_callS (q := 5) (As := [_, _]) cl_X2_25 mk_X9_isBelow dX2_take_2 rfl rfl (Nat.le_of_ble_eq_true rfl) (sp_isBelow ?_)
  refine aj_ifB_eq (q := 8) (tgt := 35) dX2_take_5 rfl (by decide) (fun c5_1 => ?_) (fun c5_1 => ?_)
  · refine aj_return dX2_take_35 rfl ?_
    have hq := hQ (wf_lTake hw)
    simpa only [lTake, ↓reduceIte, sw_eq, sw_ne, ne_eq, Nat.reduceEqDiff, not_false_eq_true, c5_1] using hq
  · refine aj_aload_n (q := 9) (i := 0) dX2_take_8 rfl rfl rfl ?_
    refine aj_getR (q := 12) fl_X2_9 dX2_take_9 rfl lR_9 rfl ?_
    refine aj_iload_n (q := 13) (i := 1) dX2_take_12 rfl rfl rfl ?_
    refine aj_dup2 (q := 14) dX2_take_13 rfl rfl rfl ?_
    refine aj_iaload (q := 15) (f := 1000) dX2_take_14 rfl lR_10 rfl (vin (by decide) c5_1) ?_
    try simp only [sw_eq, sw_ne, fil_ne, ne_eq, Nat.reduceEqDiff, not_false_eq_true, OfNat.ofNat_ne_zero]
    refine aj_iconst (q := 16) (v := 1) dX2_take_15 rfl (by decide) ?_
    refine aj_iadd (q := 17) dX2_take_16 rfl ?_
    refine aj_iastore (q := 18) (f := 1000) okR dX2_take_17 rfl lR_10 rfl (vin (by decide) c5_1) ?_
    refine aj_aload_n (q := 19) (i := 0) dX2_take_18 rfl rfl rfl ?_
    refine aj_aload_n (q := 20) (i := 0) dX2_take_19 rfl rfl rfl ?_
    refine aj_getI (q := 23) (f := 901) fl_X2_21 dX2_take_20 rfl lR_9 rfl rfl ?_
    try simp only [sw_eq, sw_ne, fil_ne, ne_eq, Nat.reduceEqDiff, not_false_eq_true, OfNat.ofNat_ne_zero]
    refine aj_aload_n (q := 24) (i := 0) dX2_take_23 rfl rfl rfl ?_
    refine aj_getR (q := 27) fl_X2_9 dX2_take_24 rfl lR_9 rfl ?_
    refine aj_iload_n (q := 28) (i := 1) dX2_take_27 rfl rfl rfl ?_
    refine aj_iaload (q := 29) (f := 1000) dX2_take_28 rfl lR_10 rfl (vin (by decide) c5_1) ?_
    try simp only [sw_eq, sw_ne, fil_ne, ne_eq, Nat.reduceEqDiff, not_false_eq_true, OfNat.ofNat_ne_zero]
    refine aj_callS (q := 32) (As := [_, _]) cl_X2_29 mk_J9_max_7cf53 dX2_take_29 rfl rfl (Nat.le_of_ble_eq_true rfl) (sp_max ?_)
    refine aj_putI (q := 35) (f := 901) okR fp_X2_21 dX2_take_32 rfl lR_9 rfl rfl ?_
    refine aj_return dX2_take_35 rfl ?_
    have hq := hQ (wf_lTake hw)
    simpa only [lTake, ↓reduceIte, sw_eq, sw_ne, ne_eq, Nat.reduceEqDiff, not_false_eq_true, c5_1] using hq
theorem sp_X2_free {d : Nat} {S : Sx} {Q : Option Value → Sx → Prop} {k : Int32} (hw : wfR S) (hQ : wfR (lFree S k) → Q none (lFree S k)) : CC (d + 1) kX2_free layR [.ref 9, .int k] S Q := by
  refine cc_intro [some _, some _] (by decide) (cc_cat (by rfl)) (by decide) (cc_ls (by rfl)) ?_
  refine aj_iload_n (q := 1) (i := 1) dX2_free_0 rfl rfl rfl ?_
  refine aj_iconst (q := 2) (v := 4) dX2_free_1 rfl (by decide) ?_
  refine aj_callS (q := 5) (As := [_, _]) cl_X2_25 mk_X9_isBelow dX2_free_2 rfl rfl (Nat.le_of_ble_eq_true rfl) (sp_isBelow ?_)
  refine aj_ifB_eq (q := 8) (tgt := 18) dX2_free_5 rfl (by decide) (fun c5_1 => ?_) (fun c5_1 => ?_)
  · refine aj_return dX2_free_18 rfl ?_
    have hq := hQ (wf_lFree hw)
    simpa only [lFree, ↓reduceIte, sw_eq, sw_ne, ne_eq, Nat.reduceEqDiff, not_false_eq_true, c5_1] using hq
  · refine aj_aload_n (q := 9) (i := 0) dX2_free_8 rfl rfl rfl ?_
    refine aj_getR (q := 12) fl_X2_9 dX2_free_9 rfl lR_9 rfl ?_
    refine aj_iload_n (q := 13) (i := 1) dX2_free_12 rfl rfl rfl ?_
    refine aj_dup2 (q := 14) dX2_free_13 rfl rfl rfl ?_
    refine aj_iaload (q := 15) (f := 1000) dX2_free_14 rfl lR_10 rfl (vin (by decide) c5_1) ?_
    try simp only [sw_eq, sw_ne, fil_ne, ne_eq, Nat.reduceEqDiff, not_false_eq_true, OfNat.ofNat_ne_zero]
    refine aj_iconst (q := 16) (v := 1) dX2_free_15 rfl (by decide) ?_
    refine aj_isub (q := 17) dX2_free_16 rfl ?_
    refine aj_iastore (q := 18) (f := 1000) okR dX2_free_17 rfl lR_10 rfl (vin (by decide) c5_1) ?_
    refine aj_return dX2_free_18 rfl ?_
    have hq := hQ (wf_lFree hw)
    simpa only [lFree, ↓reduceIte, sw_eq, sw_ne, ne_eq, Nat.reduceEqDiff, not_false_eq_true, c5_1] using hq
theorem sp_X2_most {d : Nat} {S : Sx} {Q : Option Value → Sx → Prop} (hw : wfR S) (hQ : Q (some (.int (S 901 0))) S) : CC d kX2_most layR [.ref 9] S Q := by
  refine cc_intro [some _] (by decide) (cc_cat (by rfl)) (by decide) (cc_ls (by rfl)) ?_
  refine aj_aload_n (q := 1) (i := 0) dX2_most_0 rfl rfl rfl ?_
  refine aj_getI (q := 4) (f := 901) fl_X2_21 dX2_most_1 rfl lR_9 rfl rfl ?_
  refine aj_ireturn dX2_most_4 rfl ?_
  exact hQ
/-! Mark -/
def mkPrice (n : Int32) : Int32 := if 0 ≤ n then 1 + n / 4 else 1
theorem sp_X3_makingPrice {d : Nat} {S : Sx} {Q : Option Value → Sx → Prop} {n : Int32} (hQ : Q (some (.int (mkPrice n))) S) : CC d kX3_makingPrice layR [.int n] S Q := by
  refine cc_intro [some _] (by decide) (cc_cat (by rfl)) (by decide) (cc_ls (by rfl)) ?_
  refine aj_iload_n (q := 1) (i := 0) dX3_makingPrice_0 rfl rfl rfl ?_
  refine aj_if_ge (q := 4) (tgt := 8) dX3_makingPrice_1 rfl (by decide) (fun c1_1 => ?_) (fun c1_1 => ?_)
  · refine aj_iconst (q := 9) (v := 1) dX3_makingPrice_8 rfl (by decide) ?_
    refine aj_iload_n (q := 10) (i := 0) dX3_makingPrice_9 rfl rfl rfl ?_
    refine aj_iconst (q := 11) (v := 4) dX3_makingPrice_10 rfl (by decide) ?_
    refine aj_idiv (q := 12) dX3_makingPrice_11 rfl (by decide) ?_
    refine aj_iadd (q := 13) dX3_makingPrice_12 rfl ?_
    refine aj_ireturn dX3_makingPrice_13 rfl ?_
    simpa only [mkPrice, ↓reduceIte, c1_1] using hQ
  · refine aj_iconst (q := 5) (v := 1) dX3_makingPrice_4 rfl (by decide) ?_
    refine aj_goto (tgt := 13) dX3_makingPrice_5 (by decide) ?_
    refine aj_ireturn dX3_makingPrice_13 rfl ?_
    simpa only [mkPrice, ↓reduceIte, c1_1] using hQ
