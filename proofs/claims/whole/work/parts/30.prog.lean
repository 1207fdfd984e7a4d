def hOf (S : Sx) (s : Int32) : Int32 := gOf S 2200 0 s
def oFit (S : Sx) (t a b c : Int32) : Bool :=
  if t = 0 then inb a 8 else if t = 1 then inb a 8 && inb b 8 && inb c 8 else if t = 2 then inb a 8 && inb b 8 && inb c 8 else if t = 3 then inb a 8 && inb b 8 && inb c 8 else if t = 4 then inb a 8 && inb b 8 && inb c 8 else if t = 5 then inb a 8 && inb b 8 && inb c 8
  else if t = 6 then inb a 4 && inb b 8 else if t = 7 then inb a 8 && inb b 4 && inb c 8 else if t = 8 then inb a 4 && inb b 8 && inb c 8 else if t = 9 then inb a 8 && inb b 4 else if t = 10 then inb a 4 else if t = 11 then inb a 4 && inb b 4
  else if t = 12 then inb a (S 1706 0) && inb b (S 1706 0) else if t = 13 then inb a 8 && inb b (S 1706 0) && inb c (S 1706 0) else if t = 14 then inb a 8 && inb b (S 1706 0) else if t = 15 then inb a 8 else if t = 16 then inb a 8 else if t = 17 then inb a 8
  else if t = 18 then inb a (S 1706 0) && inb b 128 && inb c (S 1706 0) else if t = 19 then inb a (S 1706 0) && inb b (S 1706 0) else if t = 20 then inb a 4 && inb b (S 1706 0) else if t = 21 then inb a 8 else false
def hWith (S : Sx) (t a b c : Int32) : Int32 :=
  if t = 12 then 1 + imax (hOf S a) (hOf S b) else if t = 13 then 1 + imax (hOf S b) (hOf S c) else if t = 14 then 1 + hOf S b else if t = 18 then 1 + imax (hOf S a) (hOf S c) else if t = 19 then 1 + imax (hOf S a) (hOf S b) else if t = 20 then 1 + hOf S b else 1
def gTakes (S : Sx) (t a b c : Int32) : Bool := if oFit S t a b c then (if (16 : Int32) < hWith S t a b c then false else true) else false
def gAdd4 (S : Sx) (t a b c : Int32) : Sx := sw (sw (sw (sw S 1800 (S 1706 0).toNatClampNeg t) 1900 (S 1706 0).toNatClampNeg a) 2000 (S 1706 0).toNatClampNeg b) 2100 (S 1706 0).toNatClampNeg c
def gAdd (S : Sx) (t a b c : Int32) : Sx := sw (sw (gAdd4 S t a b c) 2200 (S 1706 0).toNatClampNeg (hWith (gAdd4 S t a b c) t a b c)) 1706 0 (S 1706 0 + 1)
def gLose (S : Sx) : Sx := sw S 1706 0 (imax 0 (S 1706 0 - 1))
theorem wf_full {S : Sx} (h : wfR S) (hf : gFull S = false) : vp_in (S 1706 0) 120 := by
  refine vp_in_iff.mpr ⟨h.2.2.2.2.1.1, ?_⟩
  have h1 : S 1706 0 < 120 := by
    simp only [gFull, decide_eq_false_iff_not, Classical.not_not] at hf
    exact hf
  rw [i32_lt] at h1
  exact h1
theorem wf_gAdd {S : Sx} {t a b c : Int32} (h : wfR S) (hf : gFull S = false) : wfR (gAdd S t a b c) := by
  have hv := vp_in_iff.mp (wf_full h hf)
  have e1 : (1 : Int32).toInt = 1 := rfl
  have := i32_add (x := S 1706 0) (y := 1) (by omega) (by omega)
  have h4 : wfR (sw (gAdd4 S t a b c) 2200 (S 1706 0).toNatClampNeg (hWith (gAdd4 S t a b c) t a b c)) := ((((h.sw rfl).sw rfl).sw rfl).sw rfl).sw rfl
  obtain ⟨h1, h2, h3, h5, h6, h7⟩ := h4
  exact ⟨h1, h2, h3, h5, ⟨by rw [gAdd, sw_eq]; omega, by rw [gAdd, sw_eq]; omega⟩, h7⟩
theorem wf_gLose {S : Sx} (h : wfR S) : wfR (gLose S) := by
  obtain ⟨h1, h2, h3, h5, h6, h7⟩ := h
  have e0 : (0 : Int32).toInt = 0 := rfl
  have e1 : (1 : Int32).toInt = 1 := rfl
  have := i32_sub (x := S 1706 0) (y := 1) (by omega) (by omega)
  refine ⟨h1, h2, h3, h5, ?_, h7⟩
  rw [gLose, sw_eq, imax]
  split
  · rename_i q; rw [i32_lt] at q; omega
  · omega
set_option maxRecDepth 4000 in
theorem sp_X5_operandsFit {d : Nat} {S : Sx} {Q : Option Value → Sx → Prop} {t a b c : Int32} (hw : wfR S) (hQ : Q (some (.int (bi (oFit S t a b c)))) S) : CC (d + 2) kX5_operandsFit layR [.ref 17, .int t, .int a, .int b, .int c] S Q := by
  refine cc_intro [some _, some _, some _, some _, some _] (by decide) (cc_cat (by rfl)) (Nat.le_of_ble_eq_true rfl) (cc_ls (by rfl)) ?_
  refine aj_iload_n (q := 1) (i := 1) dX5_operandsFit_0 rfl rfl rfl ?_
  refine aj_tsn (fun x1 ex1 => ?_)
  by_cases e1_0 : x1 = 0
  · refine aj_tsIn (tgt := 104) (off := 103) dX5_operandsFit_1 (by rw [e1_0]; decide) (by rw [e1_0]; decide) (by rw [e1_0]; rfl) (by decide) ?_
    refine aj_iload_n (q := 105) (i := 2) dX5_operandsFit_104 rfl rfl rfl ?_
    refine aj_callS (q := 108) (As := [_]) cl_X5_66 mk_X5_isVariable dX5_operandsFit_105 rfl rfl (Nat.le_of_ble_eq_true rfl) (sp_X5_isVariable ?_)
    refine aj_zreturn dX5_operandsFit_108 rfl (by first | exact bi_nar _ | decide) ?_
    skip; subst ex1
    first | contradiction | with_reducible exact hQ | (simp (decide := true) only [oFit, ↓reduceIte, sw_eq, sw_ne, ne_eq, Nat.reduceEqDiff, not_false_eq_true, Bool.false_eq_true, bi_t, bi_f, Bool.and_true, Bool.true_and, Bool.and_false, Bool.false_and, e1_0] at hQ; with_reducible exact hQ) | (simp (decide := true) only [oFit, ↓reduceIte, sw_eq, sw_ne, ne_eq, Nat.reduceEqDiff, not_false_eq_true, Bool.false_eq_true, bi_t, bi_f, Bool.and_true, Bool.true_and, Bool.and_false, Bool.false_and, e1_0] at hQ ⊢; with_reducible exact hQ)
  by_cases e1_1 : x1 = 1
  · refine aj_tsIn (tgt := 109) (off := 108) dX5_operandsFit_1 (by rw [e1_1]; decide) (by rw [e1_1]; decide) (by rw [e1_1]; rfl) (by decide) ?_
    refine aj_iload_n (q := 110) (i := 2) dX5_operandsFit_109 rfl rfl rfl ?_
    refine aj_callS (q := 113) (As := [_]) cl_X5_66 mk_X5_isVariable dX5_operandsFit_110 rfl rfl (Nat.le_of_ble_eq_true rfl) (sp_X5_isVariable ?_)
    refine aj_ifB_eq (q := 116) (tgt := 135) dX5_operandsFit_113 rfl (by decide) (fun c113_2 => ?_) (fun c113_2 => ?_)
    · refine aj_iconst (q := 136) (v := 0) dX5_operandsFit_135 rfl (by decide) ?_
      refine aj_zreturn dX5_operandsFit_136 rfl (by first | exact bi_nar _ | decide) ?_
      skip; subst ex1
      first | contradiction | with_reducible exact hQ | (simp (decide := true) only [oFit, ↓reduceIte, sw_eq, sw_ne, ne_eq, Nat.reduceEqDiff, not_false_eq_true, Bool.false_eq_true, bi_t, bi_f, Bool.and_true, Bool.true_and, Bool.and_false, Bool.false_and, e1_1, c113_2] at hQ; with_reducible exact hQ) | (simp (decide := true) only [oFit, ↓reduceIte, sw_eq, sw_ne, ne_eq, Nat.reduceEqDiff, not_false_eq_true, Bool.false_eq_true, bi_t, bi_f, Bool.and_true, Bool.true_and, Bool.and_false, Bool.false_and, e1_1, c113_2] at hQ ⊢; with_reducible exact hQ)
    · refine aj_iload_n (q := 117) (i := 3) dX5_operandsFit_116 rfl rfl rfl ?_
      refine aj_callS (q := 120) (As := [_]) cl_X5_66 mk_X5_isVariable dX5_operandsFit_117 rfl rfl (Nat.le_of_ble_eq_true rfl) (sp_X5_isVariable ?_)
      refine aj_ifB_eq (q := 123) (tgt := 135) dX5_operandsFit_120 rfl (by decide) (fun c120_3 => ?_) (fun c120_3 => ?_)
      · refine aj_iconst (q := 136) (v := 0) dX5_operandsFit_135 rfl (by decide) ?_
        refine aj_zreturn dX5_operandsFit_136 rfl (by first | exact bi_nar _ | decide) ?_
        skip; subst ex1
        first | contradiction | with_reducible exact hQ | (simp (decide := true) only [oFit, ↓reduceIte, sw_eq, sw_ne, ne_eq, Nat.reduceEqDiff, not_false_eq_true, Bool.false_eq_true, bi_t, bi_f, Bool.and_true, Bool.true_and, Bool.and_false, Bool.false_and, e1_1, c113_2, c120_3] at hQ; with_reducible exact hQ) | (simp (decide := true) only [oFit, ↓reduceIte, sw_eq, sw_ne, ne_eq, Nat.reduceEqDiff, not_false_eq_true, Bool.false_eq_true, bi_t, bi_f, Bool.and_true, Bool.true_and, Bool.and_false, Bool.false_and, e1_1, c113_2, c120_3] at hQ ⊢; with_reducible exact hQ)
      · refine aj_iload (q := 125) (i := 4) dX5_operandsFit_123 rfl rfl ?_
        refine aj_callS (q := 128) (As := [_]) cl_X5_66 mk_X5_isVariable dX5_operandsFit_125 rfl rfl (Nat.le_of_ble_eq_true rfl) (sp_X5_isVariable ?_)
        refine aj_ifB_eq (q := 131) (tgt := 135) dX5_operandsFit_128 rfl (by decide) (fun c128_4 => ?_) (fun c128_4 => ?_)
        · refine aj_iconst (q := 136) (v := 0) dX5_operandsFit_135 rfl (by decide) ?_
          refine aj_zreturn dX5_operandsFit_136 rfl (by first | exact bi_nar _ | decide) ?_
          skip; subst ex1
          first | contradiction | with_reducible exact hQ | (simp (decide := true) only [oFit, ↓reduceIte, sw_eq, sw_ne, ne_eq, Nat.reduceEqDiff, not_false_eq_true, Bool.false_eq_true, bi_t, bi_f, Bool.and_true, Bool.true_and, Bool.and_false, Bool.false_and, e1_1, c113_2, c120_3, c128_4] at hQ; with_reducible exact hQ) | (simp (decide := true) only [oFit, ↓reduceIte, sw_eq, sw_ne, ne_eq, Nat.reduceEqDiff, not_false_eq_true, Bool.false_eq_true, bi_t, bi_f, Bool.and_true, Bool.true_and, Bool.and_false, Bool.false_and, e1_1, c113_2, c120_3, c128_4] at hQ ⊢; with_reducible exact hQ)
        · refine aj_iconst (q := 132) (v := 1) dX5_operandsFit_131 rfl (by decide) ?_
          refine aj_goto (tgt := 136) dX5_operandsFit_132 (by decide) ?_
          refine aj_zreturn dX5_operandsFit_136 rfl (by first | exact bi_nar _ | decide) ?_
          skip; subst ex1
          first | contradiction | with_reducible exact hQ | (simp (decide := true) only [oFit, ↓reduceIte, sw_eq, sw_ne, ne_eq, Nat.reduceEqDiff, not_false_eq_true, Bool.false_eq_true, bi_t, bi_f, Bool.and_true, Bool.true_and, Bool.and_false, Bool.false_and, e1_1, c113_2, c120_3, c128_4] at hQ; with_reducible exact hQ) | (simp (decide := true) only [oFit, ↓reduceIte, sw_eq, sw_ne, ne_eq, Nat.reduceEqDiff, not_false_eq_true, Bool.false_eq_true, bi_t, bi_f, Bool.and_true, Bool.true_and, Bool.and_false, Bool.false_and, e1_1, c113_2, c120_3, c128_4] at hQ ⊢; with_reducible exact hQ)
  by_cases e1_2 : x1 = 2
  · refine aj_tsIn (tgt := 109) (off := 108) dX5_operandsFit_1 (by rw [e1_2]; decide) (by rw [e1_2]; decide) (by rw [e1_2]; rfl) (by decide) ?_
    refine aj_iload_n (q := 110) (i := 2) dX5_operandsFit_109 rfl rfl rfl ?_
    refine aj_callS (q := 113) (As := [_]) cl_X5_66 mk_X5_isVariable dX5_operandsFit_110 rfl rfl (Nat.le_of_ble_eq_true rfl) (sp_X5_isVariable ?_)
    refine aj_ifB_eq (q := 116) (tgt := 135) dX5_operandsFit_113 rfl (by decide) (fun c113_5 => ?_) (fun c113_5 => ?_)
    · refine aj_iconst (q := 136) (v := 0) dX5_operandsFit_135 rfl (by decide) ?_
      refine aj_zreturn dX5_operandsFit_136 rfl (by first | exact bi_nar _ | decide) ?_
      skip; subst ex1
      first | contradiction | with_reducible exact hQ | (simp (decide := true) only [oFit, ↓reduceIte, sw_eq, sw_ne, ne_eq, Nat.reduceEqDiff, not_false_eq_true, Bool.false_eq_true, bi_t, bi_f, Bool.and_true, Bool.true_and, Bool.and_false, Bool.false_and, e1_2, c113_5] at hQ; with_reducible exact hQ) | (simp (decide := true) only [oFit, ↓reduceIte, sw_eq, sw_ne, ne_eq, Nat.reduceEqDiff, not_false_eq_true, Bool.false_eq_true, bi_t, bi_f, Bool.and_true, Bool.true_and, Bool.and_false, Bool.false_and, e1_2, c113_5] at hQ ⊢; with_reducible exact hQ)
    · refine aj_iload_n (q := 117) (i := 3) dX5_operandsFit_116 rfl rfl rfl ?_
      refine aj_callS (q := 120) (As := [_]) cl_X5_66 mk_X5_isVariable dX5_operandsFit_117 rfl rfl (Nat.le_of_ble_eq_true rfl) (sp_X5_isVariable ?_)
      refine aj_ifB_eq (q := 123) (tgt := 135) dX5_operandsFit_120 rfl (by decide) (fun c120_6 => ?_) (fun c120_6 => ?_)
      · refine aj_iconst (q := 136) (v := 0) dX5_operandsFit_135 rfl (by decide) ?_
        refine aj_zreturn dX5_operandsFit_136 rfl (by first | exact bi_nar _ | decide) ?_
        skip; subst ex1
        first | contradiction | with_reducible exact hQ | (simp (decide := true) only [oFit, ↓reduceIte, sw_eq, sw_ne, ne_eq, Nat.reduceEqDiff, not_false_eq_true, Bool.false_eq_true, bi_t, bi_f, Bool.and_true, Bool.true_and, Bool.and_false, Bool.false_and, e1_2, c113_5, c120_6] at hQ; with_reducible exact hQ) | (simp (decide := true) only [oFit, ↓reduceIte, sw_eq, sw_ne, ne_eq, Nat.reduceEqDiff, not_false_eq_true, Bool.false_eq_true, bi_t, bi_f, Bool.and_true, Bool.true_and, Bool.and_false, Bool.false_and, e1_2, c113_5, c120_6] at hQ ⊢; with_reducible exact hQ)
      · refine aj_iload (q := 125) (i := 4) dX5_operandsFit_123 rfl rfl ?_
        refine aj_callS (q := 128) (As := [_]) cl_X5_66 mk_X5_isVariable dX5_operandsFit_125 rfl rfl (Nat.le_of_ble_eq_true rfl) (sp_X5_isVariable ?_)
        refine aj_ifB_eq (q := 131) (tgt := 135) dX5_operandsFit_128 rfl (by decide) (fun c128_7 => ?_) (fun c128_7 => ?_)
        · refine aj_iconst (q := 136) (v := 0) dX5_operandsFit_135 rfl (by decide) ?_
          refine aj_zreturn dX5_operandsFit_136 rfl (by first | exact bi_nar _ | decide) ?_
          skip; subst ex1
          first | contradiction | with_reducible exact hQ | (simp (decide := true) only [oFit, ↓reduceIte, sw_eq, sw_ne, ne_eq, Nat.reduceEqDiff, not_false_eq_true, Bool.false_eq_true, bi_t, bi_f, Bool.and_true, Bool.true_and, Bool.and_false, Bool.false_and, e1_2, c113_5, c120_6, c128_7] at hQ; with_reducible exact hQ) | (simp (decide := true) only [oFit, ↓reduceIte, sw_eq, sw_ne, ne_eq, Nat.reduceEqDiff, not_false_eq_true, Bool.false_eq_true, bi_t, bi_f, Bool.and_true, Bool.true_and, Bool.and_false, Bool.false_and, e1_2, c113_5, c120_6, c128_7] at hQ ⊢; with_reducible exact hQ)
        · refine aj_iconst (q := 132) (v := 1) dX5_operandsFit_131 rfl (by decide) ?_
          refine aj_goto (tgt := 136) dX5_operandsFit_132 (by decide) ?_
          refine aj_zreturn dX5_operandsFit_136 rfl (by first | exact bi_nar _ | decide) ?_
          skip; subst ex1
          first | contradiction | with_reducible exact hQ | (simp (decide := true) only [oFit, ↓reduceIte, sw_eq, sw_ne, ne_eq, Nat.reduceEqDiff, not_false_eq_true, Bool.false_eq_true, bi_t, bi_f, Bool.and_true, Bool.true_and, Bool.and_false, Bool.false_and, e1_2, c113_5, c120_6, c128_7] at hQ; with_reducible exact hQ) | (simp (decide := true) only [oFit, ↓reduceIte, sw_eq, sw_ne, ne_eq, Nat.reduceEqDiff, not_false_eq_true, Bool.false_eq_true, bi_t, bi_f, Bool.and_true, Bool.true_and, Bool.and_false, Bool.false_and, e1_2, c113_5, c120_6, c128_7] at hQ ⊢; with_reducible exact hQ)
  by_cases e1_3 : x1 = 3
  · refine aj_tsIn (tgt := 109) (off := 108) dX5_operandsFit_1 (by rw [e1_3]; decide) (by rw [e1_3]; decide) (by rw [e1_3]; rfl) (by decide) ?_
    refine aj_iload_n (q := 110) (i := 2) dX5_operandsFit_109 rfl rfl rfl ?_
    refine aj_callS (q := 113) (As := [_]) cl_X5_66 mk_X5_isVariable dX5_operandsFit_110 rfl rfl (Nat.le_of_ble_eq_true rfl) (sp_X5_isVariable ?_)
    refine aj_ifB_eq (q := 116) (tgt := 135) dX5_operandsFit_113 rfl (by decide) (fun c113_8 => ?_) (fun c113_8 => ?_)
    · refine aj_iconst (q := 136) (v := 0) dX5_operandsFit_135 rfl (by decide) ?_
      refine aj_zreturn dX5_operandsFit_136 rfl (by first | exact bi_nar _ | decide) ?_
      skip; subst ex1
      first | contradiction | with_reducible exact hQ | (simp (decide := true) only [oFit, ↓reduceIte, sw_eq, sw_ne, ne_eq, Nat.reduceEqDiff, not_false_eq_true, Bool.false_eq_true, bi_t, bi_f, Bool.and_true, Bool.true_and, Bool.and_false, Bool.false_and, e1_3, c113_8] at hQ; with_reducible exact hQ) | (simp (decide := true) only [oFit, ↓reduceIte, sw_eq, sw_ne, ne_eq, Nat.reduceEqDiff, not_false_eq_true, Bool.false_eq_true, bi_t, bi_f, Bool.and_true, Bool.true_and, Bool.and_false, Bool.false_and, e1_3, c113_8] at hQ ⊢; with_reducible exact hQ)
    · refine aj_iload_n (q := 117) (i := 3) dX5_operandsFit_116 rfl rfl rfl ?_
      refine aj_callS (q := 120) (As := [_]) cl_X5_66 mk_X5_isVariable dX5_operandsFit_117 rfl rfl (Nat.le_of_ble_eq_true rfl) (sp_X5_isVariable ?_)
      refine aj_ifB_eq (q := 123) (tgt := 135) dX5_operandsFit_120 rfl (by decide) (fun c120_9 => ?_) (fun c120_9 => ?_)
      · refine aj_iconst (q := 136) (v := 0) dX5_operandsFit_135 rfl (by decide) ?_
        refine aj_zreturn dX5_operandsFit_136 rfl (by first | exact bi_nar _ | decide) ?_
        skip; subst ex1
        first | contradiction | with_reducible exact hQ | (simp (decide := true) only [oFit, ↓reduceIte, sw_eq, sw_ne, ne_eq, Nat.reduceEqDiff, not_false_eq_true, Bool.false_eq_true, bi_t, bi_f, Bool.and_true, Bool.true_and, Bool.and_false, Bool.false_and, e1_3, c113_8, c120_9] at hQ; with_reducible exact hQ) | (simp (decide := true) only [oFit, ↓reduceIte, sw_eq, sw_ne, ne_eq, Nat.reduceEqDiff, not_false_eq_true, Bool.false_eq_true, bi_t, bi_f, Bool.and_true, Bool.true_and, Bool.and_false, Bool.false_and, e1_3, c113_8, c120_9] at hQ ⊢; with_reducible exact hQ)
      · refine aj_iload (q := 125) (i := 4) dX5_operandsFit_123 rfl rfl ?_
        refine aj_callS (q := 128) (As := [_]) cl_X5_66 mk_X5_isVariable dX5_operandsFit_125 rfl rfl (Nat.le_of_ble_eq_true rfl) (sp_X5_isVariable ?_)
        refine aj_ifB_eq (q := 131) (tgt := 135) dX5_operandsFit_128 rfl (by decide) (fun c128_10 => ?_) (fun c128_10 => ?_)
        · refine aj_iconst (q := 136) (v := 0) dX5_operandsFit_135 rfl (by decide) ?_
          refine aj_zreturn dX5_operandsFit_136 rfl (by first | exact bi_nar _ | decide) ?_
          skip; subst ex1
          first | contradiction | with_reducible exact hQ | (simp (decide := true) only [oFit, ↓reduceIte, sw_eq, sw_ne, ne_eq, Nat.reduceEqDiff, not_false_eq_true, Bool.false_eq_true, bi_t, bi_f, Bool.and_true, Bool.true_and, Bool.and_false, Bool.false_and, e1_3, c113_8, c120_9, c128_10] at hQ; with_reducible exact hQ) | (simp (decide := true) only [oFit, ↓reduceIte, sw_eq, sw_ne, ne_eq, Nat.reduceEqDiff, not_false_eq_true, Bool.false_eq_true, bi_t, bi_f, Bool.and_true, Bool.true_and, Bool.and_false, Bool.false_and, e1_3, c113_8, c120_9, c128_10] at hQ ⊢; with_reducible exact hQ)
        · refine aj_iconst (q := 132) (v := 1) dX5_operandsFit_131 rfl (by decide) ?_
          refine aj_goto (tgt := 136) dX5_operandsFit_132 (by decide) ?_
          refine aj_zreturn dX5_operandsFit_136 rfl (by first | exact bi_nar _ | decide) ?_
          skip; subst ex1
          first | contradiction | with_reducible exact hQ | (simp (decide := true) only [oFit, ↓reduceIte, sw_eq, sw_ne, ne_eq, Nat.reduceEqDiff, not_false_eq_true, Bool.false_eq_true, bi_t, bi_f, Bool.and_true, Bool.true_and, Bool.and_false, Bool.false_and, e1_3, c113_8, c120_9, c128_10] at hQ; with_reducible exact hQ) | (simp (decide := true) only [oFit, ↓reduceIte, sw_eq, sw_ne, ne_eq, Nat.reduceEqDiff, not_false_eq_true, Bool.false_eq_true, bi_t, bi_f, Bool.and_true, Bool.true_and, Bool.and_false, Bool.false_and, e1_3, c113_8, c120_9, c128_10] at hQ ⊢; with_reducible exact hQ)
  by_cases e1_4 : x1 = 4
  · refine aj_tsIn (tgt := 109) (off := 108) dX5_operandsFit_1 (by rw [e1_4]; decide) (by rw [e1_4]; decide) (by rw [e1_4]; rfl) (by decide) ?_
    refine aj_iload_n (q := 110) (i := 2) dX5_operandsFit_109 rfl rfl rfl ?_
    refine aj_callS (q := 113) (As := [_]) cl_X5_66 mk_X5_isVariable dX5_operandsFit_110 rfl rfl (Nat.le_of_ble_eq_true rfl) (sp_X5_isVariable ?_)
    refine aj_ifB_eq (q := 116) (tgt := 135) dX5_operandsFit_113 rfl (by decide) (fun c113_11 => ?_) (fun c113_11 => ?_)
    · refine aj_iconst (q := 136) (v := 0) dX5_operandsFit_135 rfl (by decide) ?_
      refine aj_zreturn dX5_operandsFit_136 rfl (by first | exact bi_nar _ | decide) ?_
      skip; subst ex1
      first | contradiction | with_reducible exact hQ | (simp (decide := true) only [oFit, ↓reduceIte, sw_eq, sw_ne, ne_eq, Nat.reduceEqDiff, not_false_eq_true, Bool.false_eq_true, bi_t, bi_f, Bool.and_true, Bool.true_and, Bool.and_false, Bool.false_and, e1_4, c113_11] at hQ; with_reducible exact hQ) | (simp (decide := true) only [oFit, ↓reduceIte, sw_eq, sw_ne, ne_eq, Nat.reduceEqDiff, not_false_eq_true, Bool.false_eq_true, bi_t, bi_f, Bool.and_true, Bool.true_and, Bool.and_false, Bool.false_and, e1_4, c113_11] at hQ ⊢; with_reducible exact hQ)
    · refine aj_iload_n (q := 117) (i := 3) dX5_operandsFit_116 rfl rfl rfl ?_
      refine aj_callS (q := 120) (As := [_]) cl_X5_66 mk_X5_isVariable dX5_operandsFit_117 rfl rfl (Nat.le_of_ble_eq_true rfl) (sp_X5_isVariable ?_)
      refine aj_ifB_eq (q := 123) (tgt := 135) dX5_operandsFit_120 rfl (by decide) (fun c120_12 => ?_) (fun c120_12 => ?_)
      · refine aj_iconst (q := 136) (v := 0) dX5_operandsFit_135 rfl (by decide) ?_
        refine aj_zreturn dX5_operandsFit_136 rfl (by first | exact bi_nar _ | decide) ?_
        skip; subst ex1
        first | contradiction | with_reducible exact hQ | (simp (decide := true) only [oFit, ↓reduceIte, sw_eq, sw_ne, ne_eq, Nat.reduceEqDiff, not_false_eq_true, Bool.false_eq_true, bi_t, bi_f, Bool.and_true, Bool.true_and, Bool.and_false, Bool.false_and, e1_4, c113_11, c120_12] at hQ; with_reducible exact hQ) | (simp (decide := true) only [oFit, ↓reduceIte, sw_eq, sw_ne, ne_eq, Nat.reduceEqDiff, not_false_eq_true, Bool.false_eq_true, bi_t, bi_f, Bool.and_true, Bool.true_and, Bool.and_false, Bool.false_and, e1_4, c113_11, c120_12] at hQ ⊢; with_reducible exact hQ)
      · refine aj_iload (q := 125) (i := 4) dX5_operandsFit_123 rfl rfl ?_
        refine aj_callS (q := 128) (As := [_]) cl_X5_66 mk_X5_isVariable dX5_operandsFit_125 rfl rfl (Nat.le_of_ble_eq_true rfl) (sp_X5_isVariable ?_)
        refine aj_ifB_eq (q := 131) (tgt := 135) dX5_operandsFit_128 rfl (by decide) (fun c128_13 => ?_) (fun c128_13 => ?_)
        · refine aj_iconst (q := 136) (v := 0) dX5_operandsFit_135 rfl (by decide) ?_
          refine aj_zreturn dX5_operandsFit_136 rfl (by first | exact bi_nar _ | decide) ?_
          skip; subst ex1
          first | contradiction | with_reducible exact hQ | (simp (decide := true) only [oFit, ↓reduceIte, sw_eq, sw_ne, ne_eq, Nat.reduceEqDiff, not_false_eq_true, Bool.false_eq_true, bi_t, bi_f, Bool.and_true, Bool.true_and, Bool.and_false, Bool.false_and, e1_4, c113_11, c120_12, c128_13] at hQ; with_reducible exact hQ) | (simp (decide := true) only [oFit, ↓reduceIte, sw_eq, sw_ne, ne_eq, Nat.reduceEqDiff, not_false_eq_true, Bool.false_eq_true, bi_t, bi_f, Bool.and_true, Bool.true_and, Bool.and_false, Bool.false_and, e1_4, c113_11, c120_12, c128_13] at hQ ⊢; with_reducible exact hQ)
        · refine aj_iconst (q := 132) (v := 1) dX5_operandsFit_131 rfl (by decide) ?_
          refine aj_goto (tgt := 136) dX5_operandsFit_132 (by decide) ?_
          refine aj_zreturn dX5_operandsFit_136 rfl (by first | exact bi_nar _ | decide) ?_
          skip; subst ex1
          first | contradiction | with_reducible exact hQ | (simp (decide := true) only [oFit, ↓reduceIte, sw_eq, sw_ne, ne_eq, Nat.reduceEqDiff, not_false_eq_true, Bool.false_eq_true, bi_t, bi_f, Bool.and_true, Bool.true_and, Bool.and_false, Bool.false_and, e1_4, c113_11, c120_12, c128_13] at hQ; with_reducible exact hQ) | (simp (decide := true) only [oFit, ↓reduceIte, sw_eq, sw_ne, ne_eq, Nat.reduceEqDiff, not_false_eq_true, Bool.false_eq_true, bi_t, bi_f, Bool.and_true, Bool.true_and, Bool.and_false, Bool.false_and, e1_4, c113_11, c120_12, c128_13] at hQ ⊢; with_reducible exact hQ)
  by_cases e1_5 : x1 = 5
  · refine aj_tsIn (tgt := 109) (off := 108) dX5_operandsFit_1 (by rw [e1_5]; decide) (by rw [e1_5]; decide) (by rw [e1_5]; rfl) (by decide) ?_
    refine aj_iload_n (q := 110) (i := 2) dX5_operandsFit_109 rfl rfl rfl ?_
    refine aj_callS (q := 113) (As := [_]) cl_X5_66 mk_X5_isVariable dX5_operandsFit_110 rfl rfl (Nat.le_of_ble_eq_true rfl) (sp_X5_isVariable ?_)
    refine aj_ifB_eq (q := 116) (tgt := 135) dX5_operandsFit_113 rfl (by decide) (fun c113_14 => ?_) (fun c113_14 => ?_)
    · refine aj_iconst (q := 136) (v := 0) dX5_operandsFit_135 rfl (by decide) ?_
      refine aj_zreturn dX5_operandsFit_136 rfl (by first | exact bi_nar _ | decide) ?_
      skip; subst ex1
      first | contradiction | with_reducible exact hQ | (simp (decide := true) only [oFit, ↓reduceIte, sw_eq, sw_ne, ne_eq, Nat.reduceEqDiff, not_false_eq_true, Bool.false_eq_true, bi_t, bi_f, Bool.and_true, Bool.true_and, Bool.and_false, Bool.false_and, e1_5, c113_14] at hQ; with_reducible exact hQ) | (simp (decide := true) only [oFit, ↓reduceIte, sw_eq, sw_ne, ne_eq, Nat.reduceEqDiff, not_false_eq_true, Bool.false_eq_true, bi_t, bi_f, Bool.and_true, Bool.true_and, Bool.and_false, Bool.false_and, e1_5, c113_14] at hQ ⊢; with_reducible exact hQ)
    · refine aj_iload_n (q := 117) (i := 3) dX5_operandsFit_116 rfl rfl rfl ?_
      refine aj_callS (q := 120) (As := [_]) cl_X5_66 mk_X5_isVariable dX5_operandsFit_117 rfl rfl (Nat.le_of_ble_eq_true rfl) (sp_X5_isVariable ?_)
      refine aj_ifB_eq (q := 123) (tgt := 135) dX5_operandsFit_120 rfl (by decide) (fun c120_15 => ?_) (fun c120_15 => ?_)
      · refine aj_iconst (q := 136) (v := 0) dX5_operandsFit_135 rfl (by decide) ?_
        refine aj_zreturn dX5_operandsFit_136 rfl (by first | exact bi_nar _ | decide) ?_
        skip; subst ex1
        first | contradiction | with_reducible exact hQ | (simp (decide := true) only [oFit, ↓reduceIte, sw_eq, sw_ne, ne_eq, Nat.reduceEqDiff, not_false_eq_true, Bool.false_eq_true, bi_t, bi_f, Bool.and_true, Bool.true_and, Bool.and_false, Bool.false_and, e1_5, c113_14, c120_15] at hQ; with_reducible exact hQ) | (simp (decide := true) only [oFit, ↓reduceIte, sw_eq, sw_ne, ne_eq, Nat.reduceEqDiff, not_false_eq_true, Bool.false_eq_true, bi_t, bi_f, Bool.and_true, Bool.true_and, Bool.and_false, Bool.false_and, e1_5, c113_14, c120_15] at hQ ⊢; with_reducible exact hQ)
      · refine aj_iload (q := 125) (i := 4) dX5_operandsFit_123 rfl rfl ?_
        refine aj_callS (q := 128) (As := [_]) cl_X5_66 mk_X5_isVariable dX5_operandsFit_125 rfl rfl (Nat.le_of_ble_eq_true rfl) (sp_X5_isVariable ?_)
        refine aj_ifB_eq (q := 131) (tgt := 135) dX5_operandsFit_128 rfl (by decide) (fun c128_16 => ?_) (fun c128_16 => ?_)
        · refine aj_iconst (q := 136) (v := 0) dX5_operandsFit_135 rfl (by decide) ?_
          refine aj_zreturn dX5_operandsFit_136 rfl (by first | exact bi_nar _ | decide) ?_
          skip; subst ex1
          first | contradiction | with_reducible exact hQ | (simp (decide := true) only [oFit, ↓reduceIte, sw_eq, sw_ne, ne_eq, Nat.reduceEqDiff, not_false_eq_true, Bool.false_eq_true, bi_t, bi_f, Bool.and_true, Bool.true_and, Bool.and_false, Bool.false_and, e1_5, c113_14, c120_15, c128_16] at hQ; with_reducible exact hQ) | (simp (decide := true) only [oFit, ↓reduceIte, sw_eq, sw_ne, ne_eq, Nat.reduceEqDiff, not_false_eq_true, Bool.false_eq_true, bi_t, bi_f, Bool.and_true, Bool.true_and, Bool.and_false, Bool.false_and, e1_5, c113_14, c120_15, c128_16] at hQ ⊢; with_reducible exact hQ)
        · refine aj_iconst (q := 132) (v := 1) dX5_operandsFit_131 rfl (by decide) ?_
          refine aj_goto (tgt := 136) dX5_operandsFit_132 (by decide) ?_
          refine aj_zreturn dX5_operandsFit_136 rfl (by first | exact bi_nar _ | decide) ?_
          skip; subst ex1
          first | contradiction | with_reducible exact hQ | (simp (decide := true) only [oFit, ↓reduceIte, sw_eq, sw_ne, ne_eq, Nat.reduceEqDiff, not_false_eq_true, Bool.false_eq_true, bi_t, bi_f, Bool.and_true, Bool.true_and, Bool.and_false, Bool.false_and, e1_5, c113_14, c120_15, c128_16] at hQ; with_reducible exact hQ) | (simp (decide := true) only [oFit, ↓reduceIte, sw_eq, sw_ne, ne_eq, Nat.reduceEqDiff, not_false_eq_true, Bool.false_eq_true, bi_t, bi_f, Bool.and_true, Bool.true_and, Bool.and_false, Bool.false_and, e1_5, c113_14, c120_15, c128_16] at hQ ⊢; with_reducible exact hQ)
  by_cases e1_6 : x1 = 6
  · refine aj_tsIn (tgt := 137) (off := 136) dX5_operandsFit_1 (by rw [e1_6]; decide) (by rw [e1_6]; decide) (by rw [e1_6]; rfl) (by decide) ?_
    refine aj_iload_n (q := 138) (i := 2) dX5_operandsFit_137 rfl rfl rfl ?_
    refine aj_callS (q := 141) (As := [_]) cl_X5_69 mk_X5_isRow dX5_operandsFit_138 rfl rfl (Nat.le_of_ble_eq_true rfl) (sp_X5_isRow ?_)
    refine aj_ifB_eq (q := 144) (tgt := 155) dX5_operandsFit_141 rfl (by decide) (fun c141_17 => ?_) (fun c141_17 => ?_)
    · refine aj_iconst (q := 156) (v := 0) dX5_operandsFit_155 rfl (by decide) ?_
      refine aj_zreturn dX5_operandsFit_156 rfl (by first | exact bi_nar _ | decide) ?_
      skip; subst ex1
      first | contradiction | with_reducible exact hQ | (simp (decide := true) only [oFit, ↓reduceIte, sw_eq, sw_ne, ne_eq, Nat.reduceEqDiff, not_false_eq_true, Bool.false_eq_true, bi_t, bi_f, Bool.and_true, Bool.true_and, Bool.and_false, Bool.false_and, e1_6, c141_17] at hQ; with_reducible exact hQ) | (simp (decide := true) only [oFit, ↓reduceIte, sw_eq, sw_ne, ne_eq, Nat.reduceEqDiff, not_false_eq_true, Bool.false_eq_true, bi_t, bi_f, Bool.and_true, Bool.true_and, Bool.and_false, Bool.false_and, e1_6, c141_17] at hQ ⊢; with_reducible exact hQ)
    · refine aj_iload_n (q := 145) (i := 3) dX5_operandsFit_144 rfl rfl rfl ?_
      refine aj_callS (q := 148) (As := [_]) cl_X5_66 mk_X5_isVariable dX5_operandsFit_145 rfl rfl (Nat.le_of_ble_eq_true rfl) (sp_X5_isVariable ?_)
      refine aj_ifB_eq (q := 151) (tgt := 155) dX5_operandsFit_148 rfl (by decide) (fun c148_18 => ?_) (fun c148_18 => ?_)
      · refine aj_iconst (q := 156) (v := 0) dX5_operandsFit_155 rfl (by decide) ?_
        refine aj_zreturn dX5_operandsFit_156 rfl (by first | exact bi_nar _ | decide) ?_
        skip; subst ex1
        first | contradiction | with_reducible exact hQ | (simp (decide := true) only [oFit, ↓reduceIte, sw_eq, sw_ne, ne_eq, Nat.reduceEqDiff, not_false_eq_true, Bool.false_eq_true, bi_t, bi_f, Bool.and_true, Bool.true_and, Bool.and_false, Bool.false_and, e1_6, c141_17, c148_18] at hQ; with_reducible exact hQ) | (simp (decide := true) only [oFit, ↓reduceIte, sw_eq, sw_ne, ne_eq, Nat.reduceEqDiff, not_false_eq_true, Bool.false_eq_true, bi_t, bi_f, Bool.and_true, Bool.true_and, Bool.and_false, Bool.false_and, e1_6, c141_17, c148_18] at hQ ⊢; with_reducible exact hQ)
      · refine aj_iconst (q := 152) (v := 1) dX5_operandsFit_151 rfl (by decide) ?_
        refine aj_goto (tgt := 156) dX5_operandsFit_152 (by decide) ?_
        refine aj_zreturn dX5_operandsFit_156 rfl (by first | exact bi_nar _ | decide) ?_
        skip; subst ex1
        first | contradiction | with_reducible exact hQ | (simp (decide := true) only [oFit, ↓reduceIte, sw_eq, sw_ne, ne_eq, Nat.reduceEqDiff, not_false_eq_true, Bool.false_eq_true, bi_t, bi_f, Bool.and_true, Bool.true_and, Bool.and_false, Bool.false_and, e1_6, c141_17, c148_18] at hQ; with_reducible exact hQ) | (simp (decide := true) only [oFit, ↓reduceIte, sw_eq, sw_ne, ne_eq, Nat.reduceEqDiff, not_false_eq_true, Bool.false_eq_true, bi_t, bi_f, Bool.and_true, Bool.true_and, Bool.and_false, Bool.false_and, e1_6, c141_17, c148_18] at hQ ⊢; with_reducible exact hQ)
  by_cases e1_7 : x1 = 7
  · refine aj_tsIn (tgt := 157) (off := 156) dX5_operandsFit_1 (by rw [e1_7]; decide) (by rw [e1_7]; decide) (by rw [e1_7]; rfl) (by decide) ?_
    refine aj_iload_n (q := 158) (i := 2) dX5_operandsFit_157 rfl rfl rfl ?_
    refine aj_callS (q := 161) (As := [_]) cl_X5_66 mk_X5_isVariable dX5_operandsFit_158 rfl rfl (Nat.le_of_ble_eq_true rfl) (sp_X5_isVariable ?_)
    refine aj_ifB_eq (q := 164) (tgt := 183) dX5_operandsFit_161 rfl (by decide) (fun c161_19 => ?_) (fun c161_19 => ?_)
    · refine aj_iconst (q := 184) (v := 0) dX5_operandsFit_183 rfl (by decide) ?_
      refine aj_zreturn dX5_operandsFit_184 rfl (by first | exact bi_nar _ | decide) ?_
      skip; subst ex1
      first | contradiction | with_reducible exact hQ | (simp (decide := true) only [oFit, ↓reduceIte, sw_eq, sw_ne, ne_eq, Nat.reduceEqDiff, not_false_eq_true, Bool.false_eq_true, bi_t, bi_f, Bool.and_true, Bool.true_and, Bool.and_false, Bool.false_and, e1_7, c161_19] at hQ; with_reducible exact hQ) | (simp (decide := true) only [oFit, ↓reduceIte, sw_eq, sw_ne, ne_eq, Nat.reduceEqDiff, not_false_eq_true, Bool.false_eq_true, bi_t, bi_f, Bool.and_true, Bool.true_and, Bool.and_false, Bool.false_and, e1_7, c161_19] at hQ ⊢; with_reducible exact hQ)
    · refine aj_iload_n (q := 165) (i := 3) dX5_operandsFit_164 rfl rfl rfl ?_
      refine aj_callS (q := 168) (As := [_]) cl_X5_69 mk_X5_isRow dX5_operandsFit_165 rfl rfl (Nat.le_of_ble_eq_true rfl) (sp_X5_isRow ?_)
      refine aj_ifB_eq (q := 171) (tgt := 183) dX5_operandsFit_168 rfl (by decide) (fun c168_20 => ?_) (fun c168_20 => ?_)
      · refine aj_iconst (q := 184) (v := 0) dX5_operandsFit_183 rfl (by decide) ?_
        refine aj_zreturn dX5_operandsFit_184 rfl (by first | exact bi_nar _ | decide) ?_
        skip; subst ex1
        first | contradiction | with_reducible exact hQ | (simp (decide := true) only [oFit, ↓reduceIte, sw_eq, sw_ne, ne_eq, Nat.reduceEqDiff, not_false_eq_true, Bool.false_eq_true, bi_t, bi_f, Bool.and_true, Bool.true_and, Bool.and_false, Bool.false_and, e1_7, c161_19, c168_20] at hQ; with_reducible exact hQ) | (simp (decide := true) only [oFit, ↓reduceIte, sw_eq, sw_ne, ne_eq, Nat.reduceEqDiff, not_false_eq_true, Bool.false_eq_true, bi_t, bi_f, Bool.and_true, Bool.true_and, Bool.and_false, Bool.false_and, e1_7, c161_19, c168_20] at hQ ⊢; with_reducible exact hQ)
      · refine aj_iload (q := 173) (i := 4) dX5_operandsFit_171 rfl rfl ?_
        refine aj_callS (q := 176) (As := [_]) cl_X5_66 mk_X5_isVariable dX5_operandsFit_173 rfl rfl (Nat.le_of_ble_eq_true rfl) (sp_X5_isVariable ?_)
        refine aj_ifB_eq (q := 179) (tgt := 183) dX5_operandsFit_176 rfl (by decide) (fun c176_21 => ?_) (fun c176_21 => ?_)
        · refine aj_iconst (q := 184) (v := 0) dX5_operandsFit_183 rfl (by decide) ?_
          refine aj_zreturn dX5_operandsFit_184 rfl (by first | exact bi_nar _ | decide) ?_
          skip; subst ex1
          first | contradiction | with_reducible exact hQ | (simp (decide := true) only [oFit, ↓reduceIte, sw_eq, sw_ne, ne_eq, Nat.reduceEqDiff, not_false_eq_true, Bool.false_eq_true, bi_t, bi_f, Bool.and_true, Bool.true_and, Bool.and_false, Bool.false_and, e1_7, c161_19, c168_20, c176_21] at hQ; with_reducible exact hQ) | (simp (decide := true) only [oFit, ↓reduceIte, sw_eq, sw_ne, ne_eq, Nat.reduceEqDiff, not_false_eq_true, Bool.false_eq_true, bi_t, bi_f, Bool.and_true, Bool.true_and, Bool.and_false, Bool.false_and, e1_7, c161_19, c168_20, c176_21] at hQ ⊢; with_reducible exact hQ)
        · refine aj_iconst (q := 180) (v := 1) dX5_operandsFit_179 rfl (by decide) ?_
          refine aj_goto (tgt := 184) dX5_operandsFit_180 (by decide) ?_
          refine aj_zreturn dX5_operandsFit_184 rfl (by first | exact bi_nar _ | decide) ?_
          skip; subst ex1
          first | contradiction | with_reducible exact hQ | (simp (decide := true) only [oFit, ↓reduceIte, sw_eq, sw_ne, ne_eq, Nat.reduceEqDiff, not_false_eq_true, Bool.false_eq_true, bi_t, bi_f, Bool.and_true, Bool.true_and, Bool.and_false, Bool.false_and, e1_7, c161_19, c168_20, c176_21] at hQ; with_reducible exact hQ) | (simp (decide := true) only [oFit, ↓reduceIte, sw_eq, sw_ne, ne_eq, Nat.reduceEqDiff, not_false_eq_true, Bool.false_eq_true, bi_t, bi_f, Bool.and_true, Bool.true_and, Bool.and_false, Bool.false_and, e1_7, c161_19, c168_20, c176_21] at hQ ⊢; with_reducible exact hQ)
  by_cases e1_8 : x1 = 8
  · refine aj_tsIn (tgt := 185) (off := 184) dX5_operandsFit_1 (by rw [e1_8]; decide) (by rw [e1_8]; decide) (by rw [e1_8]; rfl) (by decide) ?_
    refine aj_iload_n (q := 186) (i := 2) dX5_operandsFit_185 rfl rfl rfl ?_
    refine aj_callS (q := 189) (As := [_]) cl_X5_69 mk_X5_isRow dX5_operandsFit_186 rfl rfl (Nat.le_of_ble_eq_true rfl) (sp_X5_isRow ?_)
    refine aj_ifB_eq (q := 192) (tgt := 211) dX5_operandsFit_189 rfl (by decide) (fun c189_22 => ?_) (fun c189_22 => ?_)
    · refine aj_iconst (q := 212) (v := 0) dX5_operandsFit_211 rfl (by decide) ?_
      refine aj_zreturn dX5_operandsFit_212 rfl (by first | exact bi_nar _ | decide) ?_
      skip; subst ex1
      first | contradiction | with_reducible exact hQ | (simp (decide := true) only [oFit, ↓reduceIte, sw_eq, sw_ne, ne_eq, Nat.reduceEqDiff, not_false_eq_true, Bool.false_eq_true, bi_t, bi_f, Bool.and_true, Bool.true_and, Bool.and_false, Bool.false_and, e1_8, c189_22] at hQ; with_reducible exact hQ) | (simp (decide := true) only [oFit, ↓reduceIte, sw_eq, sw_ne, ne_eq, Nat.reduceEqDiff, not_false_eq_true, Bool.false_eq_true, bi_t, bi_f, Bool.and_true, Bool.true_and, Bool.and_false, Bool.false_and, e1_8, c189_22] at hQ ⊢; with_reducible exact hQ)
    · refine aj_iload_n (q := 193) (i := 3) dX5_operandsFit_192 rfl rfl rfl ?_
      refine aj_callS (q := 196) (As := [_]) cl_X5_66 mk_X5_isVariable dX5_operandsFit_193 rfl rfl (Nat.le_of_ble_eq_true rfl) (sp_X5_isVariable ?_)
      refine aj_ifB_eq (q := 199) (tgt := 211) dX5_operandsFit_196 rfl (by decide) (fun c196_23 => ?_) (fun c196_23 => ?_)
      · refine aj_iconst (q := 212) (v := 0) dX5_operandsFit_211 rfl (by decide) ?_
        refine aj_zreturn dX5_operandsFit_212 rfl (by first | exact bi_nar _ | decide) ?_
        skip; subst ex1
        first | contradiction | with_reducible exact hQ | (simp (decide := true) only [oFit, ↓reduceIte, sw_eq, sw_ne, ne_eq, Nat.reduceEqDiff, not_false_eq_true, Bool.false_eq_true, bi_t, bi_f, Bool.and_true, Bool.true_and, Bool.and_false, Bool.false_and, e1_8, c189_22, c196_23] at hQ; with_reducible exact hQ) | (simp (decide := true) only [oFit, ↓reduceIte, sw_eq, sw_ne, ne_eq, Nat.reduceEqDiff, not_false_eq_true, Bool.false_eq_true, bi_t, bi_f, Bool.and_true, Bool.true_and, Bool.and_false, Bool.false_and, e1_8, c189_22, c196_23] at hQ ⊢; with_reducible exact hQ)
      · refine aj_iload (q := 201) (i := 4) dX5_operandsFit_199 rfl rfl ?_
        refine aj_callS (q := 204) (As := [_]) cl_X5_66 mk_X5_isVariable dX5_operandsFit_201 rfl rfl (Nat.le_of_ble_eq_true rfl) (sp_X5_isVariable ?_)
        refine aj_ifB_eq (q := 207) (tgt := 211) dX5_operandsFit_204 rfl (by decide) (fun c204_24 => ?_) (fun c204_24 => ?_)
        · refine aj_iconst (q := 212) (v := 0) dX5_operandsFit_211 rfl (by decide) ?_
          refine aj_zreturn dX5_operandsFit_212 rfl (by first | exact bi_nar _ | decide) ?_
          skip; subst ex1
          first | contradiction | with_reducible exact hQ | (simp (decide := true) only [oFit, ↓reduceIte, sw_eq, sw_ne, ne_eq, Nat.reduceEqDiff, not_false_eq_true, Bool.false_eq_true, bi_t, bi_f, Bool.and_true, Bool.true_and, Bool.and_false, Bool.false_and, e1_8, c189_22, c196_23, c204_24] at hQ; with_reducible exact hQ) | (simp (decide := true) only [oFit, ↓reduceIte, sw_eq, sw_ne, ne_eq, Nat.reduceEqDiff, not_false_eq_true, Bool.false_eq_true, bi_t, bi_f, Bool.and_true, Bool.true_and, Bool.and_false, Bool.false_and, e1_8, c189_22, c196_23, c204_24] at hQ ⊢; with_reducible exact hQ)
        · refine aj_iconst (q := 208) (v := 1) dX5_operandsFit_207 rfl (by decide) ?_
          refine aj_goto (tgt := 212) dX5_operandsFit_208 (by decide) ?_
          refine aj_zreturn dX5_operandsFit_212 rfl (by first | exact bi_nar _ | decide) ?_
          skip; subst ex1
          first | contradiction | with_reducible exact hQ | (simp (decide := true) only [oFit, ↓reduceIte, sw_eq, sw_ne, ne_eq, Nat.reduceEqDiff, not_false_eq_true, Bool.false_eq_true, bi_t, bi_f, Bool.and_true, Bool.true_and, Bool.and_false, Bool.false_and, e1_8, c189_22, c196_23, c204_24] at hQ; with_reducible exact hQ) | (simp (decide := true) only [oFit, ↓reduceIte, sw_eq, sw_ne, ne_eq, Nat.reduceEqDiff, not_false_eq_true, Bool.false_eq_true, bi_t, bi_f, Bool.and_true, Bool.true_and, Bool.and_false, Bool.false_and, e1_8, c189_22, c196_23, c204_24] at hQ ⊢; with_reducible exact hQ)
  by_cases e1_9 : x1 = 9
  · refine aj_tsIn (tgt := 213) (off := 212) dX5_operandsFit_1 (by rw [e1_9]; decide) (by rw [e1_9]; decide) (by rw [e1_9]; rfl) (by decide) ?_
    refine aj_iload_n (q := 214) (i := 2) dX5_operandsFit_213 rfl rfl rfl ?_
    refine aj_callS (q := 217) (As := [_]) cl_X5_66 mk_X5_isVariable dX5_operandsFit_214 rfl rfl (Nat.le_of_ble_eq_true rfl) (sp_X5_isVariable ?_)
    refine aj_ifB_eq (q := 220) (tgt := 231) dX5_operandsFit_217 rfl (by decide) (fun c217_25 => ?_) (fun c217_25 => ?_)
    · refine aj_iconst (q := 232) (v := 0) dX5_operandsFit_231 rfl (by decide) ?_
      refine aj_zreturn dX5_operandsFit_232 rfl (by first | exact bi_nar _ | decide) ?_
      skip; subst ex1
      first | contradiction | with_reducible exact hQ | (simp (decide := true) only [oFit, ↓reduceIte, sw_eq, sw_ne, ne_eq, Nat.reduceEqDiff, not_false_eq_true, Bool.false_eq_true, bi_t, bi_f, Bool.and_true, Bool.true_and, Bool.and_false, Bool.false_and, e1_9, c217_25] at hQ; with_reducible exact hQ) | (simp (decide := true) only [oFit, ↓reduceIte, sw_eq, sw_ne, ne_eq, Nat.reduceEqDiff, not_false_eq_true, Bool.false_eq_true, bi_t, bi_f, Bool.and_true, Bool.true_and, Bool.and_false, Bool.false_and, e1_9, c217_25] at hQ ⊢; with_reducible exact hQ)
    · refine aj_iload_n (q := 221) (i := 3) dX5_operandsFit_220 rfl rfl rfl ?_
      refine aj_callS (q := 224) (As := [_]) cl_X5_69 mk_X5_isRow dX5_operandsFit_221 rfl rfl (Nat.le_of_ble_eq_true rfl) (sp_X5_isRow ?_)
      refine aj_ifB_eq (q := 227) (tgt := 231) dX5_operandsFit_224 rfl (by decide) (fun c224_26 => ?_) (fun c224_26 => ?_)
      · refine aj_iconst (q := 232) (v := 0) dX5_operandsFit_231 rfl (by decide) ?_
        refine aj_zreturn dX5_operandsFit_232 rfl (by first | exact bi_nar _ | decide) ?_
        skip; subst ex1
        first | contradiction | with_reducible exact hQ | (simp (decide := true) only [oFit, ↓reduceIte, sw_eq, sw_ne, ne_eq, Nat.reduceEqDiff, not_false_eq_true, Bool.false_eq_true, bi_t, bi_f, Bool.and_true, Bool.true_and, Bool.and_false, Bool.false_and, e1_9, c217_25, c224_26] at hQ; with_reducible exact hQ) | (simp (decide := true) only [oFit, ↓reduceIte, sw_eq, sw_ne, ne_eq, Nat.reduceEqDiff, not_false_eq_true, Bool.false_eq_true, bi_t, bi_f, Bool.and_true, Bool.true_and, Bool.and_false, Bool.false_and, e1_9, c217_25, c224_26] at hQ ⊢; with_reducible exact hQ)
      · refine aj_iconst (q := 228) (v := 1) dX5_operandsFit_227 rfl (by decide) ?_
        refine aj_goto (tgt := 232) dX5_operandsFit_228 (by decide) ?_
        refine aj_zreturn dX5_operandsFit_232 rfl (by first | exact bi_nar _ | decide) ?_
        skip; subst ex1
        first | contradiction | with_reducible exact hQ | (simp (decide := true) only [oFit, ↓reduceIte, sw_eq, sw_ne, ne_eq, Nat.reduceEqDiff, not_false_eq_true, Bool.false_eq_true, bi_t, bi_f, Bool.and_true, Bool.true_and, Bool.and_false, Bool.false_and, e1_9, c217_25, c224_26] at hQ; with_reducible exact hQ) | (simp (decide := true) only [oFit, ↓reduceIte, sw_eq, sw_ne, ne_eq, Nat.reduceEqDiff, not_false_eq_true, Bool.false_eq_true, bi_t, bi_f, Bool.and_true, Bool.true_and, Bool.and_false, Bool.false_and, e1_9, c217_25, c224_26] at hQ ⊢; with_reducible exact hQ)
  by_cases e1_10 : x1 = 10
  · refine aj_tsIn (tgt := 233) (off := 232) dX5_operandsFit_1 (by rw [e1_10]; decide) (by rw [e1_10]; decide) (by rw [e1_10]; rfl) (by decide) ?_
    refine aj_iload_n (q := 234) (i := 2) dX5_operandsFit_233 rfl rfl rfl ?_
    refine aj_callS (q := 237) (As := [_]) cl_X5_69 mk_X5_isRow dX5_operandsFit_234 rfl rfl (Nat.le_of_ble_eq_true rfl) (sp_X5_isRow ?_)
    refine aj_zreturn dX5_operandsFit_237 rfl (by first | exact bi_nar _ | decide) ?_
    skip; subst ex1
    first | contradiction | with_reducible exact hQ | (simp (decide := true) only [oFit, ↓reduceIte, sw_eq, sw_ne, ne_eq, Nat.reduceEqDiff, not_false_eq_true, Bool.false_eq_true, bi_t, bi_f, Bool.and_true, Bool.true_and, Bool.and_false, Bool.false_and, e1_10] at hQ; with_reducible exact hQ) | (simp (decide := true) only [oFit, ↓reduceIte, sw_eq, sw_ne, ne_eq, Nat.reduceEqDiff, not_false_eq_true, Bool.false_eq_true, bi_t, bi_f, Bool.and_true, Bool.true_and, Bool.and_false, Bool.false_and, e1_10] at hQ ⊢; with_reducible exact hQ)
  by_cases e1_11 : x1 = 11
  · refine aj_tsIn (tgt := 238) (off := 237) dX5_operandsFit_1 (by rw [e1_11]; decide) (by rw [e1_11]; decide) (by rw [e1_11]; rfl) (by decide) ?_
    refine aj_iload_n (q := 239) (i := 2) dX5_operandsFit_238 rfl rfl rfl ?_
    refine aj_callS (q := 242) (As := [_]) cl_X5_69 mk_X5_isRow dX5_operandsFit_239 rfl rfl (Nat.le_of_ble_eq_true rfl) (sp_X5_isRow ?_)
    refine aj_ifB_eq (q := 245) (tgt := 256) dX5_operandsFit_242 rfl (by decide) (fun c242_27 => ?_) (fun c242_27 => ?_)
    · refine aj_iconst (q := 257) (v := 0) dX5_operandsFit_256 rfl (by decide) ?_
      refine aj_zreturn dX5_operandsFit_257 rfl (by first | exact bi_nar _ | decide) ?_
      skip; subst ex1
      first | contradiction | with_reducible exact hQ | (simp (decide := true) only [oFit, ↓reduceIte, sw_eq, sw_ne, ne_eq, Nat.reduceEqDiff, not_false_eq_true, Bool.false_eq_true, bi_t, bi_f, Bool.and_true, Bool.true_and, Bool.and_false, Bool.false_and, e1_11, c242_27] at hQ; with_reducible exact hQ) | (simp (decide := true) only [oFit, ↓reduceIte, sw_eq, sw_ne, ne_eq, Nat.reduceEqDiff, not_false_eq_true, Bool.false_eq_true, bi_t, bi_f, Bool.and_true, Bool.true_and, Bool.and_false, Bool.false_and, e1_11, c242_27] at hQ ⊢; with_reducible exact hQ)
    · refine aj_iload_n (q := 246) (i := 3) dX5_operandsFit_245 rfl rfl rfl ?_
      refine aj_callS (q := 249) (As := [_]) cl_X5_69 mk_X5_isRow dX5_operandsFit_246 rfl rfl (Nat.le_of_ble_eq_true rfl) (sp_X5_isRow ?_)
      refine aj_ifB_eq (q := 252) (tgt := 256) dX5_operandsFit_249 rfl (by decide) (fun c249_28 => ?_) (fun c249_28 => ?_)
      · refine aj_iconst (q := 257) (v := 0) dX5_operandsFit_256 rfl (by decide) ?_
        refine aj_zreturn dX5_operandsFit_257 rfl (by first | exact bi_nar _ | decide) ?_
        skip; subst ex1
        first | contradiction | with_reducible exact hQ | (simp (decide := true) only [oFit, ↓reduceIte, sw_eq, sw_ne, ne_eq, Nat.reduceEqDiff, not_false_eq_true, Bool.false_eq_true, bi_t, bi_f, Bool.and_true, Bool.true_and, Bool.and_false, Bool.false_and, e1_11, c242_27, c249_28] at hQ; with_reducible exact hQ) | (simp (decide := true) only [oFit, ↓reduceIte, sw_eq, sw_ne, ne_eq, Nat.reduceEqDiff, not_false_eq_true, Bool.false_eq_true, bi_t, bi_f, Bool.and_true, Bool.true_and, Bool.and_false, Bool.false_and, e1_11, c242_27, c249_28] at hQ ⊢; with_reducible exact hQ)
      · refine aj_iconst (q := 253) (v := 1) dX5_operandsFit_252 rfl (by decide) ?_
        refine aj_goto (tgt := 257) dX5_operandsFit_253 (by decide) ?_
        refine aj_zreturn dX5_operandsFit_257 rfl (by first | exact bi_nar _ | decide) ?_
        skip; subst ex1
        first | contradiction | with_reducible exact hQ | (simp (decide := true) only [oFit, ↓reduceIte, sw_eq, sw_ne, ne_eq, Nat.reduceEqDiff, not_false_eq_true, Bool.false_eq_true, bi_t, bi_f, Bool.and_true, Bool.true_and, Bool.and_false, Bool.false_and, e1_11, c242_27, c249_28] at hQ; with_reducible exact hQ) | (simp (decide := true) only [oFit, ↓reduceIte, sw_eq, sw_ne, ne_eq, Nat.reduceEqDiff, not_false_eq_true, Bool.false_eq_true, bi_t, bi_f, Bool.and_true, Bool.true_and, Bool.and_false, Bool.false_and, e1_11, c242_27, c249_28] at hQ ⊢; with_reducible exact hQ)
  by_cases e1_12 : x1 = 12
  · refine aj_tsIn (tgt := 258) (off := 257) dX5_operandsFit_1 (by rw [e1_12]; decide) (by rw [e1_12]; decide) (by rw [e1_12]; rfl) (by decide) ?_
    refine aj_aload_n (q := 259) (i := 0) dX5_operandsFit_258 rfl rfl rfl ?_
    refine aj_iload_n (q := 260) (i := 2) dX5_operandsFit_259 rfl rfl rfl ?_
    refine aj_callV (q := 263) (As := [_]) cl_X5_44 mk_X5_has dX5_operandsFit_260 rfl lR_17 rfl rfl (Nat.le_of_ble_eq_true rfl) (sp_X5_has ?_)
    refine aj_ifB_eq (q := 266) (tgt := 278) dX5_operandsFit_263 rfl (by decide) (fun c263_29 => ?_) (fun c263_29 => ?_)
    · refine aj_iconst (q := 279) (v := 0) dX5_operandsFit_278 rfl (by decide) ?_
      refine aj_zreturn dX5_operandsFit_279 rfl (by first | exact bi_nar _ | decide) ?_
      skip; subst ex1
      first | contradiction | with_reducible exact hQ | (simp (decide := true) only [oFit, ↓reduceIte, sw_eq, sw_ne, ne_eq, Nat.reduceEqDiff, not_false_eq_true, Bool.false_eq_true, bi_t, bi_f, Bool.and_true, Bool.true_and, Bool.and_false, Bool.false_and, e1_12, c263_29] at hQ; with_reducible exact hQ) | (simp (decide := true) only [oFit, ↓reduceIte, sw_eq, sw_ne, ne_eq, Nat.reduceEqDiff, not_false_eq_true, Bool.false_eq_true, bi_t, bi_f, Bool.and_true, Bool.true_and, Bool.and_false, Bool.false_and, e1_12, c263_29] at hQ ⊢; with_reducible exact hQ)
    · refine aj_aload_n (q := 267) (i := 0) dX5_operandsFit_266 rfl rfl rfl ?_
      refine aj_iload_n (q := 268) (i := 3) dX5_operandsFit_267 rfl rfl rfl ?_
      refine aj_callV (q := 271) (As := [_]) cl_X5_44 mk_X5_has dX5_operandsFit_268 rfl lR_17 rfl rfl (Nat.le_of_ble_eq_true rfl) (sp_X5_has ?_)
      refine aj_ifB_eq (q := 274) (tgt := 278) dX5_operandsFit_271 rfl (by decide) (fun c271_30 => ?_) (fun c271_30 => ?_)
      · refine aj_iconst (q := 279) (v := 0) dX5_operandsFit_278 rfl (by decide) ?_
        refine aj_zreturn dX5_operandsFit_279 rfl (by first | exact bi_nar _ | decide) ?_
        skip; subst ex1
        first | contradiction | with_reducible exact hQ | (simp (decide := true) only [oFit, ↓reduceIte, sw_eq, sw_ne, ne_eq, Nat.reduceEqDiff, not_false_eq_true, Bool.false_eq_true, bi_t, bi_f, Bool.and_true, Bool.true_and, Bool.and_false, Bool.false_and, e1_12, c263_29, c271_30] at hQ; with_reducible exact hQ) | (simp (decide := true) only [oFit, ↓reduceIte, sw_eq, sw_ne, ne_eq, Nat.reduceEqDiff, not_false_eq_true, Bool.false_eq_true, bi_t, bi_f, Bool.and_true, Bool.true_and, Bool.and_false, Bool.false_and, e1_12, c263_29, c271_30] at hQ ⊢; with_reducible exact hQ)
      · refine aj_iconst (q := 275) (v := 1) dX5_operandsFit_274 rfl (by decide) ?_
        refine aj_goto (tgt := 279) dX5_operandsFit_275 (by decide) ?_
        refine aj_zreturn dX5_operandsFit_279 rfl (by first | exact bi_nar _ | decide) ?_
        skip; subst ex1
        first | contradiction | with_reducible exact hQ | (simp (decide := true) only [oFit, ↓reduceIte, sw_eq, sw_ne, ne_eq, Nat.reduceEqDiff, not_false_eq_true, Bool.false_eq_true, bi_t, bi_f, Bool.and_true, Bool.true_and, Bool.and_false, Bool.false_and, e1_12, c263_29, c271_30] at hQ; with_reducible exact hQ) | (simp (decide := true) only [oFit, ↓reduceIte, sw_eq, sw_ne, ne_eq, Nat.reduceEqDiff, not_false_eq_true, Bool.false_eq_true, bi_t, bi_f, Bool.and_true, Bool.true_and, Bool.and_false, Bool.false_and, e1_12, c263_29, c271_30] at hQ ⊢; with_reducible exact hQ)
  by_cases e1_13 : x1 = 13
  · refine aj_tsIn (tgt := 280) (off := 279) dX5_operandsFit_1 (by rw [e1_13]; decide) (by rw [e1_13]; decide) (by rw [e1_13]; rfl) (by decide) ?_
    refine aj_iload_n (q := 281) (i := 2) dX5_operandsFit_280 rfl rfl rfl ?_
    refine aj_callS (q := 284) (As := [_]) cl_X5_66 mk_X5_isVariable dX5_operandsFit_281 rfl rfl (Nat.le_of_ble_eq_true rfl) (sp_X5_isVariable ?_)
    refine aj_ifB_eq (q := 287) (tgt := 308) dX5_operandsFit_284 rfl (by decide) (fun c284_31 => ?_) (fun c284_31 => ?_)
    · refine aj_iconst (q := 309) (v := 0) dX5_operandsFit_308 rfl (by decide) ?_
      refine aj_zreturn dX5_operandsFit_309 rfl (by first | exact bi_nar _ | decide) ?_
      skip; subst ex1
      first | contradiction | with_reducible exact hQ | (simp (decide := true) only [oFit, ↓reduceIte, sw_eq, sw_ne, ne_eq, Nat.reduceEqDiff, not_false_eq_true, Bool.false_eq_true, bi_t, bi_f, Bool.and_true, Bool.true_and, Bool.and_false, Bool.false_and, e1_13, c284_31] at hQ; with_reducible exact hQ) | (simp (decide := true) only [oFit, ↓reduceIte, sw_eq, sw_ne, ne_eq, Nat.reduceEqDiff, not_false_eq_true, Bool.false_eq_true, bi_t, bi_f, Bool.and_true, Bool.true_and, Bool.and_false, Bool.false_and, e1_13, c284_31] at hQ ⊢; with_reducible exact hQ)
    · refine aj_aload_n (q := 288) (i := 0) dX5_operandsFit_287 rfl rfl rfl ?_
      refine aj_iload_n (q := 289) (i := 3) dX5_operandsFit_288 rfl rfl rfl ?_
      refine aj_callV (q := 292) (As := [_]) cl_X5_44 mk_X5_has dX5_operandsFit_289 rfl lR_17 rfl rfl (Nat.le_of_ble_eq_true rfl) (sp_X5_has ?_)
      refine aj_ifB_eq (q := 295) (tgt := 308) dX5_operandsFit_292 rfl (by decide) (fun c292_32 => ?_) (fun c292_32 => ?_)
      · refine aj_iconst (q := 309) (v := 0) dX5_operandsFit_308 rfl (by decide) ?_
        refine aj_zreturn dX5_operandsFit_309 rfl (by first | exact bi_nar _ | decide) ?_
        skip; subst ex1
        first | contradiction | with_reducible exact hQ | (simp (decide := true) only [oFit, ↓reduceIte, sw_eq, sw_ne, ne_eq, Nat.reduceEqDiff, not_false_eq_true, Bool.false_eq_true, bi_t, bi_f, Bool.and_true, Bool.true_and, Bool.and_false, Bool.false_and, e1_13, c284_31, c292_32] at hQ; with_reducible exact hQ) | (simp (decide := true) only [oFit, ↓reduceIte, sw_eq, sw_ne, ne_eq, Nat.reduceEqDiff, not_false_eq_true, Bool.false_eq_true, bi_t, bi_f, Bool.and_true, Bool.true_and, Bool.and_false, Bool.false_and, e1_13, c284_31, c292_32] at hQ ⊢; with_reducible exact hQ)
      · refine aj_aload_n (q := 296) (i := 0) dX5_operandsFit_295 rfl rfl rfl ?_
        refine aj_iload (q := 298) (i := 4) dX5_operandsFit_296 rfl rfl ?_
        refine aj_callV (q := 301) (As := [_]) cl_X5_44 mk_X5_has dX5_operandsFit_298 rfl lR_17 rfl rfl (Nat.le_of_ble_eq_true rfl) (sp_X5_has ?_)
        refine aj_ifB_eq (q := 304) (tgt := 308) dX5_operandsFit_301 rfl (by decide) (fun c301_33 => ?_) (fun c301_33 => ?_)
        · refine aj_iconst (q := 309) (v := 0) dX5_operandsFit_308 rfl (by decide) ?_
          refine aj_zreturn dX5_operandsFit_309 rfl (by first | exact bi_nar _ | decide) ?_
          skip; subst ex1
          first | contradiction | with_reducible exact hQ | (simp (decide := true) only [oFit, ↓reduceIte, sw_eq, sw_ne, ne_eq, Nat.reduceEqDiff, not_false_eq_true, Bool.false_eq_true, bi_t, bi_f, Bool.and_true, Bool.true_and, Bool.and_false, Bool.false_and, e1_13, c284_31, c292_32, c301_33] at hQ; with_reducible exact hQ) | (simp (decide := true) only [oFit, ↓reduceIte, sw_eq, sw_ne, ne_eq, Nat.reduceEqDiff, not_false_eq_true, Bool.false_eq_true, bi_t, bi_f, Bool.and_true, Bool.true_and, Bool.and_false, Bool.false_and, e1_13, c284_31, c292_32, c301_33] at hQ ⊢; with_reducible exact hQ)
        · refine aj_iconst (q := 305) (v := 1) dX5_operandsFit_304 rfl (by decide) ?_
          refine aj_goto (tgt := 309) dX5_operandsFit_305 (by decide) ?_
          refine aj_zreturn dX5_operandsFit_309 rfl (by first | exact bi_nar _ | decide) ?_
          skip; subst ex1
          first | contradiction | with_reducible exact hQ | (simp (decide := true) only [oFit, ↓reduceIte, sw_eq, sw_ne, ne_eq, Nat.reduceEqDiff, not_false_eq_true, Bool.false_eq_true, bi_t, bi_f, Bool.and_true, Bool.true_and, Bool.and_false, Bool.false_and, e1_13, c284_31, c292_32, c301_33] at hQ; with_reducible exact hQ) | (simp (decide := true) only [oFit, ↓reduceIte, sw_eq, sw_ne, ne_eq, Nat.reduceEqDiff, not_false_eq_true, Bool.false_eq_true, bi_t, bi_f, Bool.and_true, Bool.true_and, Bool.and_false, Bool.false_and, e1_13, c284_31, c292_32, c301_33] at hQ ⊢; with_reducible exact hQ)
  by_cases e1_14 : x1 = 14
  · refine aj_tsIn (tgt := 310) (off := 309) dX5_operandsFit_1 (by rw [e1_14]; decide) (by rw [e1_14]; decide) (by rw [e1_14]; rfl) (by decide) ?_
    refine aj_iload_n (q := 311) (i := 2) dX5_operandsFit_310 rfl rfl rfl ?_
    refine aj_callS (q := 314) (As := [_]) cl_X5_66 mk_X5_isVariable dX5_operandsFit_311 rfl rfl (Nat.le_of_ble_eq_true rfl) (sp_X5_isVariable ?_)
    refine aj_ifB_eq (q := 317) (tgt := 329) dX5_operandsFit_314 rfl (by decide) (fun c314_34 => ?_) (fun c314_34 => ?_)
    · refine aj_iconst (q := 330) (v := 0) dX5_operandsFit_329 rfl (by decide) ?_
      refine aj_zreturn dX5_operandsFit_330 rfl (by first | exact bi_nar _ | decide) ?_
      skip; subst ex1
      first | contradiction | with_reducible exact hQ | (simp (decide := true) only [oFit, ↓reduceIte, sw_eq, sw_ne, ne_eq, Nat.reduceEqDiff, not_false_eq_true, Bool.false_eq_true, bi_t, bi_f, Bool.and_true, Bool.true_and, Bool.and_false, Bool.false_and, e1_14, c314_34] at hQ; with_reducible exact hQ) | (simp (decide := true) only [oFit, ↓reduceIte, sw_eq, sw_ne, ne_eq, Nat.reduceEqDiff, not_false_eq_true, Bool.false_eq_true, bi_t, bi_f, Bool.and_true, Bool.true_and, Bool.and_false, Bool.false_and, e1_14, c314_34] at hQ ⊢; with_reducible exact hQ)
    · refine aj_aload_n (q := 318) (i := 0) dX5_operandsFit_317 rfl rfl rfl ?_
      refine aj_iload_n (q := 319) (i := 3) dX5_operandsFit_318 rfl rfl rfl ?_
      refine aj_callV (q := 322) (As := [_]) cl_X5_44 mk_X5_has dX5_operandsFit_319 rfl lR_17 rfl rfl (Nat.le_of_ble_eq_true rfl) (sp_X5_has ?_)
      refine aj_ifB_eq (q := 325) (tgt := 329) dX5_operandsFit_322 rfl (by decide) (fun c322_35 => ?_) (fun c322_35 => ?_)
      · refine aj_iconst (q := 330) (v := 0) dX5_operandsFit_329 rfl (by decide) ?_
        refine aj_zreturn dX5_operandsFit_330 rfl (by first | exact bi_nar _ | decide) ?_
        skip; subst ex1
        first | contradiction | with_reducible exact hQ | (simp (decide := true) only [oFit, ↓reduceIte, sw_eq, sw_ne, ne_eq, Nat.reduceEqDiff, not_false_eq_true, Bool.false_eq_true, bi_t, bi_f, Bool.and_true, Bool.true_and, Bool.and_false, Bool.false_and, e1_14, c314_34, c322_35] at hQ; with_reducible exact hQ) | (simp (decide := true) only [oFit, ↓reduceIte, sw_eq, sw_ne, ne_eq, Nat.reduceEqDiff, not_false_eq_true, Bool.false_eq_true, bi_t, bi_f, Bool.and_true, Bool.true_and, Bool.and_false, Bool.false_and, e1_14, c314_34, c322_35] at hQ ⊢; with_reducible exact hQ)
      · refine aj_iconst (q := 326) (v := 1) dX5_operandsFit_325 rfl (by decide) ?_
        refine aj_goto (tgt := 330) dX5_operandsFit_326 (by decide) ?_
        refine aj_zreturn dX5_operandsFit_330 rfl (by first | exact bi_nar _ | decide) ?_
        skip; subst ex1
        first | contradiction | with_reducible exact hQ | (simp (decide := true) only [oFit, ↓reduceIte, sw_eq, sw_ne, ne_eq, Nat.reduceEqDiff, not_false_eq_true, Bool.false_eq_true, bi_t, bi_f, Bool.and_true, Bool.true_and, Bool.and_false, Bool.false_and, e1_14, c314_34, c322_35] at hQ; with_reducible exact hQ) | (simp (decide := true) only [oFit, ↓reduceIte, sw_eq, sw_ne, ne_eq, Nat.reduceEqDiff, not_false_eq_true, Bool.false_eq_true, bi_t, bi_f, Bool.and_true, Bool.true_and, Bool.and_false, Bool.false_and, e1_14, c314_34, c322_35] at hQ ⊢; with_reducible exact hQ)
  by_cases e1_15 : x1 = 15
  · refine aj_tsIn (tgt := 331) (off := 330) dX5_operandsFit_1 (by rw [e1_15]; decide) (by rw [e1_15]; decide) (by rw [e1_15]; rfl) (by decide) ?_
    refine aj_iload_n (q := 332) (i := 2) dX5_operandsFit_331 rfl rfl rfl ?_
    refine aj_bipush (q := 334) (v := 8) dX5_operandsFit_332 rfl (by decide) ?_
    refine aj_callS (q := 337) (As := [_, _]) cl_X5_40 mk_X9_isBelow dX5_operandsFit_334 rfl rfl (Nat.le_of_ble_eq_true rfl) (sp_isBelow ?_)
    refine aj_zreturn dX5_operandsFit_337 rfl (by first | exact bi_nar _ | decide) ?_
    skip; subst ex1
    first | contradiction | with_reducible exact hQ | (simp (decide := true) only [oFit, ↓reduceIte, sw_eq, sw_ne, ne_eq, Nat.reduceEqDiff, not_false_eq_true, Bool.false_eq_true, bi_t, bi_f, Bool.and_true, Bool.true_and, Bool.and_false, Bool.false_and, e1_15] at hQ; with_reducible exact hQ) | (simp (decide := true) only [oFit, ↓reduceIte, sw_eq, sw_ne, ne_eq, Nat.reduceEqDiff, not_false_eq_true, Bool.false_eq_true, bi_t, bi_f, Bool.and_true, Bool.true_and, Bool.and_false, Bool.false_and, e1_15] at hQ ⊢; with_reducible exact hQ)
  by_cases e1_16 : x1 = 16
  · refine aj_tsIn (tgt := 104) (off := 103) dX5_operandsFit_1 (by rw [e1_16]; decide) (by rw [e1_16]; decide) (by rw [e1_16]; rfl) (by decide) ?_
    refine aj_iload_n (q := 105) (i := 2) dX5_operandsFit_104 rfl rfl rfl ?_
    refine aj_callS (q := 108) (As := [_]) cl_X5_66 mk_X5_isVariable dX5_operandsFit_105 rfl rfl (Nat.le_of_ble_eq_true rfl) (sp_X5_isVariable ?_)
    refine aj_zreturn dX5_operandsFit_108 rfl (by first | exact bi_nar _ | decide) ?_
    skip; subst ex1
    first | contradiction | with_reducible exact hQ | (simp (decide := true) only [oFit, ↓reduceIte, sw_eq, sw_ne, ne_eq, Nat.reduceEqDiff, not_false_eq_true, Bool.false_eq_true, bi_t, bi_f, Bool.and_true, Bool.true_and, Bool.and_false, Bool.false_and, e1_16] at hQ; with_reducible exact hQ) | (simp (decide := true) only [oFit, ↓reduceIte, sw_eq, sw_ne, ne_eq, Nat.reduceEqDiff, not_false_eq_true, Bool.false_eq_true, bi_t, bi_f, Bool.and_true, Bool.true_and, Bool.and_false, Bool.false_and, e1_16] at hQ ⊢; with_reducible exact hQ)
  by_cases e1_17 : x1 = 17
  · refine aj_tsIn (tgt := 104) (off := 103) dX5_operandsFit_1 (by rw [e1_17]; decide) (by rw [e1_17]; decide) (by rw [e1_17]; rfl) (by decide) ?_
    refine aj_iload_n (q := 105) (i := 2) dX5_operandsFit_104 rfl rfl rfl ?_
    refine aj_callS (q := 108) (As := [_]) cl_X5_66 mk_X5_isVariable dX5_operandsFit_105 rfl rfl (Nat.le_of_ble_eq_true rfl) (sp_X5_isVariable ?_)
    refine aj_zreturn dX5_operandsFit_108 rfl (by first | exact bi_nar _ | decide) ?_
    skip; subst ex1
    first | contradiction | with_reducible exact hQ | (simp (decide := true) only [oFit, ↓reduceIte, sw_eq, sw_ne, ne_eq, Nat.reduceEqDiff, not_false_eq_true, Bool.false_eq_true, bi_t, bi_f, Bool.and_true, Bool.true_and, Bool.and_false, Bool.false_and, e1_17] at hQ; with_reducible exact hQ) | (simp (decide := true) only [oFit, ↓reduceIte, sw_eq, sw_ne, ne_eq, Nat.reduceEqDiff, not_false_eq_true, Bool.false_eq_true, bi_t, bi_f, Bool.and_true, Bool.true_and, Bool.and_false, Bool.false_and, e1_17] at hQ ⊢; with_reducible exact hQ)
  by_cases e1_18 : x1 = 18
  · refine aj_tsIn (tgt := 338) (off := 337) dX5_operandsFit_1 (by rw [e1_18]; decide) (by rw [e1_18]; decide) (by rw [e1_18]; rfl) (by decide) ?_
    refine aj_aload_n (q := 339) (i := 0) dX5_operandsFit_338 rfl rfl rfl ?_
    refine aj_iload_n (q := 340) (i := 2) dX5_operandsFit_339 rfl rfl rfl ?_
    refine aj_callV (q := 343) (As := [_]) cl_X5_44 mk_X5_has dX5_operandsFit_340 rfl lR_17 rfl rfl (Nat.le_of_ble_eq_true rfl) (sp_X5_has ?_)
    refine aj_ifB_eq (q := 346) (tgt := 369) dX5_operandsFit_343 rfl (by decide) (fun c343_36 => ?_) (fun c343_36 => ?_)
    · refine aj_iconst (q := 370) (v := 0) dX5_operandsFit_369 rfl (by decide) ?_
      refine aj_zreturn dX5_operandsFit_370 rfl (by first | exact bi_nar _ | decide) ?_
      skip; subst ex1
      first | contradiction | with_reducible exact hQ | (simp (decide := true) only [oFit, ↓reduceIte, sw_eq, sw_ne, ne_eq, Nat.reduceEqDiff, not_false_eq_true, Bool.false_eq_true, bi_t, bi_f, Bool.and_true, Bool.true_and, Bool.and_false, Bool.false_and, e1_18, c343_36] at hQ; with_reducible exact hQ) | (simp (decide := true) only [oFit, ↓reduceIte, sw_eq, sw_ne, ne_eq, Nat.reduceEqDiff, not_false_eq_true, Bool.false_eq_true, bi_t, bi_f, Bool.and_true, Bool.true_and, Bool.and_false, Bool.false_and, e1_18, c343_36] at hQ ⊢; with_reducible exact hQ)
    · refine aj_iload_n (q := 347) (i := 3) dX5_operandsFit_346 rfl rfl rfl ?_
      refine aj_sipush (q := 350) (v := 128) dX5_operandsFit_347 rfl (by decide) ?_
      refine aj_callS (q := 353) (As := [_, _]) cl_X5_40 mk_X9_isBelow dX5_operandsFit_350 rfl rfl (Nat.le_of_ble_eq_true rfl) (sp_isBelow ?_)
      refine aj_ifB_eq (q := 356) (tgt := 369) dX5_operandsFit_353 rfl (by decide) (fun c353_37 => ?_) (fun c353_37 => ?_)
      · refine aj_iconst (q := 370) (v := 0) dX5_operandsFit_369 rfl (by decide) ?_
        refine aj_zreturn dX5_operandsFit_370 rfl (by first | exact bi_nar _ | decide) ?_
        skip; subst ex1
        first | contradiction | with_reducible exact hQ | (simp (decide := true) only [oFit, ↓reduceIte, sw_eq, sw_ne, ne_eq, Nat.reduceEqDiff, not_false_eq_true, Bool.false_eq_true, bi_t, bi_f, Bool.and_true, Bool.true_and, Bool.and_false, Bool.false_and, e1_18, c343_36, c353_37] at hQ; with_reducible exact hQ) | (simp (decide := true) only [oFit, ↓reduceIte, sw_eq, sw_ne, ne_eq, Nat.reduceEqDiff, not_false_eq_true, Bool.false_eq_true, bi_t, bi_f, Bool.and_true, Bool.true_and, Bool.and_false, Bool.false_and, e1_18, c343_36, c353_37] at hQ ⊢; with_reducible exact hQ)
      · refine aj_aload_n (q := 357) (i := 0) dX5_operandsFit_356 rfl rfl rfl ?_
        refine aj_iload (q := 359) (i := 4) dX5_operandsFit_357 rfl rfl ?_
        refine aj_callV (q := 362) (As := [_]) cl_X5_44 mk_X5_has dX5_operandsFit_359 rfl lR_17 rfl rfl (Nat.le_of_ble_eq_true rfl) (sp_X5_has ?_)
        refine aj_ifB_eq (q := 365) (tgt := 369) dX5_operandsFit_362 rfl (by decide) (fun c362_38 => ?_) (fun c362_38 => ?_)
        · refine aj_iconst (q := 370) (v := 0) dX5_operandsFit_369 rfl (by decide) ?_
          refine aj_zreturn dX5_operandsFit_370 rfl (by first | exact bi_nar _ | decide) ?_
          skip; subst ex1
          first | contradiction | with_reducible exact hQ | (simp (decide := true) only [oFit, ↓reduceIte, sw_eq, sw_ne, ne_eq, Nat.reduceEqDiff, not_false_eq_true, Bool.false_eq_true, bi_t, bi_f, Bool.and_true, Bool.true_and, Bool.and_false, Bool.false_and, e1_18, c343_36, c353_37, c362_38] at hQ; with_reducible exact hQ) | (simp (decide := true) only [oFit, ↓reduceIte, sw_eq, sw_ne, ne_eq, Nat.reduceEqDiff, not_false_eq_true, Bool.false_eq_true, bi_t, bi_f, Bool.and_true, Bool.true_and, Bool.and_false, Bool.false_and, e1_18, c343_36, c353_37, c362_38] at hQ ⊢; with_reducible exact hQ)
        · refine aj_iconst (q := 366) (v := 1) dX5_operandsFit_365 rfl (by decide) ?_
          refine aj_goto (tgt := 370) dX5_operandsFit_366 (by decide) ?_
          refine aj_zreturn dX5_operandsFit_370 rfl (by first | exact bi_nar _ | decide) ?_
          skip; subst ex1
          first | contradiction | with_reducible exact hQ | (simp (decide := true) only [oFit, ↓reduceIte, sw_eq, sw_ne, ne_eq, Nat.reduceEqDiff, not_false_eq_true, Bool.false_eq_true, bi_t, bi_f, Bool.and_true, Bool.true_and, Bool.and_false, Bool.false_and, e1_18, c343_36, c353_37, c362_38] at hQ; with_reducible exact hQ) | (simp (decide := true) only [oFit, ↓reduceIte, sw_eq, sw_ne, ne_eq, Nat.reduceEqDiff, not_false_eq_true, Bool.false_eq_true, bi_t, bi_f, Bool.and_true, Bool.true_and, Bool.and_false, Bool.false_and, e1_18, c343_36, c353_37, c362_38] at hQ ⊢; with_reducible exact hQ)
  by_cases e1_19 : x1 = 19
  · refine aj_tsIn (tgt := 258) (off := 257) dX5_operandsFit_1 (by rw [e1_19]; decide) (by rw [e1_19]; decide) (by rw [e1_19]; rfl) (by decide) ?_
    refine aj_aload_n (q := 259) (i := 0) dX5_operandsFit_258 rfl rfl rfl ?_
    refine aj_iload_n (q := 260) (i := 2) dX5_operandsFit_259 rfl rfl rfl ?_
    refine aj_callV (q := 263) (As := [_]) cl_X5_44 mk_X5_has dX5_operandsFit_260 rfl lR_17 rfl rfl (Nat.le_of_ble_eq_true rfl) (sp_X5_has ?_)
    refine aj_ifB_eq (q := 266) (tgt := 278) dX5_operandsFit_263 rfl (by decide) (fun c263_39 => ?_) (fun c263_39 => ?_)
    · refine aj_iconst (q := 279) (v := 0) dX5_operandsFit_278 rfl (by decide) ?_
      refine aj_zreturn dX5_operandsFit_279 rfl (by first | exact bi_nar _ | decide) ?_
      skip; subst ex1
      first | contradiction | with_reducible exact hQ | (simp (decide := true) only [oFit, ↓reduceIte, sw_eq, sw_ne, ne_eq, Nat.reduceEqDiff, not_false_eq_true, Bool.false_eq_true, bi_t, bi_f, Bool.and_true, Bool.true_and, Bool.and_false, Bool.false_and, e1_19, c263_39] at hQ; with_reducible exact hQ) | (simp (decide := true) only [oFit, ↓reduceIte, sw_eq, sw_ne, ne_eq, Nat.reduceEqDiff, not_false_eq_true, Bool.false_eq_true, bi_t, bi_f, Bool.and_true, Bool.true_and, Bool.and_false, Bool.false_and, e1_19, c263_39] at hQ ⊢; with_reducible exact hQ)
    · refine aj_aload_n (q := 267) (i := 0) dX5_operandsFit_266 rfl rfl rfl ?_
      refine aj_iload_n (q := 268) (i := 3) dX5_operandsFit_267 rfl rfl rfl ?_
      refine aj_callV (q := 271) (As := [_]) cl_X5_44 mk_X5_has dX5_operandsFit_268 rfl lR_17 rfl rfl (Nat.le_of_ble_eq_true rfl) (sp_X5_has ?_)
      refine aj_ifB_eq (q := 274) (tgt := 278) dX5_operandsFit_271 rfl (by decide) (fun c271_40 => ?_) (fun c271_40 => ?_)
      · refine aj_iconst (q := 279) (v := 0) dX5_operandsFit_278 rfl (by decide) ?_
        refine aj_zreturn dX5_operandsFit_279 rfl (by first | exact bi_nar _ | decide) ?_
        skip; subst ex1
        first | contradiction | with_reducible exact hQ | (simp (decide := true) only [oFit, ↓reduceIte, sw_eq, sw_ne, ne_eq, Nat.reduceEqDiff, not_false_eq_true, Bool.false_eq_true, bi_t, bi_f, Bool.and_true, Bool.true_and, Bool.and_false, Bool.false_and, e1_19, c263_39, c271_40] at hQ; with_reducible exact hQ) | (simp (decide := true) only [oFit, ↓reduceIte, sw_eq, sw_ne, ne_eq, Nat.reduceEqDiff, not_false_eq_true, Bool.false_eq_true, bi_t, bi_f, Bool.and_true, Bool.true_and, Bool.and_false, Bool.false_and, e1_19, c263_39, c271_40] at hQ ⊢; with_reducible exact hQ)
      · refine aj_iconst (q := 275) (v := 1) dX5_operandsFit_274 rfl (by decide) ?_
        refine aj_goto (tgt := 279) dX5_operandsFit_275 (by decide) ?_
        refine aj_zreturn dX5_operandsFit_279 rfl (by first | exact bi_nar _ | decide) ?_
        skip; subst ex1
        first | contradiction | with_reducible exact hQ | (simp (decide := true) only [oFit, ↓reduceIte, sw_eq, sw_ne, ne_eq, Nat.reduceEqDiff, not_false_eq_true, Bool.false_eq_true, bi_t, bi_f, Bool.and_true, Bool.true_and, Bool.and_false, Bool.false_and, e1_19, c263_39, c271_40] at hQ; with_reducible exact hQ) | (simp (decide := true) only [oFit, ↓reduceIte, sw_eq, sw_ne, ne_eq, Nat.reduceEqDiff, not_false_eq_true, Bool.false_eq_true, bi_t, bi_f, Bool.and_true, Bool.true_and, Bool.and_false, Bool.false_and, e1_19, c263_39, c271_40] at hQ ⊢; with_reducible exact hQ)
  by_cases e1_20 : x1 = 20
  · refine aj_tsIn (tgt := 371) (off := 370) dX5_operandsFit_1 (by rw [e1_20]; decide) (by rw [e1_20]; decide) (by rw [e1_20]; rfl) (by decide) ?_
    refine aj_iload_n (q := 372) (i := 2) dX5_operandsFit_371 rfl rfl rfl ?_
    refine aj_iconst (q := 373) (v := 4) dX5_operandsFit_372 rfl (by decide) ?_
    refine aj_callS (q := 376) (As := [_, _]) cl_X5_40 mk_X9_isBelow dX5_operandsFit_373 rfl rfl (Nat.le_of_ble_eq_true rfl) (sp_isBelow ?_)
    refine aj_ifB_eq (q := 379) (tgt := 391) dX5_operandsFit_376 rfl (by decide) (fun c376_41 => ?_) (fun c376_41 => ?_)
    · refine aj_iconst (q := 392) (v := 0) dX5_operandsFit_391 rfl (by decide) ?_
      refine aj_zreturn dX5_operandsFit_392 rfl (by first | exact bi_nar _ | decide) ?_
      skip; subst ex1
      first | contradiction | with_reducible exact hQ | (simp (decide := true) only [oFit, ↓reduceIte, sw_eq, sw_ne, ne_eq, Nat.reduceEqDiff, not_false_eq_true, Bool.false_eq_true, bi_t, bi_f, Bool.and_true, Bool.true_and, Bool.and_false, Bool.false_and, e1_20, c376_41] at hQ; with_reducible exact hQ) | (simp (decide := true) only [oFit, ↓reduceIte, sw_eq, sw_ne, ne_eq, Nat.reduceEqDiff, not_false_eq_true, Bool.false_eq_true, bi_t, bi_f, Bool.and_true, Bool.true_and, Bool.and_false, Bool.false_and, e1_20, c376_41] at hQ ⊢; with_reducible exact hQ)
    · refine aj_aload_n (q := 380) (i := 0) dX5_operandsFit_379 rfl rfl rfl ?_
      refine aj_iload_n (q := 381) (i := 3) dX5_operandsFit_380 rfl rfl rfl ?_
      refine aj_callV (q := 384) (As := [_]) cl_X5_44 mk_X5_has dX5_operandsFit_381 rfl lR_17 rfl rfl (Nat.le_of_ble_eq_true rfl) (sp_X5_has ?_)
      refine aj_ifB_eq (q := 387) (tgt := 391) dX5_operandsFit_384 rfl (by decide) (fun c384_42 => ?_) (fun c384_42 => ?_)
      · refine aj_iconst (q := 392) (v := 0) dX5_operandsFit_391 rfl (by decide) ?_
        refine aj_zreturn dX5_operandsFit_392 rfl (by first | exact bi_nar _ | decide) ?_
        skip; subst ex1
        first | contradiction | with_reducible exact hQ | (simp (decide := true) only [oFit, ↓reduceIte, sw_eq, sw_ne, ne_eq, Nat.reduceEqDiff, not_false_eq_true, Bool.false_eq_true, bi_t, bi_f, Bool.and_true, Bool.true_and, Bool.and_false, Bool.false_and, e1_20, c376_41, c384_42] at hQ; with_reducible exact hQ) | (simp (decide := true) only [oFit, ↓reduceIte, sw_eq, sw_ne, ne_eq, Nat.reduceEqDiff, not_false_eq_true, Bool.false_eq_true, bi_t, bi_f, Bool.and_true, Bool.true_and, Bool.and_false, Bool.false_and, e1_20, c376_41, c384_42] at hQ ⊢; with_reducible exact hQ)
      · refine aj_iconst (q := 388) (v := 1) dX5_operandsFit_387 rfl (by decide) ?_
        refine aj_goto (tgt := 392) dX5_operandsFit_388 (by decide) ?_
        refine aj_zreturn dX5_operandsFit_392 rfl (by first | exact bi_nar _ | decide) ?_
        skip; subst ex1
        first | contradiction | with_reducible exact hQ | (simp (decide := true) only [oFit, ↓reduceIte, sw_eq, sw_ne, ne_eq, Nat.reduceEqDiff, not_false_eq_true, Bool.false_eq_true, bi_t, bi_f, Bool.and_true, Bool.true_and, Bool.and_false, Bool.false_and, e1_20, c376_41, c384_42] at hQ; with_reducible exact hQ) | (simp (decide := true) only [oFit, ↓reduceIte, sw_eq, sw_ne, ne_eq, Nat.reduceEqDiff, not_false_eq_true, Bool.false_eq_true, bi_t, bi_f, Bool.and_true, Bool.true_and, Bool.and_false, Bool.false_and, e1_20, c376_41, c384_42] at hQ ⊢; with_reducible exact hQ)
  by_cases e1_21 : x1 = 21
  · refine aj_tsIn (tgt := 104) (off := 103) dX5_operandsFit_1 (by rw [e1_21]; decide) (by rw [e1_21]; decide) (by rw [e1_21]; rfl) (by decide) ?_
    refine aj_iload_n (q := 105) (i := 2) dX5_operandsFit_104 rfl rfl rfl ?_
    refine aj_callS (q := 108) (As := [_]) cl_X5_66 mk_X5_isVariable dX5_operandsFit_105 rfl rfl (Nat.le_of_ble_eq_true rfl) (sp_X5_isVariable ?_)
    refine aj_zreturn dX5_operandsFit_108 rfl (by first | exact bi_nar _ | decide) ?_
    skip; subst ex1
    first | contradiction | with_reducible exact hQ | (simp (decide := true) only [oFit, ↓reduceIte, sw_eq, sw_ne, ne_eq, Nat.reduceEqDiff, not_false_eq_true, Bool.false_eq_true, bi_t, bi_f, Bool.and_true, Bool.true_and, Bool.and_false, Bool.false_and, e1_21] at hQ; with_reducible exact hQ) | (simp (decide := true) only [oFit, ↓reduceIte, sw_eq, sw_ne, ne_eq, Nat.reduceEqDiff, not_false_eq_true, Bool.false_eq_true, bi_t, bi_f, Bool.and_true, Bool.true_and, Bool.and_false, Bool.false_and, e1_21] at hQ ⊢; with_reducible exact hQ)
  refine aj_tsOut (tgt := 393) dX5_operandsFit_1 (by have := And.intro trivial trivial; have z0 := lv_neT (a := 0) e1_0 rfl; have z1 := lv_neT (a := 1) e1_1 rfl; have z2 := lv_neT (a := 2) e1_2 rfl; have z3 := lv_neT (a := 3) e1_3 rfl; have z4 := lv_neT (a := 4) e1_4 rfl; have z5 := lv_neT (a := 5) e1_5 rfl; have z6 := lv_neT (a := 6) e1_6 rfl; have z7 := lv_neT (a := 7) e1_7 rfl; have z8 := lv_neT (a := 8) e1_8 rfl; have z9 := lv_neT (a := 9) e1_9 rfl; have z10 := lv_neT (a := 10) e1_10 rfl; have z11 := lv_neT (a := 11) e1_11 rfl; have z12 := lv_neT (a := 12) e1_12 rfl; have z13 := lv_neT (a := 13) e1_13 rfl; have z14 := lv_neT (a := 14) e1_14 rfl; have z15 := lv_neT (a := 15) e1_15 rfl; have z16 := lv_neT (a := 16) e1_16 rfl; have z17 := lv_neT (a := 17) e1_17 rfl; have z18 := lv_neT (a := 18) e1_18 rfl; have z19 := lv_neT (a := 19) e1_19 rfl; have z20 := lv_neT (a := 20) e1_20 rfl; have z21 := lv_neT (a := 21) e1_21 rfl; omega) (by decide) ?_
  refine aj_iconst (q := 394) (v := 0) dX5_operandsFit_393 rfl (by decide) ?_
  refine aj_zreturn dX5_operandsFit_394 rfl (by first | exact bi_nar _ | decide) ?_
  skip; subst ex1
  first | contradiction | with_reducible exact hQ | (simp (decide := true) only [oFit, ↓reduceIte, sw_eq, sw_ne, ne_eq, Nat.reduceEqDiff, not_false_eq_true, Bool.false_eq_true, bi_t, bi_f, Bool.and_true, Bool.true_and, Bool.and_false, Bool.false_and, e1_0, e1_1, e1_2, e1_3, e1_4, e1_5, e1_6, e1_7, e1_8, e1_9, e1_10, e1_11, e1_12, e1_13, e1_14, e1_15, e1_16, e1_17, e1_18, e1_19, e1_20, e1_21] at hQ; with_reducible exact hQ) | (simp (decide := true) only [oFit, ↓reduceIte, sw_eq, sw_ne, ne_eq, Nat.reduceEqDiff, not_false_eq_true, Bool.false_eq_true, bi_t, bi_f, Bool.and_true, Bool.true_and, Bool.and_false, Bool.false_and, e1_0, e1_1, e1_2, e1_3, e1_4, e1_5, e1_6, e1_7, e1_8, e1_9, e1_10, e1_11, e1_12, e1_13, e1_14, e1_15, e1_16, e1_17, e1_18, e1_19, e1_20, e1_21] at hQ ⊢; with_reducible exact hQ)
set_option maxRecDepth 4000 in
theorem sp_X5_heightWith {d : Nat} {S : Sx} {Q : Option Value → Sx → Prop} {t a b c : Int32} (hw : wfR S) (hQ : Q (some (.int (hWith S t a b c))) S) : CC (d + 3) kX5_heightWith layR [.ref 17, .int t, .int a, .int b, .int c] S Q := by
  refine cc_intro [some _, some _, some _, some _, some _] (by decide) (cc_cat (by rfl)) (Nat.le_of_ble_eq_true rfl) (cc_ls (by rfl)) ?_
  refine aj_iload_n (q := 1) (i := 1) dX5_heightWith_0 rfl rfl rfl ?_
  refine aj_tsn (fun x1 ex1 => ?_)
  by_cases e1_12 : x1 = 12
  · refine aj_tsIn (tgt := 52) (off := 51) dX5_heightWith_1 (by rw [e1_12]; decide) (by rw [e1_12]; decide) (by rw [e1_12]; rfl) (by decide) ?_
    refine aj_iconst (q := 53) (v := 1) dX5_heightWith_52 rfl (by decide) ?_
    refine aj_aload_n (q := 54) (i := 0) dX5_heightWith_53 rfl rfl rfl ?_
    refine aj_iload_n (q := 55) (i := 2) dX5_heightWith_54 rfl rfl rfl ?_
    refine aj_callV (q := 58) (As := [_]) cl_X5_74 mk_X5_heightOf dX5_heightWith_55 rfl lR_17 rfl rfl (Nat.le_of_ble_eq_true rfl) (sp_X5_heightOf hw ?_)
    refine aj_aload_n (q := 59) (i := 0) dX5_heightWith_58 rfl rfl rfl ?_
    refine aj_iload_n (q := 60) (i := 3) dX5_heightWith_59 rfl rfl rfl ?_
    refine aj_callV (q := 63) (As := [_]) cl_X5_74 mk_X5_heightOf dX5_heightWith_60 rfl lR_17 rfl rfl (Nat.le_of_ble_eq_true rfl) (sp_X5_heightOf hw ?_)
    refine aj_max (q := 66) cm_X5_60 dX5_heightWith_63 rfl (Nat.le_of_ble_eq_true rfl) ?_
    refine aj_iadd (q := 67) dX5_heightWith_66 rfl ?_
    refine aj_ireturn dX5_heightWith_67 rfl ?_
    skip; subst ex1
    first | contradiction | with_reducible exact hQ | (simp (decide := true) only [hWith, hOf, ↓reduceIte, sw_eq, sw_ne, ne_eq, Nat.reduceEqDiff, not_false_eq_true, Bool.false_eq_true, bi_t, bi_f, Bool.and_true, Bool.true_and, Bool.and_false, Bool.false_and, e1_12] at hQ; with_reducible exact hQ) | (simp (decide := true) only [hWith, hOf, ↓reduceIte, sw_eq, sw_ne, ne_eq, Nat.reduceEqDiff, not_false_eq_true, Bool.false_eq_true, bi_t, bi_f, Bool.and_true, Bool.true_and, Bool.and_false, Bool.false_and, e1_12] at hQ ⊢; with_reducible exact hQ)
  by_cases e1_13 : x1 = 13
  · refine aj_tsIn (tgt := 68) (off := 67) dX5_heightWith_1 (by rw [e1_13]; decide) (by rw [e1_13]; decide) (by rw [e1_13]; rfl) (by decide) ?_
    refine aj_iconst (q := 69) (v := 1) dX5_heightWith_68 rfl (by decide) ?_
    refine aj_aload_n (q := 70) (i := 0) dX5_heightWith_69 rfl rfl rfl ?_
    refine aj_iload_n (q := 71) (i := 3) dX5_heightWith_70 rfl rfl rfl ?_
    refine aj_callV (q := 74) (As := [_]) cl_X5_74 mk_X5_heightOf dX5_heightWith_71 rfl lR_17 rfl rfl (Nat.le_of_ble_eq_true rfl) (sp_X5_heightOf hw ?_)
    refine aj_aload_n (q := 75) (i := 0) dX5_heightWith_74 rfl rfl rfl ?_
    refine aj_iload (q := 77) (i := 4) dX5_heightWith_75 rfl rfl ?_
    refine aj_callV (q := 80) (As := [_]) cl_X5_74 mk_X5_heightOf dX5_heightWith_77 rfl lR_17 rfl rfl (Nat.le_of_ble_eq_true rfl) (sp_X5_heightOf hw ?_)
    refine aj_max (q := 83) cm_X5_60 dX5_heightWith_80 rfl (Nat.le_of_ble_eq_true rfl) ?_
    refine aj_iadd (q := 84) dX5_heightWith_83 rfl ?_
    refine aj_ireturn dX5_heightWith_84 rfl ?_
    skip; subst ex1
    first | contradiction | with_reducible exact hQ | (simp (decide := true) only [hWith, hOf, ↓reduceIte, sw_eq, sw_ne, ne_eq, Nat.reduceEqDiff, not_false_eq_true, Bool.false_eq_true, bi_t, bi_f, Bool.and_true, Bool.true_and, Bool.and_false, Bool.false_and, e1_13] at hQ; with_reducible exact hQ) | (simp (decide := true) only [hWith, hOf, ↓reduceIte, sw_eq, sw_ne, ne_eq, Nat.reduceEqDiff, not_false_eq_true, Bool.false_eq_true, bi_t, bi_f, Bool.and_true, Bool.true_and, Bool.and_false, Bool.false_and, e1_13] at hQ ⊢; with_reducible exact hQ)
  by_cases e1_14 : x1 = 14
  · refine aj_tsIn (tgt := 85) (off := 84) dX5_heightWith_1 (by rw [e1_14]; decide) (by rw [e1_14]; decide) (by rw [e1_14]; rfl) (by decide) ?_
    refine aj_iconst (q := 86) (v := 1) dX5_heightWith_85 rfl (by decide) ?_
    refine aj_aload_n (q := 87) (i := 0) dX5_heightWith_86 rfl rfl rfl ?_
    refine aj_iload_n (q := 88) (i := 3) dX5_heightWith_87 rfl rfl rfl ?_
    refine aj_callV (q := 91) (As := [_]) cl_X5_74 mk_X5_heightOf dX5_heightWith_88 rfl lR_17 rfl rfl (Nat.le_of_ble_eq_true rfl) (sp_X5_heightOf hw ?_)
    refine aj_iadd (q := 92) dX5_heightWith_91 rfl ?_
    refine aj_ireturn dX5_heightWith_92 rfl ?_
    skip; subst ex1
    first | contradiction | with_reducible exact hQ | (simp (decide := true) only [hWith, hOf, ↓reduceIte, sw_eq, sw_ne, ne_eq, Nat.reduceEqDiff, not_false_eq_true, Bool.false_eq_true, bi_t, bi_f, Bool.and_true, Bool.true_and, Bool.and_false, Bool.false_and, e1_14] at hQ; with_reducible exact hQ) | (simp (decide := true) only [hWith, hOf, ↓reduceIte, sw_eq, sw_ne, ne_eq, Nat.reduceEqDiff, not_false_eq_true, Bool.false_eq_true, bi_t, bi_f, Bool.and_true, Bool.true_and, Bool.and_false, Bool.false_and, e1_14] at hQ ⊢; with_reducible exact hQ)
  by_cases e1_18 : x1 = 18
  · refine aj_tsIn (tgt := 93) (off := 92) dX5_heightWith_1 (by rw [e1_18]; decide) (by rw [e1_18]; decide) (by rw [e1_18]; rfl) (by decide) ?_
    refine aj_iconst (q := 94) (v := 1) dX5_heightWith_93 rfl (by decide) ?_
    refine aj_aload_n (q := 95) (i := 0) dX5_heightWith_94 rfl rfl rfl ?_
    refine aj_iload_n (q := 96) (i := 2) dX5_heightWith_95 rfl rfl rfl ?_
    refine aj_callV (q := 99) (As := [_]) cl_X5_74 mk_X5_heightOf dX5_heightWith_96 rfl lR_17 rfl rfl (Nat.le_of_ble_eq_true rfl) (sp_X5_heightOf hw ?_)
    refine aj_aload_n (q := 100) (i := 0) dX5_heightWith_99 rfl rfl rfl ?_
    refine aj_iload (q := 102) (i := 4) dX5_heightWith_100 rfl rfl ?_
    refine aj_callV (q := 105) (As := [_]) cl_X5_74 mk_X5_heightOf dX5_heightWith_102 rfl lR_17 rfl rfl (Nat.le_of_ble_eq_true rfl) (sp_X5_heightOf hw ?_)
    refine aj_max (q := 108) cm_X5_60 dX5_heightWith_105 rfl (Nat.le_of_ble_eq_true rfl) ?_
    refine aj_iadd (q := 109) dX5_heightWith_108 rfl ?_
    refine aj_ireturn dX5_heightWith_109 rfl ?_
    skip; subst ex1
    first | contradiction | with_reducible exact hQ | (simp (decide := true) only [hWith, hOf, ↓reduceIte, sw_eq, sw_ne, ne_eq, Nat.reduceEqDiff, not_false_eq_true, Bool.false_eq_true, bi_t, bi_f, Bool.and_true, Bool.true_and, Bool.and_false, Bool.false_and, e1_18] at hQ; with_reducible exact hQ) | (simp (decide := true) only [hWith, hOf, ↓reduceIte, sw_eq, sw_ne, ne_eq, Nat.reduceEqDiff, not_false_eq_true, Bool.false_eq_true, bi_t, bi_f, Bool.and_true, Bool.true_and, Bool.and_false, Bool.false_and, e1_18] at hQ ⊢; with_reducible exact hQ)
  by_cases e1_19 : x1 = 19
  · refine aj_tsIn (tgt := 52) (off := 51) dX5_heightWith_1 (by rw [e1_19]; decide) (by rw [e1_19]; decide) (by rw [e1_19]; rfl) (by decide) ?_
    refine aj_iconst (q := 53) (v := 1) dX5_heightWith_52 rfl (by decide) ?_
    refine aj_aload_n (q := 54) (i := 0) dX5_heightWith_53 rfl rfl rfl ?_
    refine aj_iload_n (q := 55) (i := 2) dX5_heightWith_54 rfl rfl rfl ?_
    refine aj_callV (q := 58) (As := [_]) cl_X5_74 mk_X5_heightOf dX5_heightWith_55 rfl lR_17 rfl rfl (Nat.le_of_ble_eq_true rfl) (sp_X5_heightOf hw ?_)
    refine aj_aload_n (q := 59) (i := 0) dX5_heightWith_58 rfl rfl rfl ?_
    refine aj_iload_n (q := 60) (i := 3) dX5_heightWith_59 rfl rfl rfl ?_
    refine aj_callV (q := 63) (As := [_]) cl_X5_74 mk_X5_heightOf dX5_heightWith_60 rfl lR_17 rfl rfl (Nat.le_of_ble_eq_true rfl) (sp_X5_heightOf hw ?_)
    refine aj_max (q := 66) cm_X5_60 dX5_heightWith_63 rfl (Nat.le_of_ble_eq_true rfl) ?_
    refine aj_iadd (q := 67) dX5_heightWith_66 rfl ?_
    refine aj_ireturn dX5_heightWith_67 rfl ?_
    skip; subst ex1
    first | contradiction | with_reducible exact hQ | (simp (decide := true) only [hWith, hOf, ↓reduceIte, sw_eq, sw_ne, ne_eq, Nat.reduceEqDiff, not_false_eq_true, Bool.false_eq_true, bi_t, bi_f, Bool.and_true, Bool.true_and, Bool.and_false, Bool.false_and, e1_19] at hQ; with_reducible exact hQ) | (simp (decide := true) only [hWith, hOf, ↓reduceIte, sw_eq, sw_ne, ne_eq, Nat.reduceEqDiff, not_false_eq_true, Bool.false_eq_true, bi_t, bi_f, Bool.and_true, Bool.true_and, Bool.and_false, Bool.false_and, e1_19] at hQ ⊢; with_reducible exact hQ)
  by_cases e1_20 : x1 = 20
  · refine aj_tsIn (tgt := 85) (off := 84) dX5_heightWith_1 (by rw [e1_20]; decide) (by rw [e1_20]; decide) (by rw [e1_20]; rfl) (by decide) ?_
    refine aj_iconst (q := 86) (v := 1) dX5_heightWith_85 rfl (by decide) ?_
    refine aj_aload_n (q := 87) (i := 0) dX5_heightWith_86 rfl rfl rfl ?_
    refine aj_iload_n (q := 88) (i := 3) dX5_heightWith_87 rfl rfl rfl ?_
    refine aj_callV (q := 91) (As := [_]) cl_X5_74 mk_X5_heightOf dX5_heightWith_88 rfl lR_17 rfl rfl (Nat.le_of_ble_eq_true rfl) (sp_X5_heightOf hw ?_)
    refine aj_iadd (q := 92) dX5_heightWith_91 rfl ?_
    refine aj_ireturn dX5_heightWith_92 rfl ?_
    skip; subst ex1
    first | contradiction | with_reducible exact hQ | (simp (decide := true) only [hWith, hOf, ↓reduceIte, sw_eq, sw_ne, ne_eq, Nat.reduceEqDiff, not_false_eq_true, Bool.false_eq_true, bi_t, bi_f, Bool.and_true, Bool.true_and, Bool.and_false, Bool.false_and, e1_20] at hQ; with_reducible exact hQ) | (simp (decide := true) only [hWith, hOf, ↓reduceIte, sw_eq, sw_ne, ne_eq, Nat.reduceEqDiff, not_false_eq_true, Bool.false_eq_true, bi_t, bi_f, Bool.and_true, Bool.true_and, Bool.and_false, Bool.false_and, e1_20] at hQ ⊢; with_reducible exact hQ)
  by_cases e1_15 : x1 = 15
  · refine aj_tsIn (tgt := 110) (off := 109) dX5_heightWith_1 (by rw [e1_15]; decide) (by rw [e1_15]; decide) (by rw [e1_15]; rfl) (by decide) ?_
    refine aj_iconst (q := 111) (v := 1) dX5_heightWith_110 rfl (by decide) ?_
    refine aj_ireturn dX5_heightWith_111 rfl ?_
    skip; subst ex1
    first | contradiction | with_reducible exact hQ | (simp (decide := true) only [hWith, hOf, ↓reduceIte, sw_eq, sw_ne, ne_eq, Nat.reduceEqDiff, not_false_eq_true, Bool.false_eq_true, bi_t, bi_f, Bool.and_true, Bool.true_and, Bool.and_false, Bool.false_and, e1_15] at hQ; with_reducible exact hQ) | (simp (decide := true) only [hWith, hOf, ↓reduceIte, sw_eq, sw_ne, ne_eq, Nat.reduceEqDiff, not_false_eq_true, Bool.false_eq_true, bi_t, bi_f, Bool.and_true, Bool.true_and, Bool.and_false, Bool.false_and, e1_15] at hQ ⊢; with_reducible exact hQ)
  by_cases e1_16 : x1 = 16
  · refine aj_tsIn (tgt := 110) (off := 109) dX5_heightWith_1 (by rw [e1_16]; decide) (by rw [e1_16]; decide) (by rw [e1_16]; rfl) (by decide) ?_
    refine aj_iconst (q := 111) (v := 1) dX5_heightWith_110 rfl (by decide) ?_
    refine aj_ireturn dX5_heightWith_111 rfl ?_
    skip; subst ex1
    first | contradiction | with_reducible exact hQ | (simp (decide := true) only [hWith, hOf, ↓reduceIte, sw_eq, sw_ne, ne_eq, Nat.reduceEqDiff, not_false_eq_true, Bool.false_eq_true, bi_t, bi_f, Bool.and_true, Bool.true_and, Bool.and_false, Bool.false_and, e1_16] at hQ; with_reducible exact hQ) | (simp (decide := true) only [hWith, hOf, ↓reduceIte, sw_eq, sw_ne, ne_eq, Nat.reduceEqDiff, not_false_eq_true, Bool.false_eq_true, bi_t, bi_f, Bool.and_true, Bool.true_and, Bool.and_false, Bool.false_and, e1_16] at hQ ⊢; with_reducible exact hQ)
  by_cases e1_17 : x1 = 17
  · refine aj_tsIn (tgt := 110) (off := 109) dX5_heightWith_1 (by rw [e1_17]; decide) (by rw [e1_17]; decide) (by rw [e1_17]; rfl) (by decide) ?_
    refine aj_iconst (q := 111) (v := 1) dX5_heightWith_110 rfl (by decide) ?_
    refine aj_ireturn dX5_heightWith_111 rfl ?_
    skip; subst ex1
    first | contradiction | with_reducible exact hQ | (simp (decide := true) only [hWith, hOf, ↓reduceIte, sw_eq, sw_ne, ne_eq, Nat.reduceEqDiff, not_false_eq_true, Bool.false_eq_true, bi_t, bi_f, Bool.and_true, Bool.true_and, Bool.and_false, Bool.false_and, e1_17] at hQ; with_reducible exact hQ) | (simp (decide := true) only [hWith, hOf, ↓reduceIte, sw_eq, sw_ne, ne_eq, Nat.reduceEqDiff, not_false_eq_true, Bool.false_eq_true, bi_t, bi_f, Bool.and_true, Bool.true_and, Bool.and_false, Bool.false_and, e1_17] at hQ ⊢; with_reducible exact hQ)
  refine aj_tsOut (tgt := 110) dX5_heightWith_1 (by have := And.intro trivial trivial; have z0 := lv_neT (a := 12) e1_12 rfl; have z1 := lv_neT (a := 13) e1_13 rfl; have z2 := lv_neT (a := 14) e1_14 rfl; have z3 := lv_neT (a := 15) e1_15 rfl; have z4 := lv_neT (a := 16) e1_16 rfl; have z5 := lv_neT (a := 17) e1_17 rfl; have z6 := lv_neT (a := 18) e1_18 rfl; have z7 := lv_neT (a := 19) e1_19 rfl; have z8 := lv_neT (a := 20) e1_20 rfl; omega) (by decide) ?_
  refine aj_iconst (q := 111) (v := 1) dX5_heightWith_110 rfl (by decide) ?_
  refine aj_ireturn dX5_heightWith_111 rfl ?_
  skip; subst ex1
  first | contradiction | with_reducible exact hQ | (simp (decide := true) only [hWith, hOf, ↓reduceIte, sw_eq, sw_ne, ne_eq, Nat.reduceEqDiff, not_false_eq_true, Bool.false_eq_true, bi_t, bi_f, Bool.and_true, Bool.true_and, Bool.and_false, Bool.false_and, e1_12, e1_13, e1_14, e1_15, e1_16, e1_17, e1_18, e1_19, e1_20] at hQ; with_reducible exact hQ) | (simp (decide := true) only [hWith, hOf, ↓reduceIte, sw_eq, sw_ne, ne_eq, Nat.reduceEqDiff, not_false_eq_true, Bool.false_eq_true, bi_t, bi_f, Bool.and_true, Bool.true_and, Bool.and_false, Bool.false_and, e1_12, e1_13, e1_14, e1_15, e1_16, e1_17, e1_18, e1_19, e1_20] at hQ ⊢; with_reducible exact hQ)
set_option maxRecDepth 4000 in
theorem sp_X5_takes {d : Nat} {S : Sx} {Q : Option Value → Sx → Prop} {t a b c : Int32} (hw : wfR S) (hQ : Q (some (.int (bi (gTakes S t a b c)))) S) : CC (d + 4) kX5_takes layR [.ref 17, .int t, .int a, .int b, .int c] S Q := by
  refine cc_intro [some _, some _, some _, some _, some _] (by decide) (cc_cat (by rfl)) (Nat.le_of_ble_eq_true rfl) (cc_ls (by rfl)) ?_
  refine aj_aload_n (q := 1) (i := 0) dX5_takes_0 rfl rfl rfl ?_
  refine aj_iload_n (q := 2) (i := 1) dX5_takes_1 rfl rfl rfl ?_
  refine aj_iload_n (q := 3) (i := 2) dX5_takes_2 rfl rfl rfl ?_
  refine aj_iload_n (q := 4) (i := 3) dX5_takes_3 rfl rfl rfl ?_
  refine aj_iload (q := 6) (i := 4) dX5_takes_4 rfl rfl ?_
  refine aj_callV (q := 9) (As := [_, _, _, _]) cl_X5_48 mk_X5_operandsFit dX5_takes_6 rfl lR_17 rfl rfl (Nat.le_of_ble_eq_true rfl) (sp_X5_operandsFit hw ?_)
  refine aj_ifB_eq (q := 12) (tgt := 30) dX5_takes_9 rfl (by decide) (fun c9_1 => ?_) (fun c9_1 => ?_)
  · refine aj_iconst (q := 31) (v := 0) dX5_takes_30 rfl (by decide) ?_
    refine aj_zreturn dX5_takes_31 rfl (by decide) ?_
    skip
    first | contradiction | with_reducible exact hQ | (simp (decide := true) only [gTakes, ↓reduceIte, sw_eq, sw_ne, ne_eq, Nat.reduceEqDiff, not_false_eq_true, Bool.false_eq_true, bi_t, bi_f, Bool.and_true, Bool.true_and, Bool.and_false, Bool.false_and, c9_1] at hQ; with_reducible exact hQ) | (simp (decide := true) only [gTakes, ↓reduceIte, sw_eq, sw_ne, ne_eq, Nat.reduceEqDiff, not_false_eq_true, Bool.false_eq_true, bi_t, bi_f, Bool.and_true, Bool.true_and, Bool.and_false, Bool.false_and, c9_1] at hQ ⊢; with_reducible exact hQ)
  · refine aj_aload_n (q := 13) (i := 0) dX5_takes_12 rfl rfl rfl ?_
    refine aj_iload_n (q := 14) (i := 1) dX5_takes_13 rfl rfl rfl ?_
    refine aj_iload_n (q := 15) (i := 2) dX5_takes_14 rfl rfl rfl ?_
    refine aj_iload_n (q := 16) (i := 3) dX5_takes_15 rfl rfl rfl ?_
    refine aj_iload (q := 18) (i := 4) dX5_takes_16 rfl rfl ?_
    refine aj_callV (q := 21) (As := [_, _, _, _]) cl_X5_52 mk_X5_heightWith dX5_takes_18 rfl lR_17 rfl rfl (Nat.le_of_ble_eq_true rfl) (sp_X5_heightWith hw ?_)
    refine aj_bipush (q := 23) (v := 16) dX5_takes_21 rfl (by decide) ?_
    refine aj_icmp_gt (q := 26) (tgt := 30) dX5_takes_23 rfl (by decide) (fun c23_2 => ?_) (fun c23_2 => ?_)
    · refine aj_iconst (q := 31) (v := 0) dX5_takes_30 rfl (by decide) ?_
      refine aj_zreturn dX5_takes_31 rfl (by decide) ?_
      skip
      first | contradiction | with_reducible exact hQ | (simp (decide := true) only [gTakes, ↓reduceIte, sw_eq, sw_ne, ne_eq, Nat.reduceEqDiff, not_false_eq_true, Bool.false_eq_true, bi_t, bi_f, Bool.and_true, Bool.true_and, Bool.and_false, Bool.false_and, c9_1, c23_2] at hQ; with_reducible exact hQ) | (simp (decide := true) only [gTakes, ↓reduceIte, sw_eq, sw_ne, ne_eq, Nat.reduceEqDiff, not_false_eq_true, Bool.false_eq_true, bi_t, bi_f, Bool.and_true, Bool.true_and, Bool.and_false, Bool.false_and, c9_1, c23_2] at hQ ⊢; with_reducible exact hQ)
    · refine aj_iconst (q := 27) (v := 1) dX5_takes_26 rfl (by decide) ?_
      refine aj_goto (tgt := 31) dX5_takes_27 (by decide) ?_
      refine aj_zreturn dX5_takes_31 rfl (by decide) ?_
      skip
      first | contradiction | with_reducible exact hQ | (simp (decide := true) only [gTakes, ↓reduceIte, sw_eq, sw_ne, ne_eq, Nat.reduceEqDiff, not_false_eq_true, Bool.false_eq_true, bi_t, bi_f, Bool.and_true, Bool.true_and, Bool.and_false, Bool.false_and, c9_1, c23_2] at hQ; with_reducible exact hQ) | (simp (decide := true) only [gTakes, ↓reduceIte, sw_eq, sw_ne, ne_eq, Nat.reduceEqDiff, not_false_eq_true, Bool.false_eq_true, bi_t, bi_f, Bool.and_true, Bool.true_and, Bool.and_false, Bool.false_and, c9_1, c23_2] at hQ ⊢; with_reducible exact hQ)

theorem sp_X5_add {d : Nat} {S : Sx} {Q : Option Value → Sx → Prop} {t a b c : Int32} (hw : wfR S) (hf : gFull S = false) (hQ : wfR (gAdd S t a b c) → Q (some (.int (S 1706 0 + 1 - 1))) (gAdd S t a b c)) : CC (d + 4) kX5_add layR [.ref 17, .int t, .int a, .int b, .int c] S Q := by
  refine cc_intro [some _, some _, some _, some _, some _] (by decide) (cc_cat (by rfl)) (Nat.le_of_ble_eq_true rfl) (cc_ls (by rfl)) ?_
  refine aj_aload_n (q := 1) (i := 0) dX5_add_0 rfl rfl rfl ?_
  refine aj_callV (q := 4) (As := []) cl_X5_56 mk_X5_isFull dX5_add_1 rfl lR_17 rfl rfl (Nat.le_of_ble_eq_true rfl) (sp_X5_isFull ?_)
  refine aj_ifB_eq (q := 7) (tgt := 10) dX5_add_4 rfl (by decide) (fun _ => ?_) (fun c => absurd (hf.symm.trans c) (by decide))
  refine aj_aload_n (q := 11) (i := 0) dX5_add_10 rfl rfl rfl ?_
  refine aj_getR (q := 14) fl_X5_9 dX5_add_11 rfl lR_17 rfl ?_
  refine aj_aload_n (q := 15) (i := 0) dX5_add_14 rfl rfl rfl ?_
  refine aj_getI (q := 18) (f := 1706) fl_X5_36 dX5_add_15 rfl lR_17 rfl rfl ?_
  try simp only [sw_eq, sw_ne, ne_eq, Nat.reduceEqDiff, not_false_eq_true]
  refine aj_iload_n (q := 19) (i := 1) dX5_add_18 rfl rfl rfl ?_
  refine aj_iastore (q := 20) (f := 1800) okR dX5_add_19 rfl lR_18 rfl (wf_full hw hf) ?_
  refine aj_aload_n (q := 21) (i := 0) dX5_add_20 rfl rfl rfl ?_
  refine aj_getR (q := 24) fl_X5_15 dX5_add_21 rfl lR_17 rfl ?_
  refine aj_aload_n (q := 25) (i := 0) dX5_add_24 rfl rfl rfl ?_
  refine aj_getI (q := 28) (f := 1706) fl_X5_36 dX5_add_25 rfl lR_17 rfl rfl ?_
  try simp only [sw_eq, sw_ne, ne_eq, Nat.reduceEqDiff, not_false_eq_true]
  refine aj_iload_n (q := 29) (i := 2) dX5_add_28 rfl rfl rfl ?_
  refine aj_iastore (q := 30) (f := 1900) okR dX5_add_29 rfl lR_19 rfl (wf_full hw hf) ?_
  refine aj_aload_n (q := 31) (i := 0) dX5_add_30 rfl rfl rfl ?_
  refine aj_getR (q := 34) fl_X5_18 dX5_add_31 rfl lR_17 rfl ?_
  refine aj_aload_n (q := 35) (i := 0) dX5_add_34 rfl rfl rfl ?_
  refine aj_getI (q := 38) (f := 1706) fl_X5_36 dX5_add_35 rfl lR_17 rfl rfl ?_
  try simp only [sw_eq, sw_ne, ne_eq, Nat.reduceEqDiff, not_false_eq_true]
  refine aj_iload_n (q := 39) (i := 3) dX5_add_38 rfl rfl rfl ?_
  refine aj_iastore (q := 40) (f := 2000) okR dX5_add_39 rfl lR_20 rfl (wf_full hw hf) ?_
  refine aj_aload_n (q := 41) (i := 0) dX5_add_40 rfl rfl rfl ?_
  refine aj_getR (q := 44) fl_X5_21 dX5_add_41 rfl lR_17 rfl ?_
  refine aj_aload_n (q := 45) (i := 0) dX5_add_44 rfl rfl rfl ?_
  refine aj_getI (q := 48) (f := 1706) fl_X5_36 dX5_add_45 rfl lR_17 rfl rfl ?_
  try simp only [sw_eq, sw_ne, ne_eq, Nat.reduceEqDiff, not_false_eq_true]
  refine aj_iload (q := 50) (i := 4) dX5_add_48 rfl rfl ?_
  refine aj_iastore (q := 51) (f := 2100) okR dX5_add_50 rfl lR_21 rfl (wf_full hw hf) ?_
  refine aj_aload_n (q := 52) (i := 0) dX5_add_51 rfl rfl rfl ?_
  refine aj_getR (q := 55) fl_X5_24 dX5_add_52 rfl lR_17 rfl ?_
  refine aj_aload_n (q := 56) (i := 0) dX5_add_55 rfl rfl rfl ?_
  refine aj_getI (q := 59) (f := 1706) fl_X5_36 dX5_add_56 rfl lR_17 rfl rfl ?_
  try simp only [sw_eq, sw_ne, ne_eq, Nat.reduceEqDiff, not_false_eq_true]
  refine aj_aload_n (q := 60) (i := 0) dX5_add_59 rfl rfl rfl ?_
  refine aj_iload_n (q := 61) (i := 1) dX5_add_60 rfl rfl rfl ?_
  refine aj_iload_n (q := 62) (i := 2) dX5_add_61 rfl rfl rfl ?_
  refine aj_iload_n (q := 63) (i := 3) dX5_add_62 rfl rfl rfl ?_
  refine aj_iload (q := 65) (i := 4) dX5_add_63 rfl rfl ?_
  refine aj_callV (q := 68) (As := [_, _, _, _]) cl_X5_52 mk_X5_heightWith dX5_add_65 rfl lR_17 rfl rfl (Nat.le_of_ble_eq_true rfl) (sp_X5_heightWith ((((hw.sw rfl).sw rfl).sw rfl).sw rfl) ?_)
  refine aj_iastore (q := 69) (f := 2200) okR dX5_add_68 rfl lR_22 rfl (wf_full hw hf) ?_
  refine aj_aload_n (q := 70) (i := 0) dX5_add_69 rfl rfl rfl ?_
  refine aj_dup (q := 71) dX5_add_70 rfl rfl ?_
  refine aj_getI (q := 74) (f := 1706) fl_X5_36 dX5_add_71 rfl lR_17 rfl rfl ?_
  try simp only [sw_eq, sw_ne, ne_eq, Nat.reduceEqDiff, not_false_eq_true]
  refine aj_iconst (q := 75) (v := 1) dX5_add_74 rfl (by decide) ?_
  refine aj_iadd (q := 76) dX5_add_75 rfl ?_
  refine aj_putI (q := 79) (f := 1706) okR fp_X5_36 dX5_add_76 rfl lR_17 rfl rfl ?_
  refine aj_aload_n (q := 80) (i := 0) dX5_add_79 rfl rfl rfl ?_
  refine aj_getI (q := 83) (f := 1706) fl_X5_36 dX5_add_80 rfl lR_17 rfl rfl ?_
  try simp only [sw_eq, sw_ne, ne_eq, Nat.reduceEqDiff, not_false_eq_true]
  refine aj_iconst (q := 84) (v := 1) dX5_add_83 rfl (by decide) ?_
  refine aj_isub (q := 85) dX5_add_84 rfl ?_
  refine aj_ireturn dX5_add_85 rfl ?_
  exact hQ (wf_gAdd hw hf)
set_option maxRecDepth 4000 in
theorem sp_X5_loseLast {d : Nat} {S : Sx} {Q : Option Value → Sx → Prop} (hw : wfR S) (hQ : wfR (gLose S) → Q (some (.int (imax 0 (S 1706 0 - 1)))) (gLose S)) : CC (d + 1) kX5_loseLast layR [.ref 17] S Q := by
  refine cc_intro [some _] (by decide) (cc_cat (by rfl)) (Nat.le_of_ble_eq_true rfl) (cc_ls (by rfl)) ?_
  refine aj_aload_n (q := 1) (i := 0) dX5_loseLast_0 rfl rfl rfl ?_
  refine aj_iconst (q := 2) (v := 0) dX5_loseLast_1 rfl (by decide) ?_
  refine aj_aload_n (q := 3) (i := 0) dX5_loseLast_2 rfl rfl rfl ?_
  refine aj_getI (q := 6) (f := 1706) fl_X5_36 dX5_loseLast_3 rfl lR_17 rfl rfl ?_
  try simp only [sw_eq, sw_ne, ne_eq, Nat.reduceEqDiff, not_false_eq_true]
  refine aj_iconst (q := 7) (v := 1) dX5_loseLast_6 rfl (by decide) ?_
  refine aj_isub (q := 8) dX5_loseLast_7 rfl ?_
  refine aj_max (q := 11) cm_X5_60 dX5_loseLast_8 rfl (Nat.le_of_ble_eq_true rfl) ?_
  refine aj_putI (q := 14) (f := 1706) okR fp_X5_36 dX5_loseLast_11 rfl lR_17 rfl rfl ?_
  refine aj_aload_n (q := 15) (i := 0) dX5_loseLast_14 rfl rfl rfl ?_
  refine aj_getI (q := 18) (f := 1706) fl_X5_36 dX5_loseLast_15 rfl lR_17 rfl rfl ?_
  try simp only [sw_eq, sw_ne, ne_eq, Nat.reduceEqDiff, not_false_eq_true]
  refine aj_ireturn dX5_loseLast_18 rfl ?_
  exact hQ (wf_gLose hw)
/-- no METHOD from i on has the last STATEMENT -/
def gCanF (S : Sx) : Nat → Nat → Bool
  | 0, _ => true
  | t + 1, i => if S 2300 i = S 1706 0 - 1 then false else gCanF S t (i + 1)
def gCan (S : Sx) : Bool := if S 1706 0 = 0 then false else gCanF S 8 0
theorem can_loop {d : Nat} {S : Sx} {Q : Option Value → Sx → Prop} : ∀ (t i : Nat), i + t = 8 → Q (some (.int (bi (gCanF S t i)))) S → AJ d kX5_canLoseLast layR 11 [some (.ref 17), some (.int (nI i))] [] S Q := by
  intro t
  induction t with
  | zero =>
    intro i hi hQ
    obtain rfl : i = 8 := by omega
    refine aj_iload_n (q := 12) (i := 1) dX5_canLoseLast_11 rfl rfl rfl ?_
    refine aj_bipush (q := 14) (v := 8) dX5_canLoseLast_12 rfl (by decide) ?_
    refine aj_icmp_ge (q := 17) (tgt := 40) dX5_canLoseLast_14 rfl (by decide) (fun _ => ?_) (fun c => absurd (show (8 : Int32) ≤ nI 8 by decide) c)
    refine aj_iconst (q := 41) (v := 1) dX5_canLoseLast_40 rfl (by decide) ?_
    refine aj_zreturn dX5_canLoseLast_41 rfl (by decide) ?_
    exact hQ
  | succ t ih =>
    intro i hi hQ
    refine aj_iload_n (q := 12) (i := 1) dX5_canLoseLast_11 rfl rfl rfl ?_
    refine aj_bipush (q := 14) (v := 8) dX5_canLoseLast_12 rfl (by decide) ?_
    refine aj_icmp_ge (q := 17) (tgt := 40) dX5_canLoseLast_14 rfl (by decide) (fun c => absurd (show nI 8 ≤ nI i from c) (nI_ge (by omega) (by omega))) (fun _ => ?_)
    refine aj_aload_n (q := 18) (i := 0) dX5_canLoseLast_17 rfl rfl rfl ?_
    refine aj_getR (q := 21) fl_X5_27 dX5_canLoseLast_18 rfl lR_17 rfl ?_
    refine aj_iload_n (q := 22) (i := 1) dX5_canLoseLast_21 rfl rfl rfl ?_
    refine aj_iaload (q := 23) (f := 2300) dX5_canLoseLast_22 rfl lR_23 rfl (vp_in_nI (by omega) (by omega)) ?_
    try simp only [cl i]
    refine aj_aload_n (q := 24) (i := 0) dX5_canLoseLast_23 rfl rfl rfl ?_
    refine aj_getI (q := 27) (f := 1706) fl_X5_36 dX5_canLoseLast_24 rfl lR_17 rfl rfl ?_
    try simp only [cl i]
    refine aj_iconst (q := 28) (v := 1) dX5_canLoseLast_27 rfl (by decide) ?_
    refine aj_isub (q := 29) dX5_canLoseLast_28 rfl ?_
    refine aj_icmp_ne (q := 32) (tgt := 34) dX5_canLoseLast_29 rfl (by decide) (fun c29_2 => ?_) (fun c29_2 => ?_)
    · refine aj_iinc (q := 37) (i := 1) (ls' := [_, _]) dX5_canLoseLast_34 rfl rfl (nI_1 i) (by decide) rfl ?_
      refine aj_goto (tgt := 11) dX5_canLoseLast_37 (by decide) ?_
      refine ih (i + 1) (by omega) ?_
      rw [gCanF, if_neg (by assumption)] at hQ
      exact hQ
    · refine aj_iconst (q := 33) (v := 0) dX5_canLoseLast_32 rfl (by decide) ?_
      refine aj_zreturn dX5_canLoseLast_33 rfl (by decide) ?_
      rw [gCanF, if_pos (by assumption)] at hQ
      exact hQ
theorem sp_X5_canLoseLast {d : Nat} {S : Sx} {Q : Option Value → Sx → Prop} (hQ : Q (some (.int (bi (gCan S)))) S) : CC d kX5_canLoseLast layR [.ref 17] S Q := by
  refine cc_intro [some _, none] (by decide) (cc_cat (by rfl)) (Nat.le_of_ble_eq_true rfl) (cc_ls (by rfl)) ?_
  refine aj_aload_n (q := 1) (i := 0) dX5_canLoseLast_0 rfl rfl rfl ?_
  refine aj_getI (q := 4) (f := 1706) fl_X5_36 dX5_canLoseLast_1 rfl lR_17 rfl rfl ?_
  refine aj_if_ne (q := 7) (tgt := 9) dX5_canLoseLast_4 rfl (by decide) (fun c4_1 => ?_) (fun c4_1 => ?_)
  · refine aj_iconst (q := 10) (v := 0) dX5_canLoseLast_9 rfl (by decide) ?_
    refine aj_istore_n (q := 11) (i := 1) (ls' := [_, _]) dX5_canLoseLast_10 rfl rfl (by decide) rfl ?_
    refine can_loop 8 0 (by omega) ?_
    rw [gCan, if_neg (by assumption)] at hQ
    exact hQ
  · refine aj_iconst (q := 8) (v := 0) dX5_canLoseLast_7 rfl (by decide) ?_
    refine aj_zreturn dX5_canLoseLast_8 rfl (by decide) ?_
    rw [gCan, if_pos (by assumption)] at hQ
    exact hQ
def gBodF (S : Sx) : Nat → Nat → Int32 → Int32
  | 0, _, x => x
  | t + 1, i, x => gBodF S t (i + 1) (if S 2300 i = -1 then x else x + 1)
theorem bod_loop {d : Nat} {S : Sx} {Q : Option Value → Sx → Prop} : ∀ (t i : Nat) (x : Int32), i + t = 8 → Q (some (.int (gBodF S t i x))) S → AJ d kX5_bodies layR 4 [some (.ref 17), some (.int x), some (.int (nI i))] [] S Q := by
  intro t
  induction t with
  | zero =>
    intro i x hi hQ
    obtain rfl : i = 8 := by omega
    refine aj_iload_n (q := 5) (i := 2) dX5_bodies_4 rfl rfl rfl ?_
    refine aj_bipush (q := 7) (v := 8) dX5_bodies_5 rfl (by decide) ?_
    refine aj_icmp_ge (q := 10) (tgt := 29) dX5_bodies_7 rfl (by decide) (fun _ => ?_) (fun c => absurd (show (8 : Int32) ≤ nI 8 by decide) c)
    refine aj_iload_n (q := 30) (i := 1) dX5_bodies_29 rfl rfl rfl ?_
    refine aj_ireturn dX5_bodies_30 rfl ?_
    exact hQ
  | succ t ih =>
    intro i x hi hQ
    refine aj_iload_n (q := 5) (i := 2) dX5_bodies_4 rfl rfl rfl ?_
    refine aj_bipush (q := 7) (v := 8) dX5_bodies_5 rfl (by decide) ?_
    refine aj_icmp_ge (q := 10) (tgt := 29) dX5_bodies_7 rfl (by decide) (fun c => absurd (show nI 8 ≤ nI i from c) (nI_ge (by omega) (by omega))) (fun _ => ?_)
    refine aj_aload_n (q := 11) (i := 0) dX5_bodies_10 rfl rfl rfl ?_
    refine aj_getR (q := 14) fl_X5_27 dX5_bodies_11 rfl lR_17 rfl ?_
    refine aj_iload_n (q := 15) (i := 2) dX5_bodies_14 rfl rfl rfl ?_
    refine aj_iaload (q := 16) (f := 2300) dX5_bodies_15 rfl lR_23 rfl (vp_in_nI (by omega) (by omega)) ?_
    try simp only [cl i]
    refine aj_iconst (q := 17) (v := (-1)) dX5_bodies_16 rfl (by decide) ?_
    refine aj_icmp_eq (q := 20) (tgt := 23) dX5_bodies_17 rfl (by decide) (fun c17_2 => ?_) (fun c17_2 => ?_)
    · refine aj_iinc (q := 26) (i := 2) (ls' := [_, _, _]) dX5_bodies_23 rfl rfl (nI_1 i) (by decide) rfl ?_
      refine aj_goto (tgt := 4) dX5_bodies_26 (by decide) ?_
      refine ih (i + 1) _ (by omega) ?_
      rw [gBodF] at hQ
      first | (rw [if_pos (by assumption)] at hQ; exact hQ) | (rw [if_neg (by assumption)] at hQ; exact hQ)
    · refine aj_iinc (q := 23) (i := 1) (ls' := [_, _, _]) dX5_bodies_20 rfl rfl rfl (by decide) rfl ?_
      refine aj_iinc (q := 26) (i := 2) (ls' := [_, _, _]) dX5_bodies_23 rfl rfl (nI_1 i) (by decide) rfl ?_
      refine aj_goto (tgt := 4) dX5_bodies_26 (by decide) ?_
      refine ih (i + 1) _ (by omega) ?_
      rw [gBodF] at hQ
      first | (rw [if_pos (by assumption)] at hQ; exact hQ) | (rw [if_neg (by assumption)] at hQ; exact hQ)
theorem sp_X5_bodies {d : Nat} {S : Sx} {Q : Option Value → Sx → Prop} (hQ : Q (some (.int (gBodF S 8 0 0))) S) : CC d kX5_bodies layR [.ref 17] S Q := by
  refine cc_intro [some _, none, none] (by decide) (cc_cat (by rfl)) (Nat.le_of_ble_eq_true rfl) (cc_ls (by rfl)) ?_
  refine aj_iconst (q := 1) (v := 0) dX5_bodies_0 rfl (by decide) ?_
  refine aj_istore_n (q := 2) (i := 1) (ls' := [_, _, _]) dX5_bodies_1 rfl rfl (by decide) rfl ?_
  refine aj_iconst (q := 3) (v := 0) dX5_bodies_2 rfl (by decide) ?_
  refine aj_istore_n (q := 4) (i := 2) (ls' := [_, _, _]) dX5_bodies_3 rfl rfl (by decide) rfl ?_
  exact bod_loop 8 0 0 (by omega) hQ
theorem sum_loop {d : Nat} {S : Sx} {Q : Option Value → Sx → Prop} : ∀ (t i : Nat) (x : Int32), i + t = 4 → (∀ y, y = (match t with | 0 => x | 1 => x + S 1000 3 | 2 => x + S 1000 2 + S 1000 3 | 3 => x + S 1000 1 + S 1000 2 + S 1000 3 | _ => x + S 1000 0 + S 1000 1 + S 1000 2 + S 1000 3) → Q (some (.int y)) S) → AJ d kX2_sum layR 4 [some (.ref 9), some (.int x), some (.int (nI i))] [] S Q := by
  intro t
  induction t with
  | zero =>
    intro i x hi hQ
    obtain rfl : i = 4 := by omega
    refine aj_iload_n (q := 5) (i := 2) dX2_sum_4 rfl rfl rfl ?_
    refine aj_iconst (q := 6) (v := 4) dX2_sum_5 rfl (by decide) ?_
    refine aj_icmp_ge (q := 9) (tgt := 24) dX2_sum_6 rfl (by decide) (fun _ => ?_) (fun c => absurd (show (4 : Int32) ≤ nI 4 by decide) c)
    refine aj_iload_n (q := 25) (i := 1) dX2_sum_24 rfl rfl rfl ?_
    refine aj_ireturn dX2_sum_25 rfl ?_
    exact hQ _ rfl
  | succ t ih =>
    intro i x hi hQ
    refine aj_iload_n (q := 5) (i := 2) dX2_sum_4 rfl rfl rfl ?_
    refine aj_iconst (q := 6) (v := 4) dX2_sum_5 rfl (by decide) ?_
    refine aj_icmp_ge (q := 9) (tgt := 24) dX2_sum_6 rfl (by decide) (fun c => absurd (show nI 4 ≤ nI i from c) (nI_ge (by omega) (by omega))) (fun _ => ?_)
    refine aj_iload_n (q := 10) (i := 1) dX2_sum_9 rfl rfl rfl ?_
    refine aj_aload_n (q := 11) (i := 0) dX2_sum_10 rfl rfl rfl ?_
    refine aj_getR (q := 14) fl_X2_9 dX2_sum_11 rfl lR_9 rfl ?_
    refine aj_iload_n (q := 15) (i := 2) dX2_sum_14 rfl rfl rfl ?_
    refine aj_iaload (q := 16) (f := 1000) dX2_sum_15 rfl lR_10 rfl (vp_in_nI (by omega) (by omega)) ?_
    try simp only [cl i]
    refine aj_iadd (q := 17) dX2_sum_16 rfl ?_
    refine aj_istore_n (q := 18) (i := 1) (ls' := [_, _, _]) dX2_sum_17 rfl rfl (by decide) rfl ?_
    refine aj_iinc (q := 21) (i := 2) (ls' := [_, _, _]) dX2_sum_18 rfl rfl (nI_1 i) (by decide) rfl ?_
    refine aj_goto (tgt := 4) dX2_sum_21 (by decide) ?_
    refine ih (i + 1) _ (by omega) (fun y hy => hQ y ?_)
    rw [hy]
    match t, hi with
    | 0, hi => rw [show i = 3 by omega]; rfl
    | 1, hi => rw [show i = 2 by omega]; rfl
    | 2, hi => rw [show i = 1 by omega]; rfl
    | 3, hi => rw [show i = 0 by omega]; rfl
    | t + 4, hi => exact absurd hi (by omega)
theorem sp_X2_sum {d : Nat} {S : Sx} {Q : Option Value → Sx → Prop} (hQ : Q (some (.int (lSum S))) S) : CC d kX2_sum layR [.ref 9] S Q := by
  refine cc_intro [some _, none, none] (by decide) (cc_cat (by rfl)) (Nat.le_of_ble_eq_true rfl) (cc_ls (by rfl)) ?_
  refine aj_iconst (q := 1) (v := 0) dX2_sum_0 rfl (by decide) ?_
  refine aj_istore_n (q := 2) (i := 1) (ls' := [_, _, _]) dX2_sum_1 rfl rfl (by decide) rfl ?_
  refine aj_iconst (q := 3) (v := 0) dX2_sum_2 rfl (by decide) ?_
  refine aj_istore_n (q := 4) (i := 2) (ls' := [_, _, _]) dX2_sum_3 rfl rfl (by decide) rfl ?_
  refine sum_loop 4 0 0 (by omega) (fun y hy => ?_)
  rw [hy]
  exact hQ
def rTell (S : Sx) (w : Int32) : Int32 := if w = 0 then S 5 0 else if w = 1 then (if S 5 0 = 2 then S 9 0 else 0) else if w = 2 then (if S 5 0 = 2 then S 10 0 else 0) else if w = 3 then S 105 0 else if w = 4 then S 605 0 else if w = 5 then S 606 0 else if w = 6 then S 7 0 else if w = 7 then S 901 0 else if w = 8 then lSum S else -2
set_option maxRecDepth 4000 in
theorem sp_X7_tell {d : Nat} {S : Sx} {Q : Option Value → Sx → Prop} {w : Int32} (hw : wfR S) (hQ : Q (some (.int (rTell S w))) S) : CC (d + 1) kX7_tell layR [.ref 0, .int w] S Q := by
  refine cc_intro [some _, some _] (by decide) (cc_cat (by rfl)) (Nat.le_of_ble_eq_true rfl) (cc_ls (by rfl)) ?_
  refine aj_iload_n (q := 1) (i := 1) dX7_tell_0 rfl rfl rfl ?_
  refine aj_tsn (fun x1 ex1 => ?_)
  by_cases e1_0 : x1 = 0
  · refine aj_tsIn (tgt := 52) (off := 51) dX7_tell_1 (by rw [e1_0]; decide) (by rw [e1_0]; decide) (by rw [e1_0]; rfl) (by decide) ?_
    refine aj_aload_n (q := 53) (i := 0) dX7_tell_52 rfl rfl rfl ?_
    refine aj_getI (q := 56) (f := 5) fl_X7_39 dX7_tell_53 rfl lR_0 rfl rfl ?_
    try simp only [sw_eq, sw_ne, ne_eq, Nat.reduceEqDiff, not_false_eq_true]
    refine aj_ireturn dX7_tell_56 rfl ?_
    skip; subst ex1
    first | contradiction | with_reducible exact hQ | (simp (decide := true) only [rTell, ↓reduceIte, sw_eq, sw_ne, ne_eq, Nat.reduceEqDiff, not_false_eq_true, Bool.false_eq_true, bi_t, bi_f, Bool.and_true, Bool.true_and, Bool.and_false, Bool.false_and, e1_0] at hQ; with_reducible exact hQ) | (simp (decide := true) only [rTell, ↓reduceIte, sw_eq, sw_ne, ne_eq, Nat.reduceEqDiff, not_false_eq_true, Bool.false_eq_true, bi_t, bi_f, Bool.and_true, Bool.true_and, Bool.and_false, Bool.false_and, e1_0] at hQ ⊢; with_reducible exact hQ)
  by_cases e1_1 : x1 = 1
  · refine aj_tsIn (tgt := 57) (off := 56) dX7_tell_1 (by rw [e1_1]; decide) (by rw [e1_1]; decide) (by rw [e1_1]; rfl) (by decide) ?_
    refine aj_aload_n (q := 58) (i := 0) dX7_tell_57 rfl rfl rfl ?_
    refine aj_getI (q := 61) (f := 5) fl_X7_39 dX7_tell_58 rfl lR_0 rfl rfl ?_
    try simp only [sw_eq, sw_ne, ne_eq, Nat.reduceEqDiff, not_false_eq_true]
    refine aj_iconst (q := 62) (v := 2) dX7_tell_61 rfl (by decide) ?_
    refine aj_icmp_ne (q := 65) (tgt := 72) dX7_tell_62 rfl (by decide) (fun c62_2 => ?_) (fun c62_2 => ?_)
    · refine aj_iconst (q := 73) (v := 0) dX7_tell_72 rfl (by decide) ?_
      refine aj_ireturn dX7_tell_73 rfl ?_
      skip; subst ex1
      first | contradiction | with_reducible exact hQ | (simp (decide := true) only [rTell, ↓reduceIte, sw_eq, sw_ne, ne_eq, Nat.reduceEqDiff, not_false_eq_true, Bool.false_eq_true, bi_t, bi_f, Bool.and_true, Bool.true_and, Bool.and_false, Bool.false_and, e1_1, c62_2] at hQ; with_reducible exact hQ) | (simp (decide := true) only [rTell, ↓reduceIte, sw_eq, sw_ne, ne_eq, Nat.reduceEqDiff, not_false_eq_true, Bool.false_eq_true, bi_t, bi_f, Bool.and_true, Bool.true_and, Bool.and_false, Bool.false_and, e1_1, c62_2] at hQ ⊢; with_reducible exact hQ)
    · refine aj_aload_n (q := 66) (i := 0) dX7_tell_65 rfl rfl rfl ?_
      refine aj_getI (q := 69) (f := 9) fl_X7_82 dX7_tell_66 rfl lR_0 rfl rfl ?_
      try simp only [sw_eq, sw_ne, ne_eq, Nat.reduceEqDiff, not_false_eq_true]
      refine aj_goto (tgt := 73) dX7_tell_69 (by decide) ?_
      refine aj_ireturn dX7_tell_73 rfl ?_
      skip; subst ex1
      first | contradiction | with_reducible exact hQ | (simp (decide := true) only [rTell, ↓reduceIte, sw_eq, sw_ne, ne_eq, Nat.reduceEqDiff, not_false_eq_true, Bool.false_eq_true, bi_t, bi_f, Bool.and_true, Bool.true_and, Bool.and_false, Bool.false_and, e1_1, c62_2] at hQ; with_reducible exact hQ) | (simp (decide := true) only [rTell, ↓reduceIte, sw_eq, sw_ne, ne_eq, Nat.reduceEqDiff, not_false_eq_true, Bool.false_eq_true, bi_t, bi_f, Bool.and_true, Bool.true_and, Bool.and_false, Bool.false_and, e1_1, c62_2] at hQ ⊢; with_reducible exact hQ)
  by_cases e1_2 : x1 = 2
  · refine aj_tsIn (tgt := 74) (off := 73) dX7_tell_1 (by rw [e1_2]; decide) (by rw [e1_2]; decide) (by rw [e1_2]; rfl) (by decide) ?_
    refine aj_aload_n (q := 75) (i := 0) dX7_tell_74 rfl rfl rfl ?_
    refine aj_getI (q := 78) (f := 5) fl_X7_39 dX7_tell_75 rfl lR_0 rfl rfl ?_
    try simp only [sw_eq, sw_ne, ne_eq, Nat.reduceEqDiff, not_false_eq_true]
    refine aj_iconst (q := 79) (v := 2) dX7_tell_78 rfl (by decide) ?_
    refine aj_icmp_ne (q := 82) (tgt := 89) dX7_tell_79 rfl (by decide) (fun c79_3 => ?_) (fun c79_3 => ?_)
    · refine aj_iconst (q := 90) (v := 0) dX7_tell_89 rfl (by decide) ?_
      refine aj_ireturn dX7_tell_90 rfl ?_
      skip; subst ex1
      first | contradiction | with_reducible exact hQ | (simp (decide := true) only [rTell, ↓reduceIte, sw_eq, sw_ne, ne_eq, Nat.reduceEqDiff, not_false_eq_true, Bool.false_eq_true, bi_t, bi_f, Bool.and_true, Bool.true_and, Bool.and_false, Bool.false_and, e1_2, c79_3] at hQ; with_reducible exact hQ) | (simp (decide := true) only [rTell, ↓reduceIte, sw_eq, sw_ne, ne_eq, Nat.reduceEqDiff, not_false_eq_true, Bool.false_eq_true, bi_t, bi_f, Bool.and_true, Bool.true_and, Bool.and_false, Bool.false_and, e1_2, c79_3] at hQ ⊢; with_reducible exact hQ)
    · refine aj_aload_n (q := 83) (i := 0) dX7_tell_82 rfl rfl rfl ?_
      refine aj_getI (q := 86) (f := 10) fl_X7_85 dX7_tell_83 rfl lR_0 rfl rfl ?_
      try simp only [sw_eq, sw_ne, ne_eq, Nat.reduceEqDiff, not_false_eq_true]
      refine aj_goto (tgt := 90) dX7_tell_86 (by decide) ?_
      refine aj_ireturn dX7_tell_90 rfl ?_
      skip; subst ex1
      first | contradiction | with_reducible exact hQ | (simp (decide := true) only [rTell, ↓reduceIte, sw_eq, sw_ne, ne_eq, Nat.reduceEqDiff, not_false_eq_true, Bool.false_eq_true, bi_t, bi_f, Bool.and_true, Bool.true_and, Bool.and_false, Bool.false_and, e1_2, c79_3] at hQ; with_reducible exact hQ) | (simp (decide := true) only [rTell, ↓reduceIte, sw_eq, sw_ne, ne_eq, Nat.reduceEqDiff, not_false_eq_true, Bool.false_eq_true, bi_t, bi_f, Bool.and_true, Bool.true_and, Bool.and_false, Bool.false_and, e1_2, c79_3] at hQ ⊢; with_reducible exact hQ)
  by_cases e1_3 : x1 = 3
  · refine aj_tsIn (tgt := 91) (off := 90) dX7_tell_1 (by rw [e1_3]; decide) (by rw [e1_3]; decide) (by rw [e1_3]; rfl) (by decide) ?_
    refine aj_aload_n (q := 92) (i := 0) dX7_tell_91 rfl rfl rfl ?_
    refine aj_getR (q := 95) fl_X7_12 dX7_tell_92 rfl lR_0 rfl ?_
    refine aj_callV (q := 98) (As := []) cl_X7_88 mk_X4_result dX7_tell_95 rfl lR_1 rfl rfl (Nat.le_of_ble_eq_true rfl) (sp_X4_result ?_)
    refine aj_ireturn dX7_tell_98 rfl ?_
    skip; subst ex1
    first | contradiction | with_reducible exact hQ | (simp (decide := true) only [rTell, ↓reduceIte, sw_eq, sw_ne, ne_eq, Nat.reduceEqDiff, not_false_eq_true, Bool.false_eq_true, bi_t, bi_f, Bool.and_true, Bool.true_and, Bool.and_false, Bool.false_and, e1_3] at hQ; with_reducible exact hQ) | (simp (decide := true) only [rTell, ↓reduceIte, sw_eq, sw_ne, ne_eq, Nat.reduceEqDiff, not_false_eq_true, Bool.false_eq_true, bi_t, bi_f, Bool.and_true, Bool.true_and, Bool.and_false, Bool.false_and, e1_3] at hQ ⊢; with_reducible exact hQ)
  by_cases e1_4 : x1 = 4
  · refine aj_tsIn (tgt := 99) (off := 98) dX7_tell_1 (by rw [e1_4]; decide) (by rw [e1_4]; decide) (by rw [e1_4]; rfl) (by decide) ?_
    refine aj_aload_n (q := 100) (i := 0) dX7_tell_99 rfl rfl rfl ?_
    refine aj_getR (q := 103) fl_X7_21 dX7_tell_100 rfl lR_0 rfl ?_
    refine aj_callV (q := 106) (As := []) cl_X7_91 mk_X6_spentOfBudget dX7_tell_103 rfl lR_6 rfl rfl (Nat.le_of_ble_eq_true rfl) (sp_X6_spentOfBudget ?_)
    refine aj_ireturn dX7_tell_106 rfl ?_
    skip; subst ex1
    first | contradiction | with_reducible exact hQ | (simp (decide := true) only [rTell, ↓reduceIte, sw_eq, sw_ne, ne_eq, Nat.reduceEqDiff, not_false_eq_true, Bool.false_eq_true, bi_t, bi_f, Bool.and_true, Bool.true_and, Bool.and_false, Bool.false_and, e1_4] at hQ; with_reducible exact hQ) | (simp (decide := true) only [rTell, ↓reduceIte, sw_eq, sw_ne, ne_eq, Nat.reduceEqDiff, not_false_eq_true, Bool.false_eq_true, bi_t, bi_f, Bool.and_true, Bool.true_and, Bool.and_false, Bool.false_and, e1_4] at hQ ⊢; with_reducible exact hQ)
  by_cases e1_5 : x1 = 5
  · refine aj_tsIn (tgt := 107) (off := 106) dX7_tell_1 (by rw [e1_5]; decide) (by rw [e1_5]; decide) (by rw [e1_5]; rfl) (by decide) ?_
    refine aj_aload_n (q := 108) (i := 0) dX7_tell_107 rfl rfl rfl ?_
    refine aj_getR (q := 111) fl_X7_21 dX7_tell_108 rfl lR_0 rfl ?_
    refine aj_callV (q := 114) (As := []) cl_X7_94 mk_X6_spentOfReserve dX7_tell_111 rfl lR_6 rfl rfl (Nat.le_of_ble_eq_true rfl) (sp_X6_spentOfReserve ?_)
    refine aj_ireturn dX7_tell_114 rfl ?_
    skip; subst ex1
    first | contradiction | with_reducible exact hQ | (simp (decide := true) only [rTell, ↓reduceIte, sw_eq, sw_ne, ne_eq, Nat.reduceEqDiff, not_false_eq_true, Bool.false_eq_true, bi_t, bi_f, Bool.and_true, Bool.true_and, Bool.and_false, Bool.false_and, e1_5] at hQ; with_reducible exact hQ) | (simp (decide := true) only [rTell, ↓reduceIte, sw_eq, sw_ne, ne_eq, Nat.reduceEqDiff, not_false_eq_true, Bool.false_eq_true, bi_t, bi_f, Bool.and_true, Bool.true_and, Bool.and_false, Bool.false_and, e1_5] at hQ ⊢; with_reducible exact hQ)
  by_cases e1_6 : x1 = 6
  · refine aj_tsIn (tgt := 115) (off := 114) dX7_tell_1 (by rw [e1_6]; decide) (by rw [e1_6]; decide) (by rw [e1_6]; rfl) (by decide) ?_
    refine aj_aload_n (q := 116) (i := 0) dX7_tell_115 rfl rfl rfl ?_
    refine aj_getI (q := 119) (f := 7) fl_X7_97 dX7_tell_116 rfl lR_0 rfl rfl ?_
    try simp only [sw_eq, sw_ne, ne_eq, Nat.reduceEqDiff, not_false_eq_true]
    refine aj_ireturn dX7_tell_119 rfl ?_
    skip; subst ex1
    first | contradiction | with_reducible exact hQ | (simp (decide := true) only [rTell, ↓reduceIte, sw_eq, sw_ne, ne_eq, Nat.reduceEqDiff, not_false_eq_true, Bool.false_eq_true, bi_t, bi_f, Bool.and_true, Bool.true_and, Bool.and_false, Bool.false_and, e1_6] at hQ; with_reducible exact hQ) | (simp (decide := true) only [rTell, ↓reduceIte, sw_eq, sw_ne, ne_eq, Nat.reduceEqDiff, not_false_eq_true, Bool.false_eq_true, bi_t, bi_f, Bool.and_true, Bool.true_and, Bool.and_false, Bool.false_and, e1_6] at hQ ⊢; with_reducible exact hQ)
  by_cases e1_7 : x1 = 7
  · refine aj_tsIn (tgt := 120) (off := 119) dX7_tell_1 (by rw [e1_7]; decide) (by rw [e1_7]; decide) (by rw [e1_7]; rfl) (by decide) ?_
    refine aj_aload_n (q := 121) (i := 0) dX7_tell_120 rfl rfl rfl ?_
    refine aj_getR (q := 124) fl_X7_28 dX7_tell_121 rfl lR_0 rfl ?_
    refine aj_callV (q := 127) (As := []) cl_X7_100 mk_X2_most dX7_tell_124 rfl lR_9 rfl rfl (Nat.le_of_ble_eq_true rfl) (sp_X2_most hw ?_)
    refine aj_ireturn dX7_tell_127 rfl ?_
    skip; subst ex1
    first | contradiction | with_reducible exact hQ | (simp (decide := true) only [rTell, ↓reduceIte, sw_eq, sw_ne, ne_eq, Nat.reduceEqDiff, not_false_eq_true, Bool.false_eq_true, bi_t, bi_f, Bool.and_true, Bool.true_and, Bool.and_false, Bool.false_and, e1_7] at hQ; with_reducible exact hQ) | (simp (decide := true) only [rTell, ↓reduceIte, sw_eq, sw_ne, ne_eq, Nat.reduceEqDiff, not_false_eq_true, Bool.false_eq_true, bi_t, bi_f, Bool.and_true, Bool.true_and, Bool.and_false, Bool.false_and, e1_7] at hQ ⊢; with_reducible exact hQ)
  by_cases e1_8 : x1 = 8
  · refine aj_tsIn (tgt := 128) (off := 127) dX7_tell_1 (by rw [e1_8]; decide) (by rw [e1_8]; decide) (by rw [e1_8]; rfl) (by decide) ?_
    refine aj_aload_n (q := 129) (i := 0) dX7_tell_128 rfl rfl rfl ?_
    refine aj_getR (q := 132) fl_X7_28 dX7_tell_129 rfl lR_0 rfl ?_
    refine aj_callV (q := 135) (As := []) cl_X7_103 mk_X2_sum dX7_tell_132 rfl lR_9 rfl rfl (Nat.le_of_ble_eq_true rfl) (sp_X2_sum ?_)
    refine aj_ireturn dX7_tell_135 rfl ?_
    skip; subst ex1
    first | contradiction | with_reducible exact hQ | (simp (decide := true) only [rTell, ↓reduceIte, sw_eq, sw_ne, ne_eq, Nat.reduceEqDiff, not_false_eq_true, Bool.false_eq_true, bi_t, bi_f, Bool.and_true, Bool.true_and, Bool.and_false, Bool.false_and, e1_8] at hQ; with_reducible exact hQ) | (simp (decide := true) only [rTell, ↓reduceIte, sw_eq, sw_ne, ne_eq, Nat.reduceEqDiff, not_false_eq_true, Bool.false_eq_true, bi_t, bi_f, Bool.and_true, Bool.true_and, Bool.and_false, Bool.false_and, e1_8] at hQ ⊢; with_reducible exact hQ)
  refine aj_tsOut (tgt := 136) dX7_tell_1 (by have := And.intro trivial trivial; have z0 := lv_neT (a := 0) e1_0 rfl; have z1 := lv_neT (a := 1) e1_1 rfl; have z2 := lv_neT (a := 2) e1_2 rfl; have z3 := lv_neT (a := 3) e1_3 rfl; have z4 := lv_neT (a := 4) e1_4 rfl; have z5 := lv_neT (a := 5) e1_5 rfl; have z6 := lv_neT (a := 6) e1_6 rfl; have z7 := lv_neT (a := 7) e1_7 rfl; have z8 := lv_neT (a := 8) e1_8 rfl; omega) (by decide) ?_
  refine aj_bipush (q := 138) (v := (-2)) dX7_tell_136 rfl (by decide) ?_
  refine aj_ireturn dX7_tell_138 rfl ?_
  skip; subst ex1
  first | contradiction | with_reducible exact hQ | (simp (decide := true) only [rTell, ↓reduceIte, sw_eq, sw_ne, ne_eq, Nat.reduceEqDiff, not_false_eq_true, Bool.false_eq_true, bi_t, bi_f, Bool.and_true, Bool.true_and, Bool.and_false, Bool.false_and, e1_0, e1_1, e1_2, e1_3, e1_4, e1_5, e1_6, e1_7, e1_8] at hQ; with_reducible exact hQ) | (simp (decide := true) only [rTell, ↓reduceIte, sw_eq, sw_ne, ne_eq, Nat.reduceEqDiff, not_false_eq_true, Bool.false_eq_true, bi_t, bi_f, Bool.and_true, Bool.true_and, Bool.and_false, Bool.false_and, e1_0, e1_1, e1_2, e1_3, e1_4, e1_5, e1_6, e1_7, e1_8] at hQ ⊢; with_reducible exact hQ)
