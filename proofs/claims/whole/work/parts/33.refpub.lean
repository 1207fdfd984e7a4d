/-- the reference's program, laid as the class has it -/
def mP (M : Sx) : Sx := fun f i => if f = 1706 then M 1 0 else if f = 2200 then M 500 i else if f = 2300 then M 600 i else 0
theorem mP_0 {M : Sx} {v : Int32} : mP (sw M 0 0 v) = mP M := by
  funext f i
  simp [mP, sw]
theorem mP_w {M : Sx} {g n : Nat} {v : Int32} (h : g = 100 ∨ g = 200 ∨ g = 300 ∨ g = 400) : mP (sw M g n v) = mP M := by
  funext f i
  rcases h with rfl | rfl | rfl | rfl <;> simp [mP, sw]
theorem oFit_out {S : Sx} {t a b c : Int32} (h : t < 0 ∨ 21 < t) : oFit S t a b c = false := by
  have e : ∀ n : Int32, ¬ (n < 0 ∨ 21 < n) → ¬ t = n := fun n hn e => hn (e ▸ h)
  unfold oFit
  rw [if_neg (e 0 (by decide)), if_neg (e 1 (by decide)), if_neg (e 2 (by decide)), if_neg (e 3 (by decide)), if_neg (e 4 (by decide)), if_neg (e 5 (by decide)), if_neg (e 6 (by decide)), if_neg (e 7 (by decide)), if_neg (e 8 (by decide)), if_neg (e 9 (by decide)), if_neg (e 10 (by decide)), if_neg (e 11 (by decide)), if_neg (e 12 (by decide)), if_neg (e 13 (by decide)), if_neg (e 14 (by decide)), if_neg (e 15 (by decide)), if_neg (e 16 (by decide)), if_neg (e 17 (by decide)), if_neg (e 18 (by decide)), if_neg (e 19 (by decide)), if_neg (e 20 (by decide)), if_neg (e 21 (by decide))]
def gTold (M : Sx) (w : Int32) : Int32 := if w = 0 then M 26 0 else if w = 1 then M 27 0 else if w = 2 then M 28 0 else if w = 3 then M 23 0 else if w = 4 then M 18 0 else if w = 5 then M 19 0 else if w = 6 then M 24 0 else if w = 7 then M 25 0 else if w = 8 then M 900 0 + M 900 1 + M 900 2 + M 900 3 else -2
def gSize (M : Sx) (r : Int32) : Int32 := if inb r 4 then (if M 800 r.toNatClampNeg = -1 then -1 else M 1000 (M 800 r.toNatClampNeg).toNatClampNeg) else -2
def gRowOk (M : Sx) : Prop := ∀ r, r < 4 → M 800 r = -1 ∨ ∃ x len at_ : Nat, M 800 r = nI x ∧ x < 300 ∧ M 1000 x = nI len ∧ M 1100 x = nI at_ ∧ at_ + len ≤ 1400
theorem row_in {M : Sx} {r : Int32} (h : gRowOk M) (hr : inb r 4 = true) (hn : ¬ M 800 r.toNatClampNeg = -1) : vp_in (M 800 r.toNatClampNeg) 300 := by
  have h4 : r.toNatClampNeg < 4 := Nat.lt_of_not_le (fun q => (vin (m := 4) (n := 4) (by decide) hr) (Or.inr q))
  rcases h _ h4 with q | ⟨x, len, at_, q1, q2, -⟩
  · exact absurd q hn
  · rw [q1]; exact vp_in_nI q2 (by omega)
theorem cell_in {M : Sx} {r i : Int32} (h : gRowOk M) (hr : inb r 4 = true) (hn : ¬ M 800 r.toNatClampNeg = -1) (hi : inb i (M 1000 (M 800 r.toNatClampNeg).toNatClampNeg) = true) : vp_in (M 1100 (M 800 r.toNatClampNeg).toNatClampNeg + i) 1400 := by
  have h4 : r.toNatClampNeg < 4 := Nat.lt_of_not_le (fun q => (vin (m := 4) (n := 4) (by decide) hr) (Or.inr q))
  rcases h _ h4 with q | ⟨x, len, at_, q1, q2, q3, q4, q5⟩
  · exact absurd q hn
  · rw [q1, cl x] at hi ⊢
    rw [q3] at hi
    rw [q4]
    have h1 := inb_iff.mp hi
    rw [nI_toInt (by omega)] at h1
    have h2 : (nI at_).toInt = at_ := nI_toInt (by omega)
    refine vp_in_iff.mpr ?_
    rw [i32_add (by omega) (by omega), h2]
    omega
theorem lt120 {k : Nat} (h : k ≤ 120) (hn : ¬ nI k = 120) : k < 120 := by
  rcases (show k < 120 ∨ k = 120 by omega) with q | rfl
  · exact q
  · exact absurd (by decide) hn
theorem sp_X10_told {d : Nat} {S : Sx} {Q : Option Value → Sx → Prop} {w : Int32}   (hQ : Q (some (.int (gTold S w))) (sw S 0 0 0)) : CC d kX10_told layM [.ref 0, .int w] S Q := by
  refine cc_intro [some _, some _] (by decide) (cc_cat (by rfl)) (Nat.le_of_ble_eq_true rfl) (cc_ls (by rfl)) ?_
  refine aj_aload_n (q := 1) (i := 0) dX10_told_0 rfl rfl rfl ?_
  refine aj_iconst (q := 2) (v := 0) dX10_told_1 rfl (by decide) ?_
  refine aj_putI (q := 5) (f := 0) okM fp_X10_1 dX10_told_2 rfl lM_0 rfl rfl ?_
  refine aj_iload_n (q := 6) (i := 1) dX10_told_5 rfl rfl rfl ?_
  refine aj_tsn (fun x1 ex1 => ?_)
  by_cases e1_0 : x1 = 0
  · refine aj_tsIn (tgt := 56) (off := 50) dX10_told_6 (by rw [e1_0]; decide) (by rw [e1_0]; decide) (by rw [e1_0]; rfl) (by decide) ?_
    refine aj_aload_n (q := 57) (i := 0) dX10_told_56 rfl rfl rfl ?_
    refine aj_getI (q := 60) (f := 26) fl_X10_56 dX10_told_57 rfl lM_0 rfl rfl ?_
    try simp (decide := true) only [sw_eq, sw_ne, ne_eq, Nat.reduceEqDiff, not_false_eq_true, nI_pred, nI_1, gPay_ne, e1_0]
    refine aj_ireturn dX10_told_60 rfl ?_
    skip; subst ex1
    first | contradiction | with_reducible exact hQ | (simp (decide := true) only [gTold, ↓reduceIte, sw_eq, sw_ne, ne_eq, Nat.reduceEqDiff, not_false_eq_true, e1_0] at hQ; with_reducible exact hQ) | (simp (decide := true) only [gTold, ↓reduceIte, sw_eq, sw_ne, ne_eq, Nat.reduceEqDiff, not_false_eq_true, e1_0] at hQ ⊢; first | with_reducible exact hQ | exact hQ)
  by_cases e1_1 : x1 = 1
  · refine aj_tsIn (tgt := 61) (off := 55) dX10_told_6 (by rw [e1_1]; decide) (by rw [e1_1]; decide) (by rw [e1_1]; rfl) (by decide) ?_
    refine aj_aload_n (q := 62) (i := 0) dX10_told_61 rfl rfl rfl ?_
    refine aj_getI (q := 65) (f := 27) fl_X10_112 dX10_told_62 rfl lM_0 rfl rfl ?_
    try simp (decide := true) only [sw_eq, sw_ne, ne_eq, Nat.reduceEqDiff, not_false_eq_true, nI_pred, nI_1, gPay_ne, e1_1]
    refine aj_ireturn dX10_told_65 rfl ?_
    skip; subst ex1
    first | contradiction | with_reducible exact hQ | (simp (decide := true) only [gTold, ↓reduceIte, sw_eq, sw_ne, ne_eq, Nat.reduceEqDiff, not_false_eq_true, e1_1] at hQ; with_reducible exact hQ) | (simp (decide := true) only [gTold, ↓reduceIte, sw_eq, sw_ne, ne_eq, Nat.reduceEqDiff, not_false_eq_true, e1_1] at hQ ⊢; first | with_reducible exact hQ | exact hQ)
  by_cases e1_2 : x1 = 2
  · refine aj_tsIn (tgt := 66) (off := 60) dX10_told_6 (by rw [e1_2]; decide) (by rw [e1_2]; decide) (by rw [e1_2]; rfl) (by decide) ?_
    refine aj_aload_n (q := 67) (i := 0) dX10_told_66 rfl rfl rfl ?_
    refine aj_getI (q := 70) (f := 28) fl_X10_115 dX10_told_67 rfl lM_0 rfl rfl ?_
    try simp (decide := true) only [sw_eq, sw_ne, ne_eq, Nat.reduceEqDiff, not_false_eq_true, nI_pred, nI_1, gPay_ne, e1_2]
    refine aj_ireturn dX10_told_70 rfl ?_
    skip; subst ex1
    first | contradiction | with_reducible exact hQ | (simp (decide := true) only [gTold, ↓reduceIte, sw_eq, sw_ne, ne_eq, Nat.reduceEqDiff, not_false_eq_true, e1_2] at hQ; with_reducible exact hQ) | (simp (decide := true) only [gTold, ↓reduceIte, sw_eq, sw_ne, ne_eq, Nat.reduceEqDiff, not_false_eq_true, e1_2] at hQ ⊢; first | with_reducible exact hQ | exact hQ)
  by_cases e1_3 : x1 = 3
  · refine aj_tsIn (tgt := 71) (off := 65) dX10_told_6 (by rw [e1_3]; decide) (by rw [e1_3]; decide) (by rw [e1_3]; rfl) (by decide) ?_
    refine aj_aload_n (q := 72) (i := 0) dX10_told_71 rfl rfl rfl ?_
    refine aj_getI (q := 75) (f := 23) fl_X10_168 dX10_told_72 rfl lM_0 rfl rfl ?_
    try simp (decide := true) only [sw_eq, sw_ne, ne_eq, Nat.reduceEqDiff, not_false_eq_true, nI_pred, nI_1, gPay_ne, e1_3]
    refine aj_ireturn dX10_told_75 rfl ?_
    skip; subst ex1
    first | contradiction | with_reducible exact hQ | (simp (decide := true) only [gTold, ↓reduceIte, sw_eq, sw_ne, ne_eq, Nat.reduceEqDiff, not_false_eq_true, e1_3] at hQ; with_reducible exact hQ) | (simp (decide := true) only [gTold, ↓reduceIte, sw_eq, sw_ne, ne_eq, Nat.reduceEqDiff, not_false_eq_true, e1_3] at hQ ⊢; first | with_reducible exact hQ | exact hQ)
  by_cases e1_4 : x1 = 4
  · refine aj_tsIn (tgt := 76) (off := 70) dX10_told_6 (by rw [e1_4]; decide) (by rw [e1_4]; decide) (by rw [e1_4]; rfl) (by decide) ?_
    refine aj_aload_n (q := 77) (i := 0) dX10_told_76 rfl rfl rfl ?_
    refine aj_getI (q := 80) (f := 18) fl_X10_134 dX10_told_77 rfl lM_0 rfl rfl ?_
    try simp (decide := true) only [sw_eq, sw_ne, ne_eq, Nat.reduceEqDiff, not_false_eq_true, nI_pred, nI_1, gPay_ne, e1_4]
    refine aj_ireturn dX10_told_80 rfl ?_
    skip; subst ex1
    first | contradiction | with_reducible exact hQ | (simp (decide := true) only [gTold, ↓reduceIte, sw_eq, sw_ne, ne_eq, Nat.reduceEqDiff, not_false_eq_true, e1_4] at hQ; with_reducible exact hQ) | (simp (decide := true) only [gTold, ↓reduceIte, sw_eq, sw_ne, ne_eq, Nat.reduceEqDiff, not_false_eq_true, e1_4] at hQ ⊢; first | with_reducible exact hQ | exact hQ)
  by_cases e1_5 : x1 = 5
  · refine aj_tsIn (tgt := 81) (off := 75) dX10_told_6 (by rw [e1_5]; decide) (by rw [e1_5]; decide) (by rw [e1_5]; rfl) (by decide) ?_
    refine aj_aload_n (q := 82) (i := 0) dX10_told_81 rfl rfl rfl ?_
    refine aj_getI (q := 85) (f := 19) fl_X10_137 dX10_told_82 rfl lM_0 rfl rfl ?_
    try simp (decide := true) only [sw_eq, sw_ne, ne_eq, Nat.reduceEqDiff, not_false_eq_true, nI_pred, nI_1, gPay_ne, e1_5]
    refine aj_ireturn dX10_told_85 rfl ?_
    skip; subst ex1
    first | contradiction | with_reducible exact hQ | (simp (decide := true) only [gTold, ↓reduceIte, sw_eq, sw_ne, ne_eq, Nat.reduceEqDiff, not_false_eq_true, e1_5] at hQ; with_reducible exact hQ) | (simp (decide := true) only [gTold, ↓reduceIte, sw_eq, sw_ne, ne_eq, Nat.reduceEqDiff, not_false_eq_true, e1_5] at hQ ⊢; first | with_reducible exact hQ | exact hQ)
  by_cases e1_6 : x1 = 6
  · refine aj_tsIn (tgt := 86) (off := 80) dX10_told_6 (by rw [e1_6]; decide) (by rw [e1_6]; decide) (by rw [e1_6]; rfl) (by decide) ?_
    refine aj_aload_n (q := 87) (i := 0) dX10_told_86 rfl rfl rfl ?_
    refine aj_getI (q := 90) (f := 24) fl_X10_177 dX10_told_87 rfl lM_0 rfl rfl ?_
    try simp (decide := true) only [sw_eq, sw_ne, ne_eq, Nat.reduceEqDiff, not_false_eq_true, nI_pred, nI_1, gPay_ne, e1_6]
    refine aj_ireturn dX10_told_90 rfl ?_
    skip; subst ex1
    first | contradiction | with_reducible exact hQ | (simp (decide := true) only [gTold, ↓reduceIte, sw_eq, sw_ne, ne_eq, Nat.reduceEqDiff, not_false_eq_true, e1_6] at hQ; with_reducible exact hQ) | (simp (decide := true) only [gTold, ↓reduceIte, sw_eq, sw_ne, ne_eq, Nat.reduceEqDiff, not_false_eq_true, e1_6] at hQ ⊢; first | with_reducible exact hQ | exact hQ)
  by_cases e1_7 : x1 = 7
  · refine aj_tsIn (tgt := 91) (off := 85) dX10_told_6 (by rw [e1_7]; decide) (by rw [e1_7]; decide) (by rw [e1_7]; rfl) (by decide) ?_
    refine aj_aload_n (q := 92) (i := 0) dX10_told_91 rfl rfl rfl ?_
    refine aj_getI (q := 95) (f := 25) fl_X10_183 dX10_told_92 rfl lM_0 rfl rfl ?_
    try simp (decide := true) only [sw_eq, sw_ne, ne_eq, Nat.reduceEqDiff, not_false_eq_true, nI_pred, nI_1, gPay_ne, e1_7]
    refine aj_ireturn dX10_told_95 rfl ?_
    skip; subst ex1
    first | contradiction | with_reducible exact hQ | (simp (decide := true) only [gTold, ↓reduceIte, sw_eq, sw_ne, ne_eq, Nat.reduceEqDiff, not_false_eq_true, e1_7] at hQ; with_reducible exact hQ) | (simp (decide := true) only [gTold, ↓reduceIte, sw_eq, sw_ne, ne_eq, Nat.reduceEqDiff, not_false_eq_true, e1_7] at hQ ⊢; first | with_reducible exact hQ | exact hQ)
  by_cases e1_8 : x1 = 8
  · refine aj_tsIn (tgt := 96) (off := 90) dX10_told_6 (by rw [e1_8]; decide) (by rw [e1_8]; decide) (by rw [e1_8]; rfl) (by decide) ?_
    refine aj_aload_n (q := 97) (i := 0) dX10_told_96 rfl rfl rfl ?_
    refine aj_getR (q := 100) fl_X10_38 dX10_told_97 rfl lM_0 rfl ?_
    refine aj_iconst (q := 101) (v := 0) dX10_told_100 rfl (by decide) ?_
    refine aj_iaload (q := 102) (f := 900) dX10_told_101 rfl lM_9 rfl (vp_in_iff.mpr (by decide)) ?_
    try simp (decide := true) only [sw_eq, sw_ne, ne_eq, Nat.reduceEqDiff, not_false_eq_true, nI_pred, nI_1, gPay_ne, e1_8]
    refine aj_aload_n (q := 103) (i := 0) dX10_told_102 rfl rfl rfl ?_
    refine aj_getR (q := 106) fl_X10_38 dX10_told_103 rfl lM_0 rfl ?_
    refine aj_iconst (q := 107) (v := 1) dX10_told_106 rfl (by decide) ?_
    refine aj_iaload (q := 108) (f := 900) dX10_told_107 rfl lM_9 rfl (vp_in_iff.mpr (by decide)) ?_
    try simp (decide := true) only [sw_eq, sw_ne, ne_eq, Nat.reduceEqDiff, not_false_eq_true, nI_pred, nI_1, gPay_ne, e1_8]
    refine aj_iadd (q := 109) dX10_told_108 rfl ?_
    try simp (decide := true) only [sw_eq, sw_ne, ne_eq, Nat.reduceEqDiff, not_false_eq_true, nI_pred, nI_1, gPay_ne, e1_8]
    refine aj_aload_n (q := 110) (i := 0) dX10_told_109 rfl rfl rfl ?_
    refine aj_getR (q := 113) fl_X10_38 dX10_told_110 rfl lM_0 rfl ?_
    refine aj_iconst (q := 114) (v := 2) dX10_told_113 rfl (by decide) ?_
    refine aj_iaload (q := 115) (f := 900) dX10_told_114 rfl lM_9 rfl (vp_in_iff.mpr (by decide)) ?_
    try simp (decide := true) only [sw_eq, sw_ne, ne_eq, Nat.reduceEqDiff, not_false_eq_true, nI_pred, nI_1, gPay_ne, e1_8]
    refine aj_iadd (q := 116) dX10_told_115 rfl ?_
    try simp (decide := true) only [sw_eq, sw_ne, ne_eq, Nat.reduceEqDiff, not_false_eq_true, nI_pred, nI_1, gPay_ne, e1_8]
    refine aj_aload_n (q := 117) (i := 0) dX10_told_116 rfl rfl rfl ?_
    refine aj_getR (q := 120) fl_X10_38 dX10_told_117 rfl lM_0 rfl ?_
    refine aj_iconst (q := 121) (v := 3) dX10_told_120 rfl (by decide) ?_
    refine aj_iaload (q := 122) (f := 900) dX10_told_121 rfl lM_9 rfl (vp_in_iff.mpr (by decide)) ?_
    try simp (decide := true) only [sw_eq, sw_ne, ne_eq, Nat.reduceEqDiff, not_false_eq_true, nI_pred, nI_1, gPay_ne, e1_8]
    refine aj_iadd (q := 123) dX10_told_122 rfl ?_
    try simp (decide := true) only [sw_eq, sw_ne, ne_eq, Nat.reduceEqDiff, not_false_eq_true, nI_pred, nI_1, gPay_ne, e1_8]
    refine aj_ireturn dX10_told_123 rfl ?_
    skip; subst ex1
    first | contradiction | with_reducible exact hQ | (simp (decide := true) only [gTold, ↓reduceIte, sw_eq, sw_ne, ne_eq, Nat.reduceEqDiff, not_false_eq_true, e1_8] at hQ; with_reducible exact hQ) | (simp (decide := true) only [gTold, ↓reduceIte, sw_eq, sw_ne, ne_eq, Nat.reduceEqDiff, not_false_eq_true, e1_8] at hQ ⊢; first | with_reducible exact hQ | exact hQ)
  refine aj_tsOut (tgt := 124) dX10_told_6 (by have := And.intro trivial trivial; have z0 := lv_neT (a := 0) e1_0 rfl; have z1 := lv_neT (a := 1) e1_1 rfl; have z2 := lv_neT (a := 2) e1_2 rfl; have z3 := lv_neT (a := 3) e1_3 rfl; have z4 := lv_neT (a := 4) e1_4 rfl; have z5 := lv_neT (a := 5) e1_5 rfl; have z6 := lv_neT (a := 6) e1_6 rfl; have z7 := lv_neT (a := 7) e1_7 rfl; have z8 := lv_neT (a := 8) e1_8 rfl; omega) (by decide) ?_
  refine aj_bipush (q := 126) (v := (-2)) dX10_told_124 rfl (by decide) ?_
  refine aj_ireturn dX10_told_126 rfl ?_
  skip; subst ex1
  first | contradiction | with_reducible exact hQ | (simp (decide := true) only [gTold, ↓reduceIte, sw_eq, sw_ne, ne_eq, Nat.reduceEqDiff, not_false_eq_true, e1_0, e1_1, e1_2, e1_3, e1_4, e1_5, e1_6, e1_7, e1_8] at hQ; with_reducible exact hQ) | (simp (decide := true) only [gTold, ↓reduceIte, sw_eq, sw_ne, ne_eq, Nat.reduceEqDiff, not_false_eq_true, e1_0, e1_1, e1_2, e1_3, e1_4, e1_5, e1_6, e1_7, e1_8] at hQ ⊢; first | with_reducible exact hQ | exact hQ)
theorem sp_X10_marks {d : Nat} {S : Sx} {Q : Option Value → Sx → Prop} {k : Int32}   (hQ : Q (some (.int (if inb k 5 then S 1300 k.toNatClampNeg else -2))) (sw S 0 0 0)) : CC (d + 1) kX10_marks layM [.ref 0, .int k] S Q := by
  refine cc_intro [some _, some _] (by decide) (cc_cat (by rfl)) (Nat.le_of_ble_eq_true rfl) (cc_ls (by rfl)) ?_
  refine aj_aload_n (q := 1) (i := 0) dX10_marks_0 rfl rfl rfl ?_
  refine aj_iconst (q := 2) (v := 0) dX10_marks_1 rfl (by decide) ?_
  refine aj_putI (q := 5) (f := 0) okM fp_X10_1 dX10_marks_2 rfl lM_0 rfl rfl ?_
  refine aj_iload_n (q := 6) (i := 1) dX10_marks_5 rfl rfl rfl ?_
  refine aj_iconst (q := 7) (v := 5) dX10_marks_6 rfl (by decide) ?_
  refine aj_callS (q := 10) (As := [_, _]) cl_X10_86 mk_X10_isIn dX10_marks_7 rfl rfl (Nat.le_of_ble_eq_true rfl) (sp_X10_isIn ?_)
  refine aj_ifB_eq (q := 13) (tgt := 22) dX10_marks_10 rfl (by decide) (fun c10_1 => ?_) (fun c10_1 => ?_)
  · refine aj_bipush (q := 24) (v := (-2)) dX10_marks_22 rfl (by decide) ?_
    refine aj_ireturn dX10_marks_24 rfl ?_
    first | contradiction | with_reducible exact hQ | (simp (decide := true) only [↓reduceIte, Bool.false_eq_true, bi_t, bi_f, sw_eq, sw_ne, ne_eq, Nat.reduceEqDiff, not_false_eq_true, nI_pred, nI_1, gPay_ne, c10_1] at hQ ⊢; with_reducible exact hQ)
  · refine aj_aload_n (q := 14) (i := 0) dX10_marks_13 rfl rfl rfl ?_
    refine aj_getR (q := 17) fl_X10_50 dX10_marks_14 rfl lM_0 rfl ?_
    refine aj_iload_n (q := 18) (i := 1) dX10_marks_17 rfl rfl rfl ?_
    refine aj_iaload (q := 19) (f := 1300) dX10_marks_18 rfl lM_13 rfl (vin (m := 5) (by decide) (by assumption)) ?_
    try simp (decide := true) only [sw_eq, sw_ne, ne_eq, Nat.reduceEqDiff, not_false_eq_true, nI_pred, nI_1, gPay_ne, c10_1]
    refine aj_goto (tgt := 24) dX10_marks_19 (by decide) ?_
    refine aj_ireturn dX10_marks_24 rfl ?_
    first | contradiction | with_reducible exact hQ | (simp (decide := true) only [↓reduceIte, Bool.false_eq_true, bi_t, bi_f, sw_eq, sw_ne, ne_eq, Nat.reduceEqDiff, not_false_eq_true, nI_pred, nI_1, gPay_ne, c10_1] at hQ ⊢; with_reducible exact hQ)
theorem sp_X10_variable {d : Nat} {S : Sx} {Q : Option Value → Sx → Prop} {x : Int32}   (hQ : Q (some (.int (if inb x 8 then S 700 x.toNatClampNeg else 0))) (sw S 0 0 0)) : CC (d + 1) kX10_variable layM [.ref 0, .int x] S Q := by
  refine cc_intro [some _, some _] (by decide) (cc_cat (by rfl)) (Nat.le_of_ble_eq_true rfl) (cc_ls (by rfl)) ?_
  refine aj_aload_n (q := 1) (i := 0) dX10_variable_0 rfl rfl rfl ?_
  refine aj_iconst (q := 2) (v := 0) dX10_variable_1 rfl (by decide) ?_
  refine aj_putI (q := 5) (f := 0) okM fp_X10_1 dX10_variable_2 rfl lM_0 rfl rfl ?_
  refine aj_iload_n (q := 6) (i := 1) dX10_variable_5 rfl rfl rfl ?_
  refine aj_bipush (q := 8) (v := 8) dX10_variable_6 rfl (by decide) ?_
  refine aj_callS (q := 11) (As := [_, _]) cl_X10_86 mk_X10_isIn dX10_variable_8 rfl rfl (Nat.le_of_ble_eq_true rfl) (sp_X10_isIn ?_)
  refine aj_ifB_eq (q := 14) (tgt := 23) dX10_variable_11 rfl (by decide) (fun c11_1 => ?_) (fun c11_1 => ?_)
  · refine aj_iconst (q := 24) (v := 0) dX10_variable_23 rfl (by decide) ?_
    refine aj_ireturn dX10_variable_24 rfl ?_
    first | contradiction | with_reducible exact hQ | (simp (decide := true) only [↓reduceIte, Bool.false_eq_true, bi_t, bi_f, sw_eq, sw_ne, ne_eq, Nat.reduceEqDiff, not_false_eq_true, nI_pred, nI_1, gPay_ne, c11_1] at hQ ⊢; with_reducible exact hQ)
  · refine aj_aload_n (q := 15) (i := 0) dX10_variable_14 rfl rfl rfl ?_
    refine aj_getR (q := 18) fl_X10_32 dX10_variable_15 rfl lM_0 rfl ?_
    refine aj_iload_n (q := 19) (i := 1) dX10_variable_18 rfl rfl rfl ?_
    refine aj_iaload (q := 20) (f := 700) dX10_variable_19 rfl lM_7 rfl (vin (m := 8) (by decide) (by assumption)) ?_
    try simp (decide := true) only [sw_eq, sw_ne, ne_eq, Nat.reduceEqDiff, not_false_eq_true, nI_pred, nI_1, gPay_ne, c11_1]
    refine aj_goto (tgt := 24) dX10_variable_20 (by decide) ?_
    refine aj_ireturn dX10_variable_24 rfl ?_
    first | contradiction | with_reducible exact hQ | (simp (decide := true) only [↓reduceIte, Bool.false_eq_true, bi_t, bi_f, sw_eq, sw_ne, ne_eq, Nat.reduceEqDiff, not_false_eq_true, nI_pred, nI_1, gPay_ne, c11_1] at hQ ⊢; with_reducible exact hQ)
theorem log_in {x y : Int32} {g : Nat} (h : y = nI g) (hg : g ≤ 30) (h1 : 0 ≤ x) (h2 : ¬ y ≤ x) : vp_in x 30 := by
  refine vp_in_iff.mpr ⟨?_, ?_⟩
  · rw [Int32.le_iff_toInt_le] at h1
    exact h1
  · rw [h, Int32.le_iff_toInt_le, nI_toInt (by omega)] at h2
    omega
theorem sp_X10_began {d : Nat} {S : Sx} {Q : Option Value → Sx → Prop} {k : Int32} {g : Nat} (hg : S 21 0 = nI g) (hg2 : g ≤ 30) (hQ : Q (some (.int (if 0 ≤ k then (if nI g ≤ k then -1 else S 1400 k.toNatClampNeg) else -2))) (sw S 0 0 0)) : CC d kX10_began layM [.ref 0, .int k] S Q := by
  refine cc_intro [some _, some _] (by decide) (cc_cat (by rfl)) (Nat.le_of_ble_eq_true rfl) (cc_ls (by rfl)) ?_
  refine aj_aload_n (q := 1) (i := 0) dX10_began_0 rfl rfl rfl ?_
  refine aj_iconst (q := 2) (v := 0) dX10_began_1 rfl (by decide) ?_
  refine aj_putI (q := 5) (f := 0) okM fp_X10_1 dX10_began_2 rfl lM_0 rfl rfl ?_
  refine aj_iload_n (q := 6) (i := 1) dX10_began_5 rfl rfl rfl ?_
  refine aj_if_ge (q := 9) (tgt := 14) dX10_began_6 rfl (by decide) (fun c6_1 => ?_) (fun c6_1 => ?_)
  · refine aj_iload_n (q := 15) (i := 1) dX10_began_14 rfl rfl rfl ?_
    refine aj_aload_n (q := 16) (i := 0) dX10_began_15 rfl rfl rfl ?_
    refine aj_getI (q := 19) (f := 21) fl_X10_146 dX10_began_16 rfl lM_0 rfl rfl ?_
    try simp (decide := true) only [sw_eq, sw_ne, ne_eq, Nat.reduceEqDiff, not_false_eq_true, nI_pred, nI_1, gPay_ne, hg, c6_1]
    refine aj_icmp_ge (q := 22) (tgt := 31) dX10_began_19 rfl (by decide) (fun c19_2 => ?_) (fun c19_2 => ?_)
    · refine aj_iconst (q := 32) (v := (-1)) dX10_began_31 rfl (by decide) ?_
      refine aj_ireturn dX10_began_32 rfl ?_
      first | contradiction | with_reducible exact hQ | (simp (decide := true) only [↓reduceIte, Bool.false_eq_true, bi_t, bi_f, sw_eq, sw_ne, ne_eq, Nat.reduceEqDiff, not_false_eq_true, nI_pred, nI_1, gPay_ne, hg, c6_1, c19_2] at hQ ⊢; with_reducible exact hQ)
    · refine aj_aload_n (q := 23) (i := 0) dX10_began_22 rfl rfl rfl ?_
      refine aj_getR (q := 26) fl_X10_53 dX10_began_23 rfl lM_0 rfl ?_
      refine aj_iload_n (q := 27) (i := 1) dX10_began_26 rfl rfl rfl ?_
      refine aj_iaload (q := 28) (f := 1400) dX10_began_27 rfl lM_14 rfl (log_in rfl hg2 (by assumption) (by assumption)) ?_
      try simp (decide := true) only [sw_eq, sw_ne, ne_eq, Nat.reduceEqDiff, not_false_eq_true, nI_pred, nI_1, gPay_ne, hg, c6_1, c19_2]
      refine aj_goto (tgt := 32) dX10_began_28 (by decide) ?_
      refine aj_ireturn dX10_began_32 rfl ?_
      first | contradiction | with_reducible exact hQ | (simp (decide := true) only [↓reduceIte, Bool.false_eq_true, bi_t, bi_f, sw_eq, sw_ne, ne_eq, Nat.reduceEqDiff, not_false_eq_true, nI_pred, nI_1, gPay_ne, hg, c6_1, c19_2] at hQ ⊢; with_reducible exact hQ)
  · refine aj_bipush (q := 11) (v := (-2)) dX10_began_9 rfl (by decide) ?_
    refine aj_goto (tgt := 32) dX10_began_11 (by decide) ?_
    refine aj_ireturn dX10_began_32 rfl ?_
    first | contradiction | with_reducible exact hQ | (simp (decide := true) only [↓reduceIte, Bool.false_eq_true, bi_t, bi_f, sw_eq, sw_ne, ne_eq, Nat.reduceEqDiff, not_false_eq_true, nI_pred, nI_1, gPay_ne, hg, c6_1] at hQ ⊢; with_reducible exact hQ)
theorem sp_X10_size {d : Nat} {S : Sx} {Q : Option Value → Sx → Prop} {r : Int32}  (hr : gRowOk S) (hQ : Q (some (.int (gSize S r))) (sw S 0 0 0)) : CC (d + 1) kX10_size layM [.ref 0, .int r] S Q := by
  refine cc_intro [some _, some _] (by decide) (cc_cat (by rfl)) (Nat.le_of_ble_eq_true rfl) (cc_ls (by rfl)) ?_
  refine aj_aload_n (q := 1) (i := 0) dX10_size_0 rfl rfl rfl ?_
  refine aj_iconst (q := 2) (v := 0) dX10_size_1 rfl (by decide) ?_
  refine aj_putI (q := 5) (f := 0) okM fp_X10_1 dX10_size_2 rfl lM_0 rfl rfl ?_
  refine aj_iload_n (q := 6) (i := 1) dX10_size_5 rfl rfl rfl ?_
  refine aj_iconst (q := 7) (v := 4) dX10_size_6 rfl (by decide) ?_
  refine aj_callS (q := 10) (As := [_, _]) cl_X10_86 mk_X10_isIn dX10_size_7 rfl rfl (Nat.le_of_ble_eq_true rfl) (sp_X10_isIn ?_)
  refine aj_ifB_ne (q := 13) (tgt := 18) dX10_size_10 rfl (by decide) (fun c10_1 => ?_) (fun c10_1 => ?_)
  · refine aj_aload_n (q := 19) (i := 0) dX10_size_18 rfl rfl rfl ?_
    refine aj_getR (q := 22) fl_X10_35 dX10_size_19 rfl lM_0 rfl ?_
    refine aj_iload_n (q := 23) (i := 1) dX10_size_22 rfl rfl rfl ?_
    refine aj_iaload (q := 24) (f := 800) dX10_size_23 rfl lM_8 rfl (vin (m := 4) (by decide) (by assumption)) ?_
    try simp (decide := true) only [sw_eq, sw_ne, ne_eq, Nat.reduceEqDiff, not_false_eq_true, nI_pred, nI_1, gPay_ne, c10_1]
    refine aj_iconst (q := 25) (v := (-1)) dX10_size_24 rfl (by decide) ?_
    refine aj_icmp_ne (q := 28) (tgt := 32) dX10_size_25 rfl (by decide) (fun c25_2 => ?_) (fun c25_2 => ?_)
    · refine aj_aload_n (q := 33) (i := 0) dX10_size_32 rfl rfl rfl ?_
      refine aj_getR (q := 36) fl_X10_41 dX10_size_33 rfl lM_0 rfl ?_
      refine aj_aload_n (q := 37) (i := 0) dX10_size_36 rfl rfl rfl ?_
      refine aj_getR (q := 40) fl_X10_35 dX10_size_37 rfl lM_0 rfl ?_
      refine aj_iload_n (q := 41) (i := 1) dX10_size_40 rfl rfl rfl ?_
      refine aj_iaload (q := 42) (f := 800) dX10_size_41 rfl lM_8 rfl (vin (m := 4) (by decide) (by assumption)) ?_
      try simp (decide := true) only [sw_eq, sw_ne, ne_eq, Nat.reduceEqDiff, not_false_eq_true, nI_pred, nI_1, gPay_ne, c10_1, c25_2]
      refine aj_iaload (q := 43) (f := 1000) dX10_size_42 rfl lM_10 rfl (row_in hr (by assumption) (by assumption)) ?_
      try simp (decide := true) only [sw_eq, sw_ne, ne_eq, Nat.reduceEqDiff, not_false_eq_true, nI_pred, nI_1, gPay_ne, c10_1, c25_2]
      refine aj_ireturn dX10_size_43 rfl ?_
      first | contradiction | with_reducible exact hQ | (simp (decide := true) only [↓reduceIte, Bool.false_eq_true, bi_t, bi_f, sw_eq, sw_ne, ne_eq, Nat.reduceEqDiff, not_false_eq_true, nI_pred, nI_1, gPay_ne, gSize, c10_1, c25_2] at hQ ⊢; with_reducible exact hQ)
    · refine aj_iconst (q := 29) (v := (-1)) dX10_size_28 rfl (by decide) ?_
      refine aj_goto (tgt := 43) dX10_size_29 (by decide) ?_
      refine aj_ireturn dX10_size_43 rfl ?_
      first | contradiction | with_reducible exact hQ | (simp (decide := true) only [↓reduceIte, Bool.false_eq_true, bi_t, bi_f, sw_eq, sw_ne, ne_eq, Nat.reduceEqDiff, not_false_eq_true, nI_pred, nI_1, gPay_ne, gSize, c10_1, c25_2] at hQ ⊢; with_reducible exact hQ)
  · refine aj_bipush (q := 15) (v := (-2)) dX10_size_13 rfl (by decide) ?_
    refine aj_goto (tgt := 43) dX10_size_15 (by decide) ?_
    refine aj_ireturn dX10_size_43 rfl ?_
    first | contradiction | with_reducible exact hQ | (simp (decide := true) only [↓reduceIte, Bool.false_eq_true, bi_t, bi_f, sw_eq, sw_ne, ne_eq, Nat.reduceEqDiff, not_false_eq_true, nI_pred, nI_1, gPay_ne, gSize, c10_1] at hQ ⊢; with_reducible exact hQ)
def gItK (M : Sx) (r i : Int32) : Int32 := if inb r 4 then (if M 800 r.toNatClampNeg = -1 then 1 else if inb i (M 1000 (M 800 r.toNatClampNeg).toNatClampNeg) then 0 else 2) else 2
def gItV (M : Sx) (r i : Int32) : Int32 := if inb r 4 then (if M 800 r.toNatClampNeg = -1 then 0 else if inb i (M 1000 (M 800 r.toNatClampNeg).toNatClampNeg) then M 1200 (M 1100 (M 800 r.toNatClampNeg).toNatClampNeg + i).toNatClampNeg else 0) else 0
theorem sp_X10_item {d : Nat} {S : Sx} {Q : Option Value → Sx → Prop} {r i : Int32}  (hr : gRowOk S) (hQ : Q (some (.int (gItV S r i))) (sw S 0 0 (gItK S r i))) : CC (d + 1) kX10_item layM [.ref 0, .int r, .int i] S Q := by
  refine cc_intro [some _, some _, some _] (by decide) (cc_cat (by rfl)) (Nat.le_of_ble_eq_true rfl) (cc_ls (by rfl)) ?_
  refine aj_aload_n (q := 1) (i := 0) dX10_item_0 rfl rfl rfl ?_
  refine aj_iconst (q := 2) (v := 0) dX10_item_1 rfl (by decide) ?_
  refine aj_putI (q := 5) (f := 0) okM fp_X10_1 dX10_item_2 rfl lM_0 rfl rfl ?_
  refine aj_iload_n (q := 6) (i := 1) dX10_item_5 rfl rfl rfl ?_
  refine aj_iconst (q := 7) (v := 4) dX10_item_6 rfl (by decide) ?_
  refine aj_callS (q := 10) (As := [_, _]) cl_X10_86 mk_X10_isIn dX10_item_7 rfl rfl (Nat.le_of_ble_eq_true rfl) (sp_X10_isIn ?_)
  refine aj_ifB_ne (q := 13) (tgt := 19) dX10_item_10 rfl (by decide) (fun c10_1 => ?_) (fun c10_1 => ?_)
  · refine aj_aload_n (q := 20) (i := 0) dX10_item_19 rfl rfl rfl ?_
    refine aj_getR (q := 23) fl_X10_35 dX10_item_20 rfl lM_0 rfl ?_
    refine aj_iload_n (q := 24) (i := 1) dX10_item_23 rfl rfl rfl ?_
    refine aj_iaload (q := 25) (f := 800) dX10_item_24 rfl lM_8 rfl (vin (m := 4) (by decide) (by assumption)) ?_
    try simp (decide := true) only [sw_eq, sw_ne, ne_eq, Nat.reduceEqDiff, not_false_eq_true, nI_pred, nI_1, gPay_ne, c10_1]
    refine aj_iconst (q := 26) (v := (-1)) dX10_item_25 rfl (by decide) ?_
    refine aj_icmp_ne (q := 29) (tgt := 35) dX10_item_26 rfl (by decide) (fun c26_2 => ?_) (fun c26_2 => ?_)
    · refine aj_iload_n (q := 36) (i := 2) dX10_item_35 rfl rfl rfl ?_
      refine aj_aload_n (q := 37) (i := 0) dX10_item_36 rfl rfl rfl ?_
      refine aj_getR (q := 40) fl_X10_41 dX10_item_37 rfl lM_0 rfl ?_
      refine aj_aload_n (q := 41) (i := 0) dX10_item_40 rfl rfl rfl ?_
      refine aj_getR (q := 44) fl_X10_35 dX10_item_41 rfl lM_0 rfl ?_
      refine aj_iload_n (q := 45) (i := 1) dX10_item_44 rfl rfl rfl ?_
      refine aj_iaload (q := 46) (f := 800) dX10_item_45 rfl lM_8 rfl (vin (m := 4) (by decide) (by assumption)) ?_
      try simp (decide := true) only [sw_eq, sw_ne, ne_eq, Nat.reduceEqDiff, not_false_eq_true, nI_pred, nI_1, gPay_ne, c10_1, c26_2]
      refine aj_iaload (q := 47) (f := 1000) dX10_item_46 rfl lM_10 rfl (row_in hr (by assumption) (by assumption)) ?_
      try simp (decide := true) only [sw_eq, sw_ne, ne_eq, Nat.reduceEqDiff, not_false_eq_true, nI_pred, nI_1, gPay_ne, c10_1, c26_2]
      refine aj_callS (q := 50) (As := [_, _]) cl_X10_86 mk_X10_isIn dX10_item_47 rfl rfl (Nat.le_of_ble_eq_true rfl) (sp_X10_isIn ?_)
      refine aj_ifB_eq (q := 53) (tgt := 74) dX10_item_50 rfl (by decide) (fun c50_3 => ?_) (fun c50_3 => ?_)
      · refine aj_aload_n (q := 75) (i := 0) dX10_item_74 rfl rfl rfl ?_
        refine aj_iconst (q := 76) (v := 2) dX10_item_75 rfl (by decide) ?_
        refine aj_callV (q := 79) (As := [_]) cl_X10_225 mk_X10_fail dX10_item_76 rfl lM_0 rfl rfl (Nat.le_of_ble_eq_true rfl) (sp_X10_fail ?_)
        refine aj_ireturn dX10_item_79 rfl ?_
        first | contradiction | with_reducible exact hQ | (simp (decide := true) only [↓reduceIte, Bool.false_eq_true, bi_t, bi_f, sw_eq, sw_ne, ne_eq, Nat.reduceEqDiff, not_false_eq_true, nI_pred, nI_1, gPay_ne, gItK, gItV, sw_sw, c10_1, c26_2, c50_3] at hQ ⊢; with_reducible exact hQ)
      · refine aj_aload_n (q := 54) (i := 0) dX10_item_53 rfl rfl rfl ?_
        refine aj_getR (q := 57) fl_X10_47 dX10_item_54 rfl lM_0 rfl ?_
        refine aj_aload_n (q := 58) (i := 0) dX10_item_57 rfl rfl rfl ?_
        refine aj_getR (q := 61) fl_X10_44 dX10_item_58 rfl lM_0 rfl ?_
        refine aj_aload_n (q := 62) (i := 0) dX10_item_61 rfl rfl rfl ?_
        refine aj_getR (q := 65) fl_X10_35 dX10_item_62 rfl lM_0 rfl ?_
        refine aj_iload_n (q := 66) (i := 1) dX10_item_65 rfl rfl rfl ?_
        refine aj_iaload (q := 67) (f := 800) dX10_item_66 rfl lM_8 rfl (vin (m := 4) (by decide) (by assumption)) ?_
        try simp (decide := true) only [sw_eq, sw_ne, ne_eq, Nat.reduceEqDiff, not_false_eq_true, nI_pred, nI_1, gPay_ne, c10_1, c26_2, c50_3]
        refine aj_iaload (q := 68) (f := 1100) dX10_item_67 rfl lM_11 rfl (row_in hr (by assumption) (by assumption)) ?_
        try simp (decide := true) only [sw_eq, sw_ne, ne_eq, Nat.reduceEqDiff, not_false_eq_true, nI_pred, nI_1, gPay_ne, c10_1, c26_2, c50_3]
        refine aj_iload_n (q := 69) (i := 2) dX10_item_68 rfl rfl rfl ?_
        refine aj_iadd (q := 70) dX10_item_69 rfl ?_
        try simp (decide := true) only [sw_eq, sw_ne, ne_eq, Nat.reduceEqDiff, not_false_eq_true, nI_pred, nI_1, gPay_ne, c10_1, c26_2, c50_3]
        refine aj_iaload (q := 71) (f := 1200) dX10_item_70 rfl lM_12 rfl (cell_in hr (by assumption) (by assumption) (by assumption)) ?_
        try simp (decide := true) only [sw_eq, sw_ne, ne_eq, Nat.reduceEqDiff, not_false_eq_true, nI_pred, nI_1, gPay_ne, c10_1, c26_2, c50_3]
        refine aj_goto (tgt := 79) dX10_item_71 (by decide) ?_
        refine aj_ireturn dX10_item_79 rfl ?_
        first | contradiction | with_reducible exact hQ | (simp (decide := true) only [↓reduceIte, Bool.false_eq_true, bi_t, bi_f, sw_eq, sw_ne, ne_eq, Nat.reduceEqDiff, not_false_eq_true, nI_pred, nI_1, gPay_ne, gItK, gItV, sw_sw, c10_1, c26_2, c50_3] at hQ ⊢; with_reducible exact hQ)
    · refine aj_aload_n (q := 30) (i := 0) dX10_item_29 rfl rfl rfl ?_
      refine aj_iconst (q := 31) (v := 1) dX10_item_30 rfl (by decide) ?_
      refine aj_callV (q := 34) (As := [_]) cl_X10_225 mk_X10_fail dX10_item_31 rfl lM_0 rfl rfl (Nat.le_of_ble_eq_true rfl) (sp_X10_fail ?_)
      refine aj_ireturn dX10_item_34 rfl ?_
      first | contradiction | with_reducible exact hQ | (simp (decide := true) only [↓reduceIte, Bool.false_eq_true, bi_t, bi_f, sw_eq, sw_ne, ne_eq, Nat.reduceEqDiff, not_false_eq_true, nI_pred, nI_1, gPay_ne, gItK, gItV, sw_sw, c10_1, c26_2] at hQ ⊢; with_reducible exact hQ)
  · refine aj_aload_n (q := 14) (i := 0) dX10_item_13 rfl rfl rfl ?_
    refine aj_iconst (q := 15) (v := 2) dX10_item_14 rfl (by decide) ?_
    refine aj_callV (q := 18) (As := [_]) cl_X10_225 mk_X10_fail dX10_item_15 rfl lM_0 rfl rfl (Nat.le_of_ble_eq_true rfl) (sp_X10_fail ?_)
    refine aj_ireturn dX10_item_18 rfl ?_
    first | contradiction | with_reducible exact hQ | (simp (decide := true) only [↓reduceIte, Bool.false_eq_true, bi_t, bi_f, sw_eq, sw_ne, ne_eq, Nat.reduceEqDiff, not_false_eq_true, nI_pred, nI_1, gPay_ne, gItK, gItV, sw_sw, c10_1] at hQ ⊢; with_reducible exact hQ)
theorem bod_s {M : Sx} {t i : Nat} {x : Int32} : gBodF (mP M) (t + 1) i x = gBodF (mP M) t (i + 1) (if M 600 i = -1 then x else x + 1) := rfl
theorem can_s {M : Sx} {t i : Nat} : gCanF (mP M) (t + 1) i = if M 600 i = M 1 0 - 1 then false else gCanF (mP M) t (i + 1) := rfl
theorem count_loop {d : Nat} {S : Sx} {w : Int32} {Q : Option Value → Sx → Prop} : ∀ (t i : Nat) (x : Int32), i + t = 8 → AJ d kX10_count layM 39 [some (.ref 0), some (.int w), some (.int (gBodF (mP S) t i x)), some (.int (nI 8))] [] S Q → AJ d kX10_count layM 9 [some (.ref 0), some (.int w), some (.int x), some (.int (nI i))] [] S Q := by
  intro t
  induction t with
  | zero =>
    intro i x hi hQ
    obtain rfl : i = 8 := by omega
    refine aj_iload_n (q := 10) (i := 3) dX10_count_9 rfl rfl rfl ?_
    refine aj_bipush (q := 12) (v := 8) dX10_count_10 rfl (by decide) ?_
    refine aj_icmp_ge (q := 15) (tgt := 39) dX10_count_12 rfl (by decide) (fun _ => ?_) (fun c => absurd (show (8 : Int32) ≤ nI 8 by decide) c)
    exact hQ
  | succ t ih =>
    intro i x hi hQ
    refine aj_iload_n (q := 10) (i := 3) dX10_count_9 rfl rfl rfl ?_
    refine aj_bipush (q := 12) (v := 8) dX10_count_10 rfl (by decide) ?_
    refine aj_icmp_ge (q := 15) (tgt := 39) dX10_count_12 rfl (by decide) (fun c => absurd (show nI 8 ≤ nI i from c) (nI_ge (by omega) (by omega))) (fun _ => ?_)
    refine aj_iload_n (q := 16) (i := 2) dX10_count_15 rfl rfl rfl ?_
    refine aj_aload_n (q := 17) (i := 0) dX10_count_16 rfl rfl rfl ?_
    refine aj_getR (q := 20) fl_X10_29 dX10_count_17 rfl lM_0 rfl ?_
    refine aj_iload_n (q := 21) (i := 3) dX10_count_20 rfl rfl rfl ?_
    refine aj_iaload (q := 22) (f := 600) dX10_count_21 rfl lM_6 rfl (vp_in_nI (by omega) (by omega)) ?_
    try simp only [cl i]
    refine aj_iconst (q := 23) (v := (-1)) dX10_count_22 rfl (by decide) ?_
    refine aj_icmp_ne (q := 26) (tgt := 30) dX10_count_23 rfl (by decide) (fun c23_2 => ?_) (fun c23_2 => ?_)
    · refine aj_iconst (q := 31) (v := 1) dX10_count_30 rfl (by decide) ?_
      refine aj_iadd (q := 32) dX10_count_31 rfl ?_
      try simp only [cl i]
      refine aj_istore_n (q := 33) (i := 2) (ls' := [_, _, _, _]) dX10_count_32 rfl rfl (by decide) rfl ?_
      refine aj_iinc (q := 36) (i := 3) (ls' := [_, _, _, _]) dX10_count_33 rfl rfl (nI_1 i) (by decide) rfl ?_
      refine aj_goto (tgt := 9) dX10_count_36 (by decide) ?_
      refine ih (i + 1) _ (by omega) ?_
      rw [bod_s] at hQ
      first | (rw [if_pos (by assumption)] at hQ; simp only [Int32.add_zero]; exact hQ) | (rw [if_neg (by assumption)] at hQ; exact hQ)
    · refine aj_iconst (q := 27) (v := 0) dX10_count_26 rfl (by decide) ?_
      refine aj_goto (tgt := 31) dX10_count_27 (by decide) ?_
      refine aj_iadd (q := 32) dX10_count_31 rfl ?_
      try simp only [cl i]
      refine aj_istore_n (q := 33) (i := 2) (ls' := [_, _, _, _]) dX10_count_32 rfl rfl (by decide) rfl ?_
      refine aj_iinc (q := 36) (i := 3) (ls' := [_, _, _, _]) dX10_count_33 rfl rfl (nI_1 i) (by decide) rfl ?_
      refine aj_goto (tgt := 9) dX10_count_36 (by decide) ?_
      refine ih (i + 1) _ (by omega) ?_
      rw [bod_s] at hQ
      first | (rw [if_pos (by assumption)] at hQ; simp only [Int32.add_zero]; exact hQ) | (rw [if_neg (by assumption)] at hQ; exact hQ)
def gCountM (M : Sx) (w : Int32) : Int32 := if w < 0 then -2 else if 3 < w then (if w = 4 then M 1 0 else if w = 5 then gBodF (mP M) 8 0 0 else -2) else M 1500 w.toNatClampNeg
theorem cnt_in {w : Int32} (h1 : ¬ w < 0) (h2 : ¬ 3 < w) : vp_in w 4 := by
  rw [Int32.lt_iff_toInt_lt] at h1 h2
  have e0 : (0 : Int32).toInt = 0 := rfl
  have e3 : (3 : Int32).toInt = 3 := rfl
  exact vp_in_iff.mpr ⟨by omega, by omega⟩
theorem not_lt_of {w n : Int32} (h : w = n) {z : Int32} (hz : ¬ n < z) : ¬ w < z := h ▸ hz
theorem count_end {d : Nat} {S : Sx} {Q : Option Value → Sx → Prop} {w : Int32} {z : Option Value} (hQ : Q (some (.int (gCountM S w))) (sw S 0 0 0)) : AJ d kX10_count layM 39 [some (.ref 0), some (.int w), some (.int (gBodF (mP S) 8 0 0)), z] [] (sw S 0 0 0) Q := by
  refine aj_iload_n (q := 40) (i := 1) dX10_count_39 rfl rfl rfl ?_
  refine aj_if_lt (q := 43) (tgt := 57) dX10_count_40 rfl (by decide) (fun c40_1 => ?_) (fun c40_1 => ?_)
  · refine aj_iload_n (q := 58) (i := 1) dX10_count_57 rfl rfl rfl ?_
    refine aj_iconst (q := 59) (v := 4) dX10_count_58 rfl (by decide) ?_
    refine aj_icmp_ne (q := 62) (tgt := 69) dX10_count_59 rfl (by decide) (fun c59_2 => ?_) (fun c59_2 => ?_)
    · refine aj_iload_n (q := 70) (i := 1) dX10_count_69 rfl rfl rfl ?_
      refine aj_iconst (q := 71) (v := 5) dX10_count_70 rfl (by decide) ?_
      refine aj_icmp_ne (q := 74) (tgt := 78) dX10_count_71 rfl (by decide) (fun c71_3 => ?_) (fun c71_3 => ?_)
      · refine aj_bipush (q := 80) (v := (-2)) dX10_count_78 rfl (by decide) ?_
        refine aj_ireturn dX10_count_80 rfl ?_
        first | (simp only [gCountM, ↓reduceIte, c40_1, c59_2, c71_3] at hQ; with_reducible exact hQ) | (subst_vars; simp (decide := true) only [gCountM, ↓reduceIte, sw_eq, sw_ne, ne_eq, Nat.reduceEqDiff, not_false_eq_true] at hQ ⊢; with_reducible exact hQ)
      · refine aj_iload_n (q := 75) (i := 2) dX10_count_74 rfl rfl rfl ?_
        refine aj_goto (tgt := 80) dX10_count_75 (by decide) ?_
        refine aj_ireturn dX10_count_80 rfl ?_
        first | (simp only [gCountM, ↓reduceIte, c40_1, c59_2, c71_3] at hQ; with_reducible exact hQ) | (subst_vars; simp (decide := true) only [gCountM, ↓reduceIte, sw_eq, sw_ne, ne_eq, Nat.reduceEqDiff, not_false_eq_true] at hQ ⊢; with_reducible exact hQ)
    · refine aj_aload_n (q := 63) (i := 0) dX10_count_62 rfl rfl rfl ?_
      refine aj_getI (q := 66) (f := 1) fl_X10_83 dX10_count_63 rfl lM_0 rfl rfl ?_
      try simp (decide := true) only [sw_eq, sw_ne, ne_eq, Nat.reduceEqDiff, not_false_eq_true]
      refine aj_goto (tgt := 80) dX10_count_66 (by decide) ?_
      refine aj_ireturn dX10_count_80 rfl ?_
      first | (simp only [gCountM, ↓reduceIte, c40_1, c59_2] at hQ; with_reducible exact hQ) | (subst_vars; simp (decide := true) only [gCountM, ↓reduceIte, sw_eq, sw_ne, ne_eq, Nat.reduceEqDiff, not_false_eq_true] at hQ ⊢; with_reducible exact hQ)
  · refine aj_iload_n (q := 44) (i := 1) dX10_count_43 rfl rfl rfl ?_
    refine aj_iconst (q := 45) (v := 3) dX10_count_44 rfl (by decide) ?_
    refine aj_icmp_gt (q := 48) (tgt := 57) dX10_count_45 rfl (by decide) (fun c45_4 => ?_) (fun c45_4 => ?_)
    · refine aj_iload_n (q := 58) (i := 1) dX10_count_57 rfl rfl rfl ?_
      refine aj_iconst (q := 59) (v := 4) dX10_count_58 rfl (by decide) ?_
      refine aj_icmp_ne (q := 62) (tgt := 69) dX10_count_59 rfl (by decide) (fun c59_5 => ?_) (fun c59_5 => ?_)
      · refine aj_iload_n (q := 70) (i := 1) dX10_count_69 rfl rfl rfl ?_
        refine aj_iconst (q := 71) (v := 5) dX10_count_70 rfl (by decide) ?_
        refine aj_icmp_ne (q := 74) (tgt := 78) dX10_count_71 rfl (by decide) (fun c71_6 => ?_) (fun c71_6 => ?_)
        · refine aj_bipush (q := 80) (v := (-2)) dX10_count_78 rfl (by decide) ?_
          refine aj_ireturn dX10_count_80 rfl ?_
          first | (simp only [gCountM, ↓reduceIte, c40_1, c45_4, c59_5, c71_6] at hQ; with_reducible exact hQ) | (subst_vars; simp (decide := true) only [gCountM, ↓reduceIte, sw_eq, sw_ne, ne_eq, Nat.reduceEqDiff, not_false_eq_true] at hQ ⊢; with_reducible exact hQ)
        · refine aj_iload_n (q := 75) (i := 2) dX10_count_74 rfl rfl rfl ?_
          refine aj_goto (tgt := 80) dX10_count_75 (by decide) ?_
          refine aj_ireturn dX10_count_80 rfl ?_
          first | (simp only [gCountM, ↓reduceIte, c40_1, c45_4, c59_5, c71_6] at hQ; with_reducible exact hQ) | (subst_vars; simp (decide := true) only [gCountM, ↓reduceIte, sw_eq, sw_ne, ne_eq, Nat.reduceEqDiff, not_false_eq_true] at hQ ⊢; with_reducible exact hQ)
      · refine aj_aload_n (q := 63) (i := 0) dX10_count_62 rfl rfl rfl ?_
        refine aj_getI (q := 66) (f := 1) fl_X10_83 dX10_count_63 rfl lM_0 rfl rfl ?_
        try simp (decide := true) only [sw_eq, sw_ne, ne_eq, Nat.reduceEqDiff, not_false_eq_true]
        refine aj_goto (tgt := 80) dX10_count_66 (by decide) ?_
        refine aj_ireturn dX10_count_80 rfl ?_
        first | (simp only [gCountM, ↓reduceIte, c40_1, c45_4, c59_5] at hQ; with_reducible exact hQ) | (subst_vars; simp (decide := true) only [gCountM, ↓reduceIte, sw_eq, sw_ne, ne_eq, Nat.reduceEqDiff, not_false_eq_true] at hQ ⊢; with_reducible exact hQ)
    · refine aj_aload_n (q := 49) (i := 0) dX10_count_48 rfl rfl rfl ?_
      refine aj_getR (q := 52) fl_X10_59 dX10_count_49 rfl lM_0 rfl ?_
      refine aj_iload_n (q := 53) (i := 1) dX10_count_52 rfl rfl rfl ?_
      refine aj_iaload (q := 54) (f := 1500) dX10_count_53 rfl lM_15 rfl (cnt_in (by assumption) (by assumption)) ?_
      try simp (decide := true) only [sw_eq, sw_ne, ne_eq, Nat.reduceEqDiff, not_false_eq_true]
      refine aj_goto (tgt := 80) dX10_count_54 (by decide) ?_
      refine aj_ireturn dX10_count_80 rfl ?_
      first | (simp only [gCountM, ↓reduceIte, c40_1, c45_4] at hQ; with_reducible exact hQ) | (subst_vars; simp (decide := true) only [gCountM, ↓reduceIte, sw_eq, sw_ne, ne_eq, Nat.reduceEqDiff, not_false_eq_true] at hQ ⊢; with_reducible exact hQ)
theorem sp_X10_count {d : Nat} {S : Sx} {Q : Option Value → Sx → Prop} {w : Int32}   (hQ : Q (some (.int (gCountM S w))) (sw S 0 0 0)) : CC d kX10_count layM [.ref 0, .int w] S Q := by
  refine cc_intro [some _, some _, none, none] (by decide) (cc_cat (by rfl)) (Nat.le_of_ble_eq_true rfl) (cc_ls (by rfl)) ?_
  refine aj_aload_n (q := 1) (i := 0) dX10_count_0 rfl rfl rfl ?_
  refine aj_iconst (q := 2) (v := 0) dX10_count_1 rfl (by decide) ?_
  refine aj_putI (q := 5) (f := 0) okM fp_X10_1 dX10_count_2 rfl lM_0 rfl rfl ?_
  refine aj_iconst (q := 6) (v := 0) dX10_count_5 rfl (by decide) ?_
  refine aj_istore_n (q := 7) (i := 2) (ls' := [_, _, _, _]) dX10_count_6 rfl rfl (by decide) rfl ?_
  refine aj_iconst (q := 8) (v := 0) dX10_count_7 rfl (by decide) ?_
  refine aj_istore_n (q := 9) (i := 3) (ls' := [_, _, _, _]) dX10_count_8 rfl rfl (by decide) rfl ?_
  refine count_loop 8 0 0 (by omega) ?_
  rw [mP_0]
  exact count_end hQ
theorem drop_loop {d : Nat} {S : Sx} {Q : Option Value → Sx → Prop} : ∀ (t i : Nat) (b : Bool), i + t = 8 → AJ d kX10_drop layM 57 [some (.ref 0), some (.int (bi (b && gCanF (mP S) t i))), some (.int (nI 8))] [] S Q → AJ d kX10_drop layM 20 [some (.ref 0), some (.int (bi b)), some (.int (nI i))] [] S Q := by
  intro t
  induction t with
  | zero =>
    intro i b hi hQ
    obtain rfl : i = 8 := by omega
    rw [gCanF, Bool.and_true] at hQ
    refine aj_iload_n (q := 21) (i := 2) dX10_drop_20 rfl rfl rfl ?_
    refine aj_bipush (q := 23) (v := 8) dX10_drop_21 rfl (by decide) ?_
    refine aj_icmp_ge (q := 26) (tgt := 57) dX10_drop_23 rfl (by decide) (fun _ => ?_) (fun c => absurd (show (8 : Int32) ≤ nI 8 by decide) c)
    exact hQ
  | succ t ih =>
    intro i b hi hQ
    cases b with
    | false =>
      refine aj_iload_n (q := 21) (i := 2) dX10_drop_20 rfl rfl rfl ?_
      refine aj_bipush (q := 23) (v := 8) dX10_drop_21 rfl (by decide) ?_
      refine aj_icmp_ge (q := 26) (tgt := 57) dX10_drop_23 rfl (by decide) (fun c => absurd (show nI 8 ≤ nI i from c) (nI_ge (by omega) (by omega))) (fun _ => ?_)
      refine aj_iload_n (q := 27) (i := 1) dX10_drop_26 rfl rfl rfl ?_
      refine aj_if_eq (q := 30) (tgt := 49) dX10_drop_27 rfl (by decide) (fun _ => ?_) (fun c => absurd (show bi false = 0 from rfl) c)
      refine aj_iconst (q := 50) (v := 0) dX10_drop_49 rfl (by decide) ?_
      refine aj_istore_n (q := 51) (i := 1) (ls' := [_, _, _]) dX10_drop_50 rfl rfl (by decide) rfl ?_
      refine aj_iinc (q := 54) (i := 2) (ls' := [_, _, _]) dX10_drop_51 rfl rfl (nI_1 i) (by decide) rfl ?_
      refine aj_goto (tgt := 20) dX10_drop_54 (by decide) ?_
      exact ih (i + 1) false (by omega) hQ
    | true =>
      rw [can_s] at hQ
      refine aj_iload_n (q := 21) (i := 2) dX10_drop_20 rfl rfl rfl ?_
      refine aj_bipush (q := 23) (v := 8) dX10_drop_21 rfl (by decide) ?_
      refine aj_icmp_ge (q := 26) (tgt := 57) dX10_drop_23 rfl (by decide) (fun c => absurd (show nI 8 ≤ nI i from c) (nI_ge (by omega) (by omega))) (fun _ => ?_)
      refine aj_iload_n (q := 27) (i := 1) dX10_drop_26 rfl rfl rfl ?_
      refine aj_if_eq (q := 30) (tgt := 49) dX10_drop_27 rfl (by decide) (fun c => absurd (show bi true = 0 from c) (by decide)) (fun _ => ?_)
      refine aj_aload_n (q := 31) (i := 0) dX10_drop_30 rfl rfl rfl ?_
      refine aj_getR (q := 34) fl_X10_29 dX10_drop_31 rfl lM_0 rfl ?_
      refine aj_iload_n (q := 35) (i := 2) dX10_drop_34 rfl rfl rfl ?_
      refine aj_iaload (q := 36) (f := 600) dX10_drop_35 rfl lM_6 rfl (vp_in_nI (by omega) (by omega)) ?_
      try simp only [cl i]
      refine aj_aload_n (q := 37) (i := 0) dX10_drop_36 rfl rfl rfl ?_
      refine aj_getI (q := 40) (f := 1) fl_X10_83 dX10_drop_37 rfl lM_0 rfl rfl ?_
      try simp only [cl i]
      refine aj_iconst (q := 41) (v := 1) dX10_drop_40 rfl (by decide) ?_
      refine aj_isub (q := 42) dX10_drop_41 rfl ?_
      try simp only [cl i]
      refine aj_icmp_eq (q := 45) (tgt := 49) dX10_drop_42 rfl (by decide) (fun c42_3 => ?_) (fun c42_3 => ?_)
      · refine aj_iconst (q := 50) (v := 0) dX10_drop_49 rfl (by decide) ?_
        refine aj_istore_n (q := 51) (i := 1) (ls' := [_, _, _]) dX10_drop_50 rfl rfl (by decide) rfl ?_
        refine aj_iinc (q := 54) (i := 2) (ls' := [_, _, _]) dX10_drop_51 rfl rfl (nI_1 i) (by decide) rfl ?_
        refine aj_goto (tgt := 20) dX10_drop_54 (by decide) ?_
        first | (rw [if_pos (by assumption)] at hQ; exact ih (i + 1) false (by omega) hQ) | (rw [if_neg (by assumption)] at hQ; exact ih (i + 1) true (by omega) hQ)
      · refine aj_iconst (q := 46) (v := 1) dX10_drop_45 rfl (by decide) ?_
        refine aj_goto (tgt := 50) dX10_drop_46 (by decide) ?_
        refine aj_istore_n (q := 51) (i := 1) (ls' := [_, _, _]) dX10_drop_50 rfl rfl (by decide) rfl ?_
        refine aj_iinc (q := 54) (i := 2) (ls' := [_, _, _]) dX10_drop_51 rfl rfl (nI_1 i) (by decide) rfl ?_
        refine aj_goto (tgt := 20) dX10_drop_54 (by decide) ?_
        first | (rw [if_pos (by assumption)] at hQ; exact ih (i + 1) false (by omega) hQ) | (rw [if_neg (by assumption)] at hQ; exact ih (i + 1) true (by omega) hQ)
theorem nI_le0 {k : Nat} (hk : k ≤ 120) : nI k ≤ 0 ↔ k = 0 := by
  have := nI_leI (a := k) (b := 0) (by omega) (by omega)
  rw [show (0 : Int32) = nI 0 by decide, this]
  omega
theorem sp_X10_drop {d : Nat} {S : Sx} {Q : Option Value → Sx → Prop} {k : Nat} (hk : S 1 0 = nI (k + 1)) (hk2 : k + 1 ≤ 120) (hc : gCanF (mP S) 8 0 = true) (hQ : Q (some (.int (nI k))) (sw (sw S 0 0 0) 1 0 (nI k))) : CC d kX10_drop layM [.ref 0] S Q := by
  refine cc_intro [some _, none, none] (by decide) (cc_cat (by rfl)) (Nat.le_of_ble_eq_true rfl) (cc_ls (by rfl)) ?_
  refine aj_aload_n (q := 1) (i := 0) dX10_drop_0 rfl rfl rfl ?_
  refine aj_iconst (q := 2) (v := 0) dX10_drop_1 rfl (by decide) ?_
  refine aj_putI (q := 5) (f := 0) okM fp_X10_1 dX10_drop_2 rfl lM_0 rfl rfl ?_
  refine aj_aload_n (q := 6) (i := 0) dX10_drop_5 rfl rfl rfl ?_
  refine aj_getI (q := 9) (f := 1) fl_X10_83 dX10_drop_6 rfl lM_0 rfl rfl ?_
  try simp (decide := true) only [sw_eq, sw_ne, ne_eq, Nat.reduceEqDiff, not_false_eq_true, nI_pred, nI_1, gPay_ne, hk]
  refine aj_if_le (q := 12) (tgt := 16) dX10_drop_9 rfl (by decide) (fun c => absurd ((nI_le0 hk2).mp c) (by omega)) (fun _ => ?_)
  refine aj_iconst (q := 13) (v := 1) dX10_drop_12 rfl (by decide) ?_
  refine aj_goto (tgt := 17) dX10_drop_13 (by decide) ?_
  refine aj_istore_n (q := 18) (i := 1) (ls' := [_, _, _]) dX10_drop_17 rfl rfl (by decide) rfl ?_
  refine aj_iconst (q := 19) (v := 0) dX10_drop_18 rfl (by decide) ?_
  refine aj_istore_n (q := 20) (i := 2) (ls' := [_, _, _]) dX10_drop_19 rfl rfl (by decide) rfl ?_
  refine drop_loop 8 0 true (by omega) ?_
  refine aj_iload_n (q := 58) (i := 1) dX10_drop_57 rfl rfl rfl ?_
  refine aj_if_ne (q := 61) (tgt := 64) dX10_drop_58 rfl (by decide) (fun _ => ?_) (fun c => absurd (show bi (true && gCanF (mP (sw S 0 0 0)) 8 0) = 0 from c) (by rw [mP_0, hc]; decide))
  refine aj_aload_n (q := 65) (i := 0) dX10_drop_64 rfl rfl rfl ?_
  refine aj_dup (q := 66) dX10_drop_65 rfl rfl ?_
  refine aj_getI (q := 69) (f := 1) fl_X10_83 dX10_drop_66 rfl lM_0 rfl rfl ?_
  try simp (decide := true) only [sw_eq, sw_ne, ne_eq, Nat.reduceEqDiff, not_false_eq_true, hk, nI_pred]
  refine aj_iconst (q := 70) (v := 1) dX10_drop_69 rfl (by decide) ?_
  refine aj_isub (q := 71) dX10_drop_70 rfl ?_
  try simp (decide := true) only [sw_eq, sw_ne, ne_eq, Nat.reduceEqDiff, not_false_eq_true, hk, nI_pred]
  refine aj_putI (q := 74) (f := 1) okM fp_X10_83 dX10_drop_71 rfl lM_0 rfl rfl ?_
  refine aj_aload_n (q := 75) (i := 0) dX10_drop_74 rfl rfl rfl ?_
  refine aj_getI (q := 78) (f := 1) fl_X10_83 dX10_drop_75 rfl lM_0 rfl rfl ?_
  try simp (decide := true) only [sw_eq, sw_ne, ne_eq, Nat.reduceEqDiff, not_false_eq_true, hk, nI_pred]
  refine aj_ireturn dX10_drop_78 rfl ?_
  exact hQ
theorem sp_X10_drop_no {d : Nat} {S : Sx} {Q : Option Value → Sx → Prop} {k : Nat} (hk : S 1 0 = nI k) (hk2 : k ≤ 120) (hc : k = 0 ∨ gCanF (mP S) 8 0 = false) (hQ : Q (some (.int (-2))) (sw S 0 0 0)) : CC d kX10_drop layM [.ref 0] S Q := by
  refine cc_intro [some _, none, none] (by decide) (cc_cat (by rfl)) (Nat.le_of_ble_eq_true rfl) (cc_ls (by rfl)) ?_
  refine aj_aload_n (q := 1) (i := 0) dX10_drop_0 rfl rfl rfl ?_
  refine aj_iconst (q := 2) (v := 0) dX10_drop_1 rfl (by decide) ?_
  refine aj_putI (q := 5) (f := 0) okM fp_X10_1 dX10_drop_2 rfl lM_0 rfl rfl ?_
  refine aj_aload_n (q := 6) (i := 0) dX10_drop_5 rfl rfl rfl ?_
  refine aj_getI (q := 9) (f := 1) fl_X10_83 dX10_drop_6 rfl lM_0 rfl rfl ?_
  try simp (decide := true) only [sw_eq, sw_ne, ne_eq, Nat.reduceEqDiff, not_false_eq_true, nI_pred, nI_1, gPay_ne, hk]
  refine aj_if_le (q := 12) (tgt := 16) dX10_drop_9 rfl (by decide) (fun c9_1 => ?_) (fun c9_1 => ?_)
  · refine aj_iconst (q := 17) (v := 0) dX10_drop_16 rfl (by decide) ?_
    refine aj_istore_n (q := 18) (i := 1) (ls' := [_, _, _]) dX10_drop_17 rfl rfl (by decide) rfl ?_
    refine aj_iconst (q := 19) (v := 0) dX10_drop_18 rfl (by decide) ?_
    refine aj_istore_n (q := 20) (i := 2) (ls' := [_, _, _]) dX10_drop_19 rfl rfl (by decide) rfl ?_
    refine drop_loop 8 0 false (by omega) ?_
    refine aj_iload_n (q := 58) (i := 1) dX10_drop_57 rfl rfl rfl ?_
    refine aj_if_ne (q := 61) (tgt := 64) dX10_drop_58 rfl (by decide) (fun c => absurd (show bi (false && _) = 0 from rfl) c) (fun _ => ?_)
    refine aj_bipush (q := 63) (v := (-2)) dX10_drop_61 rfl (by decide) ?_
    refine aj_ireturn dX10_drop_63 rfl ?_
    exact hQ
  · refine aj_iconst (q := 13) (v := 1) dX10_drop_12 rfl (by decide) ?_
    refine aj_goto (tgt := 17) dX10_drop_13 (by decide) ?_
    refine aj_istore_n (q := 18) (i := 1) (ls' := [_, _, _]) dX10_drop_17 rfl rfl (by decide) rfl ?_
    refine aj_iconst (q := 19) (v := 0) dX10_drop_18 rfl (by decide) ?_
    refine aj_istore_n (q := 20) (i := 2) (ls' := [_, _, _]) dX10_drop_19 rfl rfl (by decide) rfl ?_
    refine drop_loop 8 0 true (by omega) ?_
    refine aj_iload_n (q := 58) (i := 1) dX10_drop_57 rfl rfl rfl ?_
    refine aj_if_ne (q := 61) (tgt := 64) dX10_drop_58 rfl (by decide) (fun c => absurd (by rcases hc with q | q <;> first | exact absurd ((nI_le0 hk2).mpr q) (by assumption) | (rw [mP_0, q]; rfl)) c) (fun _ => ?_)
    refine aj_bipush (q := 63) (v := (-2)) dX10_drop_61 rfl (by decide) ?_
    refine aj_ireturn dX10_drop_63 rfl ?_
    exact hQ
theorem sp_isSt0 {d : Nat} {S : Sx} {Q : Option Value → Sx → Prop} {x : Int32} (hQ : Q (some (.int (bi (inb x (S 1 0))))) (sw S 0 0 0)) : CC (d + 1) kX10_isStatement layM [.ref 0, .int x] (sw S 0 0 0) Q := sp_X10_isStatement hQ
def gBodyM (M : Sx) (m s : Int32) : Sx := sw (sw M 0 0 0) 600 m.toNatClampNeg s
theorem sp_X10_body {d : Nat} {S : Sx} {Q : Option Value → Sx → Prop} {m s : Int32}   (hQ : Q (some (.int (if inb m 8 then (if s = -1 then 1 else if inb s (S 1 0) then 1 else -2) else -2))) (if inb m 8 then (if s = -1 then gBodyM S m s else if inb s (S 1 0) then gBodyM S m s else sw S 0 0 0) else sw S 0 0 0)) : CC (d + 2) kX10_body layM [.ref 0, .int m, .int s] S Q := by
  refine cc_intro [some _, some _, some _] (by decide) (cc_cat (by rfl)) (Nat.le_of_ble_eq_true rfl) (cc_ls (by rfl)) ?_
  refine aj_aload_n (q := 1) (i := 0) dX10_body_0 rfl rfl rfl ?_
  refine aj_iconst (q := 2) (v := 0) dX10_body_1 rfl (by decide) ?_
  refine aj_putI (q := 5) (f := 0) okM fp_X10_1 dX10_body_2 rfl lM_0 rfl rfl ?_
  refine aj_iload_n (q := 6) (i := 1) dX10_body_5 rfl rfl rfl ?_
  refine aj_bipush (q := 8) (v := 8) dX10_body_6 rfl (by decide) ?_
  refine aj_callS (q := 11) (As := [_, _]) cl_X10_86 mk_X10_isIn dX10_body_8 rfl rfl (Nat.le_of_ble_eq_true rfl) (sp_X10_isIn ?_)
  refine aj_ifB_eq (q := 14) (tgt := 27) dX10_body_11 rfl (by decide) (fun c11_1 => ?_) (fun c11_1 => ?_)
  · refine aj_bipush (q := 29) (v := (-2)) dX10_body_27 rfl (by decide) ?_
    refine aj_ireturn dX10_body_29 rfl ?_
    first | contradiction | with_reducible exact hQ | (simp (decide := true) only [↓reduceIte, Bool.false_eq_true, sw_eq, sw_ne, ne_eq, Nat.reduceEqDiff, not_false_eq_true, gBodyM, c11_1] at hQ; with_reducible exact hQ) | (simp (decide := true) only [↓reduceIte, Bool.false_eq_true, sw_eq, sw_ne, ne_eq, Nat.reduceEqDiff, not_false_eq_true, gBodyM, c11_1] at hQ ⊢; with_reducible exact hQ)
  · refine aj_iload_n (q := 15) (i := 2) dX10_body_14 rfl rfl rfl ?_
    refine aj_iconst (q := 16) (v := (-1)) dX10_body_15 rfl (by decide) ?_
    refine aj_icmp_eq (q := 19) (tgt := 30) dX10_body_16 rfl (by decide) (fun c16_2 => ?_) (fun c16_2 => ?_)
    · refine aj_aload_n (q := 31) (i := 0) dX10_body_30 rfl rfl rfl ?_
      refine aj_getR (q := 34) fl_X10_29 dX10_body_31 rfl lM_0 rfl ?_
      refine aj_iload_n (q := 35) (i := 1) dX10_body_34 rfl rfl rfl ?_
      refine aj_iload_n (q := 36) (i := 2) dX10_body_35 rfl rfl rfl ?_
      refine aj_iastore (q := 37) (f := 600) okM dX10_body_36 rfl lM_6 rfl (vin (m := 8) (by decide) (by assumption)) ?_
      refine aj_iconst (q := 38) (v := 1) dX10_body_37 rfl (by decide) ?_
      refine aj_ireturn dX10_body_38 rfl ?_
      first | contradiction | with_reducible exact hQ | (simp (decide := true) only [↓reduceIte, Bool.false_eq_true, sw_eq, sw_ne, ne_eq, Nat.reduceEqDiff, not_false_eq_true, gBodyM, c11_1, c16_2] at hQ; with_reducible exact hQ) | (simp (decide := true) only [↓reduceIte, Bool.false_eq_true, sw_eq, sw_ne, ne_eq, Nat.reduceEqDiff, not_false_eq_true, gBodyM, c11_1, c16_2] at hQ ⊢; with_reducible exact hQ)
    · refine aj_aload_n (q := 20) (i := 0) dX10_body_19 rfl rfl rfl ?_
      refine aj_iload_n (q := 21) (i := 2) dX10_body_20 rfl rfl rfl ?_
      refine aj_callV (q := 24) (As := [_]) cl_X10_90 mk_X10_isStatement dX10_body_21 rfl lM_0 rfl rfl (Nat.le_of_ble_eq_true rfl) (sp_isSt0 ?_)
      refine aj_ifB_ne (q := 27) (tgt := 30) dX10_body_24 rfl (by decide) (fun c24_3 => ?_) (fun c24_3 => ?_)
      · refine aj_aload_n (q := 31) (i := 0) dX10_body_30 rfl rfl rfl ?_
        refine aj_getR (q := 34) fl_X10_29 dX10_body_31 rfl lM_0 rfl ?_
        refine aj_iload_n (q := 35) (i := 1) dX10_body_34 rfl rfl rfl ?_
        refine aj_iload_n (q := 36) (i := 2) dX10_body_35 rfl rfl rfl ?_
        refine aj_iastore (q := 37) (f := 600) okM dX10_body_36 rfl lM_6 rfl (vin (m := 8) (by decide) (by assumption)) ?_
        refine aj_iconst (q := 38) (v := 1) dX10_body_37 rfl (by decide) ?_
        refine aj_ireturn dX10_body_38 rfl ?_
        first | contradiction | with_reducible exact hQ | (simp (decide := true) only [↓reduceIte, Bool.false_eq_true, sw_eq, sw_ne, ne_eq, Nat.reduceEqDiff, not_false_eq_true, gBodyM, c11_1, c16_2, c24_3] at hQ; with_reducible exact hQ) | (simp (decide := true) only [↓reduceIte, Bool.false_eq_true, sw_eq, sw_ne, ne_eq, Nat.reduceEqDiff, not_false_eq_true, gBodyM, c11_1, c16_2, c24_3] at hQ ⊢; with_reducible exact hQ)
      · refine aj_bipush (q := 29) (v := (-2)) dX10_body_27 rfl (by decide) ?_
        refine aj_ireturn dX10_body_29 rfl ?_
        first | contradiction | with_reducible exact hQ | (simp (decide := true) only [↓reduceIte, Bool.false_eq_true, sw_eq, sw_ne, ne_eq, Nat.reduceEqDiff, not_false_eq_true, gBodyM, c11_1, c16_2, c24_3] at hQ; with_reducible exact hQ) | (simp (decide := true) only [↓reduceIte, Bool.false_eq_true, sw_eq, sw_ne, ne_eq, Nat.reduceEqDiff, not_false_eq_true, gBodyM, c11_1, c16_2, c24_3] at hQ ⊢; with_reducible exact hQ)
theorem fit_mid {S : Sx} {t a b c : Int32} (h1 : ¬ t < 1) (h2 : ¬ 5 < t) : oFit S t a b c = (inb a 8 && inb b 8 && inb c 8) := by
  rw [Int32.lt_iff_toInt_lt] at h1 h2
  have e1 : (1 : Int32).toInt = 1 := rfl
  have e5 : (5 : Int32).toInt = 5 := rfl
  have hx : t = 1 ∨ t = 2 ∨ t = 3 ∨ t = 4 ∨ t = 5 := by
    rcases (show t.toInt = 1 ∨ t.toInt = 2 ∨ t.toInt = 3 ∨ t.toInt = 4 ∨ t.toInt = 5 by omega) with q | q | q | q | q
    · exact Or.inl (Int32.toInt_inj.mp q)
    · exact Or.inr (Or.inl (Int32.toInt_inj.mp q))
    · exact Or.inr (Or.inr (Or.inl (Int32.toInt_inj.mp q)))
    · exact Or.inr (Or.inr (Or.inr (Or.inl (Int32.toInt_inj.mp q))))
    · exact Or.inr (Or.inr (Or.inr (Or.inr (Int32.toInt_inj.mp q))))
  rcases hx with rfl | rfl | rfl | rfl | rfl <;> rfl
theorem fit_none {S : Sx} {t a b c : Int32} (h : t < 1 ∨ 5 < t) (e0 : ¬ t = 0) (e6 : ¬ t = 6) (e7 : ¬ t = 7) (e8 : ¬ t = 8) (e9 : ¬ t = 9) (e10 : ¬ t = 10) (e11 : ¬ t = 11) (e12 : ¬ t = 12) (e13 : ¬ t = 13) (e14 : ¬ t = 14) (e15 : ¬ t = 15) (e16 : ¬ t = 16) (e17 : ¬ t = 17) (e18 : ¬ t = 18) (e19 : ¬ t = 19) (e20 : ¬ t = 20) (e21 : ¬ t = 21) : oFit S t a b c = false := by
  have e : ∀ n : Int32, ¬ (n < 1 ∨ 5 < n) → ¬ t = n := fun n hn e => hn (e ▸ h)
  unfold oFit
  rw [if_neg e0, if_neg (e 1 (by decide)), if_neg (e 2 (by decide)), if_neg (e 3 (by decide)), if_neg (e 4 (by decide)), if_neg (e 5 (by decide)), if_neg e6, if_neg e7, if_neg e8, if_neg e9, if_neg e10, if_neg e11, if_neg e12, if_neg e13, if_neg e14, if_neg e15, if_neg e16, if_neg e17, if_neg e18, if_neg e19, if_neg e20, if_neg e21]
set_option maxRecDepth 4000 in
theorem sp_X10_isRight {d : Nat} {S : Sx} {Q : Option Value → Sx → Prop} {t a b c : Int32}   (hQ : Q (some (.int (bi (oFit (mP S) t a b c)))) (S)) : CC (d + 2) kX10_isRight layM [.ref 0, .int t, .int a, .int b, .int c] S Q := by
  refine cc_intro [some _, some _, some _, some _, some _] (by decide) (cc_cat (by rfl)) (Nat.le_of_ble_eq_true rfl) (cc_ls (by rfl)) ?_
  refine aj_iload_n (q := 1) (i := 1) dX10_isRight_0 rfl rfl rfl ?_
  refine aj_tsn (fun x1 ex1 => ?_)
  by_cases e1_0 : x1 = 0
  · refine aj_tsIn (tgt := 104) (off := 103) dX10_isRight_1 (by rw [e1_0]; decide) (by rw [e1_0]; decide) (by rw [e1_0]; rfl) (by decide) ?_
    refine aj_iload_n (q := 105) (i := 2) dX10_isRight_104 rfl rfl rfl ?_
    refine aj_bipush (q := 107) (v := 8) dX10_isRight_105 rfl (by decide) ?_
    refine aj_callS (q := 110) (As := [_, _]) cl_X10_86 mk_X10_isIn dX10_isRight_107 rfl rfl (Nat.le_of_ble_eq_true rfl) (sp_X10_isIn ?_)
    refine aj_zreturn dX10_isRight_110 rfl (by first | exact bi_nar _ | decide) ?_
    skip; subst ex1
    first | contradiction | with_reducible exact hQ | (simp (decide := true) only [oFit, show mP S 1706 0 = S 1 0 from rfl, ↓reduceIte, Bool.false_eq_true, bi_t, bi_f, Bool.and_true, Bool.true_and, Bool.and_false, Bool.false_and, ite_self, e1_0] at hQ; with_reducible exact hQ) | (simp (decide := true) only [oFit, show mP S 1706 0 = S 1 0 from rfl, ↓reduceIte, Bool.false_eq_true, bi_t, bi_f, Bool.and_true, Bool.true_and, Bool.and_false, Bool.false_and, ite_self, e1_0] at hQ ⊢; with_reducible exact hQ) | (rw [fit_mid (by assumption) (by assumption)] at hQ; simp (decide := true) only [oFit, show mP S 1706 0 = S 1 0 from rfl, ↓reduceIte, Bool.false_eq_true, bi_t, bi_f, Bool.and_true, Bool.true_and, Bool.and_false, Bool.false_and, ite_self, e1_0] at hQ; with_reducible exact hQ) | (rw [fit_none (by first | exact Or.inl (by assumption) | exact Or.inr (by assumption)) (by first | assumption | decide) (by first | assumption | decide) (by first | assumption | decide) (by first | assumption | decide) (by first | assumption | decide) (by first | assumption | decide) (by first | assumption | decide) (by first | assumption | decide) (by first | assumption | decide) (by first | assumption | decide) (by first | assumption | decide) (by first | assumption | decide) (by first | assumption | decide) (by first | assumption | decide) (by first | assumption | decide) (by first | assumption | decide) (by first | assumption | decide)] at hQ; exact hQ)
  by_cases e1_6 : x1 = 6
  · refine aj_tsIn (tgt := 111) (off := 110) dX10_isRight_1 (by rw [e1_6]; decide) (by rw [e1_6]; decide) (by rw [e1_6]; rfl) (by decide) ?_
    refine aj_iload_n (q := 112) (i := 2) dX10_isRight_111 rfl rfl rfl ?_
    refine aj_iconst (q := 113) (v := 4) dX10_isRight_112 rfl (by decide) ?_
    refine aj_callS (q := 116) (As := [_, _]) cl_X10_86 mk_X10_isIn dX10_isRight_113 rfl rfl (Nat.le_of_ble_eq_true rfl) (sp_X10_isIn ?_)
    refine aj_ifB_eq (q := 119) (tgt := 132) dX10_isRight_116 rfl (by decide) (fun c116_2 => ?_) (fun c116_2 => ?_)
    · refine aj_iconst (q := 133) (v := 0) dX10_isRight_132 rfl (by decide) ?_
      refine aj_zreturn dX10_isRight_133 rfl (by first | exact bi_nar _ | decide) ?_
      skip; subst ex1
      first | contradiction | with_reducible exact hQ | (simp (decide := true) only [oFit, show mP S 1706 0 = S 1 0 from rfl, ↓reduceIte, Bool.false_eq_true, bi_t, bi_f, Bool.and_true, Bool.true_and, Bool.and_false, Bool.false_and, ite_self, e1_6, c116_2] at hQ; with_reducible exact hQ) | (simp (decide := true) only [oFit, show mP S 1706 0 = S 1 0 from rfl, ↓reduceIte, Bool.false_eq_true, bi_t, bi_f, Bool.and_true, Bool.true_and, Bool.and_false, Bool.false_and, ite_self, e1_6, c116_2] at hQ ⊢; with_reducible exact hQ) | (rw [fit_mid (by assumption) (by assumption)] at hQ; simp (decide := true) only [oFit, show mP S 1706 0 = S 1 0 from rfl, ↓reduceIte, Bool.false_eq_true, bi_t, bi_f, Bool.and_true, Bool.true_and, Bool.and_false, Bool.false_and, ite_self, e1_6, c116_2] at hQ; with_reducible exact hQ) | (rw [fit_none (by first | exact Or.inl (by assumption) | exact Or.inr (by assumption)) (by first | assumption | decide) (by first | assumption | decide) (by first | assumption | decide) (by first | assumption | decide) (by first | assumption | decide) (by first | assumption | decide) (by first | assumption | decide) (by first | assumption | decide) (by first | assumption | decide) (by first | assumption | decide) (by first | assumption | decide) (by first | assumption | decide) (by first | assumption | decide) (by first | assumption | decide) (by first | assumption | decide) (by first | assumption | decide) (by first | assumption | decide)] at hQ; exact hQ)
    · refine aj_iload_n (q := 120) (i := 3) dX10_isRight_119 rfl rfl rfl ?_
      refine aj_bipush (q := 122) (v := 8) dX10_isRight_120 rfl (by decide) ?_
      refine aj_callS (q := 125) (As := [_, _]) cl_X10_86 mk_X10_isIn dX10_isRight_122 rfl rfl (Nat.le_of_ble_eq_true rfl) (sp_X10_isIn ?_)
      refine aj_ifB_eq (q := 128) (tgt := 132) dX10_isRight_125 rfl (by decide) (fun c125_3 => ?_) (fun c125_3 => ?_)
      · refine aj_iconst (q := 133) (v := 0) dX10_isRight_132 rfl (by decide) ?_
        refine aj_zreturn dX10_isRight_133 rfl (by first | exact bi_nar _ | decide) ?_
        skip; subst ex1
        first | contradiction | with_reducible exact hQ | (simp (decide := true) only [oFit, show mP S 1706 0 = S 1 0 from rfl, ↓reduceIte, Bool.false_eq_true, bi_t, bi_f, Bool.and_true, Bool.true_and, Bool.and_false, Bool.false_and, ite_self, e1_6, c116_2, c125_3] at hQ; with_reducible exact hQ) | (simp (decide := true) only [oFit, show mP S 1706 0 = S 1 0 from rfl, ↓reduceIte, Bool.false_eq_true, bi_t, bi_f, Bool.and_true, Bool.true_and, Bool.and_false, Bool.false_and, ite_self, e1_6, c116_2, c125_3] at hQ ⊢; with_reducible exact hQ) | (rw [fit_mid (by assumption) (by assumption)] at hQ; simp (decide := true) only [oFit, show mP S 1706 0 = S 1 0 from rfl, ↓reduceIte, Bool.false_eq_true, bi_t, bi_f, Bool.and_true, Bool.true_and, Bool.and_false, Bool.false_and, ite_self, e1_6, c116_2, c125_3] at hQ; with_reducible exact hQ) | (rw [fit_none (by first | exact Or.inl (by assumption) | exact Or.inr (by assumption)) (by first | assumption | decide) (by first | assumption | decide) (by first | assumption | decide) (by first | assumption | decide) (by first | assumption | decide) (by first | assumption | decide) (by first | assumption | decide) (by first | assumption | decide) (by first | assumption | decide) (by first | assumption | decide) (by first | assumption | decide) (by first | assumption | decide) (by first | assumption | decide) (by first | assumption | decide) (by first | assumption | decide) (by first | assumption | decide) (by first | assumption | decide)] at hQ; exact hQ)
      · refine aj_iconst (q := 129) (v := 1) dX10_isRight_128 rfl (by decide) ?_
        refine aj_goto (tgt := 133) dX10_isRight_129 (by decide) ?_
        refine aj_zreturn dX10_isRight_133 rfl (by first | exact bi_nar _ | decide) ?_
        skip; subst ex1
        first | contradiction | with_reducible exact hQ | (simp (decide := true) only [oFit, show mP S 1706 0 = S 1 0 from rfl, ↓reduceIte, Bool.false_eq_true, bi_t, bi_f, Bool.and_true, Bool.true_and, Bool.and_false, Bool.false_and, ite_self, e1_6, c116_2, c125_3] at hQ; with_reducible exact hQ) | (simp (decide := true) only [oFit, show mP S 1706 0 = S 1 0 from rfl, ↓reduceIte, Bool.false_eq_true, bi_t, bi_f, Bool.and_true, Bool.true_and, Bool.and_false, Bool.false_and, ite_self, e1_6, c116_2, c125_3] at hQ ⊢; with_reducible exact hQ) | (rw [fit_mid (by assumption) (by assumption)] at hQ; simp (decide := true) only [oFit, show mP S 1706 0 = S 1 0 from rfl, ↓reduceIte, Bool.false_eq_true, bi_t, bi_f, Bool.and_true, Bool.true_and, Bool.and_false, Bool.false_and, ite_self, e1_6, c116_2, c125_3] at hQ; with_reducible exact hQ) | (rw [fit_none (by first | exact Or.inl (by assumption) | exact Or.inr (by assumption)) (by first | assumption | decide) (by first | assumption | decide) (by first | assumption | decide) (by first | assumption | decide) (by first | assumption | decide) (by first | assumption | decide) (by first | assumption | decide) (by first | assumption | decide) (by first | assumption | decide) (by first | assumption | decide) (by first | assumption | decide) (by first | assumption | decide) (by first | assumption | decide) (by first | assumption | decide) (by first | assumption | decide) (by first | assumption | decide) (by first | assumption | decide)] at hQ; exact hQ)
  by_cases e1_7 : x1 = 7
  · refine aj_tsIn (tgt := 134) (off := 133) dX10_isRight_1 (by rw [e1_7]; decide) (by rw [e1_7]; decide) (by rw [e1_7]; rfl) (by decide) ?_
    refine aj_iload_n (q := 135) (i := 2) dX10_isRight_134 rfl rfl rfl ?_
    refine aj_bipush (q := 137) (v := 8) dX10_isRight_135 rfl (by decide) ?_
    refine aj_callS (q := 140) (As := [_, _]) cl_X10_86 mk_X10_isIn dX10_isRight_137 rfl rfl (Nat.le_of_ble_eq_true rfl) (sp_X10_isIn ?_)
    refine aj_ifB_eq (q := 143) (tgt := 165) dX10_isRight_140 rfl (by decide) (fun c140_4 => ?_) (fun c140_4 => ?_)
    · refine aj_iconst (q := 166) (v := 0) dX10_isRight_165 rfl (by decide) ?_
      refine aj_zreturn dX10_isRight_166 rfl (by first | exact bi_nar _ | decide) ?_
      skip; subst ex1
      first | contradiction | with_reducible exact hQ | (simp (decide := true) only [oFit, show mP S 1706 0 = S 1 0 from rfl, ↓reduceIte, Bool.false_eq_true, bi_t, bi_f, Bool.and_true, Bool.true_and, Bool.and_false, Bool.false_and, ite_self, e1_7, c140_4] at hQ; with_reducible exact hQ) | (simp (decide := true) only [oFit, show mP S 1706 0 = S 1 0 from rfl, ↓reduceIte, Bool.false_eq_true, bi_t, bi_f, Bool.and_true, Bool.true_and, Bool.and_false, Bool.false_and, ite_self, e1_7, c140_4] at hQ ⊢; with_reducible exact hQ) | (rw [fit_mid (by assumption) (by assumption)] at hQ; simp (decide := true) only [oFit, show mP S 1706 0 = S 1 0 from rfl, ↓reduceIte, Bool.false_eq_true, bi_t, bi_f, Bool.and_true, Bool.true_and, Bool.and_false, Bool.false_and, ite_self, e1_7, c140_4] at hQ; with_reducible exact hQ) | (rw [fit_none (by first | exact Or.inl (by assumption) | exact Or.inr (by assumption)) (by first | assumption | decide) (by first | assumption | decide) (by first | assumption | decide) (by first | assumption | decide) (by first | assumption | decide) (by first | assumption | decide) (by first | assumption | decide) (by first | assumption | decide) (by first | assumption | decide) (by first | assumption | decide) (by first | assumption | decide) (by first | assumption | decide) (by first | assumption | decide) (by first | assumption | decide) (by first | assumption | decide) (by first | assumption | decide) (by first | assumption | decide)] at hQ; exact hQ)
    · refine aj_iload_n (q := 144) (i := 3) dX10_isRight_143 rfl rfl rfl ?_
      refine aj_iconst (q := 145) (v := 4) dX10_isRight_144 rfl (by decide) ?_
      refine aj_callS (q := 148) (As := [_, _]) cl_X10_86 mk_X10_isIn dX10_isRight_145 rfl rfl (Nat.le_of_ble_eq_true rfl) (sp_X10_isIn ?_)
      refine aj_ifB_eq (q := 151) (tgt := 165) dX10_isRight_148 rfl (by decide) (fun c148_5 => ?_) (fun c148_5 => ?_)
      · refine aj_iconst (q := 166) (v := 0) dX10_isRight_165 rfl (by decide) ?_
        refine aj_zreturn dX10_isRight_166 rfl (by first | exact bi_nar _ | decide) ?_
        skip; subst ex1
        first | contradiction | with_reducible exact hQ | (simp (decide := true) only [oFit, show mP S 1706 0 = S 1 0 from rfl, ↓reduceIte, Bool.false_eq_true, bi_t, bi_f, Bool.and_true, Bool.true_and, Bool.and_false, Bool.false_and, ite_self, e1_7, c140_4, c148_5] at hQ; with_reducible exact hQ) | (simp (decide := true) only [oFit, show mP S 1706 0 = S 1 0 from rfl, ↓reduceIte, Bool.false_eq_true, bi_t, bi_f, Bool.and_true, Bool.true_and, Bool.and_false, Bool.false_and, ite_self, e1_7, c140_4, c148_5] at hQ ⊢; with_reducible exact hQ) | (rw [fit_mid (by assumption) (by assumption)] at hQ; simp (decide := true) only [oFit, show mP S 1706 0 = S 1 0 from rfl, ↓reduceIte, Bool.false_eq_true, bi_t, bi_f, Bool.and_true, Bool.true_and, Bool.and_false, Bool.false_and, ite_self, e1_7, c140_4, c148_5] at hQ; with_reducible exact hQ) | (rw [fit_none (by first | exact Or.inl (by assumption) | exact Or.inr (by assumption)) (by first | assumption | decide) (by first | assumption | decide) (by first | assumption | decide) (by first | assumption | decide) (by first | assumption | decide) (by first | assumption | decide) (by first | assumption | decide) (by first | assumption | decide) (by first | assumption | decide) (by first | assumption | decide) (by first | assumption | decide) (by first | assumption | decide) (by first | assumption | decide) (by first | assumption | decide) (by first | assumption | decide) (by first | assumption | decide) (by first | assumption | decide)] at hQ; exact hQ)
      · refine aj_iload (q := 153) (i := 4) dX10_isRight_151 rfl rfl ?_
        refine aj_bipush (q := 155) (v := 8) dX10_isRight_153 rfl (by decide) ?_
        refine aj_callS (q := 158) (As := [_, _]) cl_X10_86 mk_X10_isIn dX10_isRight_155 rfl rfl (Nat.le_of_ble_eq_true rfl) (sp_X10_isIn ?_)
        refine aj_ifB_eq (q := 161) (tgt := 165) dX10_isRight_158 rfl (by decide) (fun c158_6 => ?_) (fun c158_6 => ?_)
        · refine aj_iconst (q := 166) (v := 0) dX10_isRight_165 rfl (by decide) ?_
          refine aj_zreturn dX10_isRight_166 rfl (by first | exact bi_nar _ | decide) ?_
          skip; subst ex1
          first | contradiction | with_reducible exact hQ | (simp (decide := true) only [oFit, show mP S 1706 0 = S 1 0 from rfl, ↓reduceIte, Bool.false_eq_true, bi_t, bi_f, Bool.and_true, Bool.true_and, Bool.and_false, Bool.false_and, ite_self, e1_7, c140_4, c148_5, c158_6] at hQ; with_reducible exact hQ) | (simp (decide := true) only [oFit, show mP S 1706 0 = S 1 0 from rfl, ↓reduceIte, Bool.false_eq_true, bi_t, bi_f, Bool.and_true, Bool.true_and, Bool.and_false, Bool.false_and, ite_self, e1_7, c140_4, c148_5, c158_6] at hQ ⊢; with_reducible exact hQ) | (rw [fit_mid (by assumption) (by assumption)] at hQ; simp (decide := true) only [oFit, show mP S 1706 0 = S 1 0 from rfl, ↓reduceIte, Bool.false_eq_true, bi_t, bi_f, Bool.and_true, Bool.true_and, Bool.and_false, Bool.false_and, ite_self, e1_7, c140_4, c148_5, c158_6] at hQ; with_reducible exact hQ) | (rw [fit_none (by first | exact Or.inl (by assumption) | exact Or.inr (by assumption)) (by first | assumption | decide) (by first | assumption | decide) (by first | assumption | decide) (by first | assumption | decide) (by first | assumption | decide) (by first | assumption | decide) (by first | assumption | decide) (by first | assumption | decide) (by first | assumption | decide) (by first | assumption | decide) (by first | assumption | decide) (by first | assumption | decide) (by first | assumption | decide) (by first | assumption | decide) (by first | assumption | decide) (by first | assumption | decide) (by first | assumption | decide)] at hQ; exact hQ)
        · refine aj_iconst (q := 162) (v := 1) dX10_isRight_161 rfl (by decide) ?_
          refine aj_goto (tgt := 166) dX10_isRight_162 (by decide) ?_
          refine aj_zreturn dX10_isRight_166 rfl (by first | exact bi_nar _ | decide) ?_
          skip; subst ex1
          first | contradiction | with_reducible exact hQ | (simp (decide := true) only [oFit, show mP S 1706 0 = S 1 0 from rfl, ↓reduceIte, Bool.false_eq_true, bi_t, bi_f, Bool.and_true, Bool.true_and, Bool.and_false, Bool.false_and, ite_self, e1_7, c140_4, c148_5, c158_6] at hQ; with_reducible exact hQ) | (simp (decide := true) only [oFit, show mP S 1706 0 = S 1 0 from rfl, ↓reduceIte, Bool.false_eq_true, bi_t, bi_f, Bool.and_true, Bool.true_and, Bool.and_false, Bool.false_and, ite_self, e1_7, c140_4, c148_5, c158_6] at hQ ⊢; with_reducible exact hQ) | (rw [fit_mid (by assumption) (by assumption)] at hQ; simp (decide := true) only [oFit, show mP S 1706 0 = S 1 0 from rfl, ↓reduceIte, Bool.false_eq_true, bi_t, bi_f, Bool.and_true, Bool.true_and, Bool.and_false, Bool.false_and, ite_self, e1_7, c140_4, c148_5, c158_6] at hQ; with_reducible exact hQ) | (rw [fit_none (by first | exact Or.inl (by assumption) | exact Or.inr (by assumption)) (by first | assumption | decide) (by first | assumption | decide) (by first | assumption | decide) (by first | assumption | decide) (by first | assumption | decide) (by first | assumption | decide) (by first | assumption | decide) (by first | assumption | decide) (by first | assumption | decide) (by first | assumption | decide) (by first | assumption | decide) (by first | assumption | decide) (by first | assumption | decide) (by first | assumption | decide) (by first | assumption | decide) (by first | assumption | decide) (by first | assumption | decide)] at hQ; exact hQ)
  by_cases e1_8 : x1 = 8
  · refine aj_tsIn (tgt := 167) (off := 166) dX10_isRight_1 (by rw [e1_8]; decide) (by rw [e1_8]; decide) (by rw [e1_8]; rfl) (by decide) ?_
    refine aj_iload_n (q := 168) (i := 2) dX10_isRight_167 rfl rfl rfl ?_
    refine aj_iconst (q := 169) (v := 4) dX10_isRight_168 rfl (by decide) ?_
    refine aj_callS (q := 172) (As := [_, _]) cl_X10_86 mk_X10_isIn dX10_isRight_169 rfl rfl (Nat.le_of_ble_eq_true rfl) (sp_X10_isIn ?_)
    refine aj_ifB_eq (q := 175) (tgt := 198) dX10_isRight_172 rfl (by decide) (fun c172_7 => ?_) (fun c172_7 => ?_)
    · refine aj_iconst (q := 199) (v := 0) dX10_isRight_198 rfl (by decide) ?_
      refine aj_zreturn dX10_isRight_199 rfl (by first | exact bi_nar _ | decide) ?_
      skip; subst ex1
      first | contradiction | with_reducible exact hQ | (simp (decide := true) only [oFit, show mP S 1706 0 = S 1 0 from rfl, ↓reduceIte, Bool.false_eq_true, bi_t, bi_f, Bool.and_true, Bool.true_and, Bool.and_false, Bool.false_and, ite_self, e1_8, c172_7] at hQ; with_reducible exact hQ) | (simp (decide := true) only [oFit, show mP S 1706 0 = S 1 0 from rfl, ↓reduceIte, Bool.false_eq_true, bi_t, bi_f, Bool.and_true, Bool.true_and, Bool.and_false, Bool.false_and, ite_self, e1_8, c172_7] at hQ ⊢; with_reducible exact hQ) | (rw [fit_mid (by assumption) (by assumption)] at hQ; simp (decide := true) only [oFit, show mP S 1706 0 = S 1 0 from rfl, ↓reduceIte, Bool.false_eq_true, bi_t, bi_f, Bool.and_true, Bool.true_and, Bool.and_false, Bool.false_and, ite_self, e1_8, c172_7] at hQ; with_reducible exact hQ) | (rw [fit_none (by first | exact Or.inl (by assumption) | exact Or.inr (by assumption)) (by first | assumption | decide) (by first | assumption | decide) (by first | assumption | decide) (by first | assumption | decide) (by first | assumption | decide) (by first | assumption | decide) (by first | assumption | decide) (by first | assumption | decide) (by first | assumption | decide) (by first | assumption | decide) (by first | assumption | decide) (by first | assumption | decide) (by first | assumption | decide) (by first | assumption | decide) (by first | assumption | decide) (by first | assumption | decide) (by first | assumption | decide)] at hQ; exact hQ)
    · refine aj_iload_n (q := 176) (i := 3) dX10_isRight_175 rfl rfl rfl ?_
      refine aj_bipush (q := 178) (v := 8) dX10_isRight_176 rfl (by decide) ?_
      refine aj_callS (q := 181) (As := [_, _]) cl_X10_86 mk_X10_isIn dX10_isRight_178 rfl rfl (Nat.le_of_ble_eq_true rfl) (sp_X10_isIn ?_)
      refine aj_ifB_eq (q := 184) (tgt := 198) dX10_isRight_181 rfl (by decide) (fun c181_8 => ?_) (fun c181_8 => ?_)
      · refine aj_iconst (q := 199) (v := 0) dX10_isRight_198 rfl (by decide) ?_
        refine aj_zreturn dX10_isRight_199 rfl (by first | exact bi_nar _ | decide) ?_
        skip; subst ex1
        first | contradiction | with_reducible exact hQ | (simp (decide := true) only [oFit, show mP S 1706 0 = S 1 0 from rfl, ↓reduceIte, Bool.false_eq_true, bi_t, bi_f, Bool.and_true, Bool.true_and, Bool.and_false, Bool.false_and, ite_self, e1_8, c172_7, c181_8] at hQ; with_reducible exact hQ) | (simp (decide := true) only [oFit, show mP S 1706 0 = S 1 0 from rfl, ↓reduceIte, Bool.false_eq_true, bi_t, bi_f, Bool.and_true, Bool.true_and, Bool.and_false, Bool.false_and, ite_self, e1_8, c172_7, c181_8] at hQ ⊢; with_reducible exact hQ) | (rw [fit_mid (by assumption) (by assumption)] at hQ; simp (decide := true) only [oFit, show mP S 1706 0 = S 1 0 from rfl, ↓reduceIte, Bool.false_eq_true, bi_t, bi_f, Bool.and_true, Bool.true_and, Bool.and_false, Bool.false_and, ite_self, e1_8, c172_7, c181_8] at hQ; with_reducible exact hQ) | (rw [fit_none (by first | exact Or.inl (by assumption) | exact Or.inr (by assumption)) (by first | assumption | decide) (by first | assumption | decide) (by first | assumption | decide) (by first | assumption | decide) (by first | assumption | decide) (by first | assumption | decide) (by first | assumption | decide) (by first | assumption | decide) (by first | assumption | decide) (by first | assumption | decide) (by first | assumption | decide) (by first | assumption | decide) (by first | assumption | decide) (by first | assumption | decide) (by first | assumption | decide) (by first | assumption | decide) (by first | assumption | decide)] at hQ; exact hQ)
      · refine aj_iload (q := 186) (i := 4) dX10_isRight_184 rfl rfl ?_
        refine aj_bipush (q := 188) (v := 8) dX10_isRight_186 rfl (by decide) ?_
        refine aj_callS (q := 191) (As := [_, _]) cl_X10_86 mk_X10_isIn dX10_isRight_188 rfl rfl (Nat.le_of_ble_eq_true rfl) (sp_X10_isIn ?_)
        refine aj_ifB_eq (q := 194) (tgt := 198) dX10_isRight_191 rfl (by decide) (fun c191_9 => ?_) (fun c191_9 => ?_)
        · refine aj_iconst (q := 199) (v := 0) dX10_isRight_198 rfl (by decide) ?_
          refine aj_zreturn dX10_isRight_199 rfl (by first | exact bi_nar _ | decide) ?_
          skip; subst ex1
          first | contradiction | with_reducible exact hQ | (simp (decide := true) only [oFit, show mP S 1706 0 = S 1 0 from rfl, ↓reduceIte, Bool.false_eq_true, bi_t, bi_f, Bool.and_true, Bool.true_and, Bool.and_false, Bool.false_and, ite_self, e1_8, c172_7, c181_8, c191_9] at hQ; with_reducible exact hQ) | (simp (decide := true) only [oFit, show mP S 1706 0 = S 1 0 from rfl, ↓reduceIte, Bool.false_eq_true, bi_t, bi_f, Bool.and_true, Bool.true_and, Bool.and_false, Bool.false_and, ite_self, e1_8, c172_7, c181_8, c191_9] at hQ ⊢; with_reducible exact hQ) | (rw [fit_mid (by assumption) (by assumption)] at hQ; simp (decide := true) only [oFit, show mP S 1706 0 = S 1 0 from rfl, ↓reduceIte, Bool.false_eq_true, bi_t, bi_f, Bool.and_true, Bool.true_and, Bool.and_false, Bool.false_and, ite_self, e1_8, c172_7, c181_8, c191_9] at hQ; with_reducible exact hQ) | (rw [fit_none (by first | exact Or.inl (by assumption) | exact Or.inr (by assumption)) (by first | assumption | decide) (by first | assumption | decide) (by first | assumption | decide) (by first | assumption | decide) (by first | assumption | decide) (by first | assumption | decide) (by first | assumption | decide) (by first | assumption | decide) (by first | assumption | decide) (by first | assumption | decide) (by first | assumption | decide) (by first | assumption | decide) (by first | assumption | decide) (by first | assumption | decide) (by first | assumption | decide) (by first | assumption | decide) (by first | assumption | decide)] at hQ; exact hQ)
        · refine aj_iconst (q := 195) (v := 1) dX10_isRight_194 rfl (by decide) ?_
          refine aj_goto (tgt := 199) dX10_isRight_195 (by decide) ?_
          refine aj_zreturn dX10_isRight_199 rfl (by first | exact bi_nar _ | decide) ?_
          skip; subst ex1
          first | contradiction | with_reducible exact hQ | (simp (decide := true) only [oFit, show mP S 1706 0 = S 1 0 from rfl, ↓reduceIte, Bool.false_eq_true, bi_t, bi_f, Bool.and_true, Bool.true_and, Bool.and_false, Bool.false_and, ite_self, e1_8, c172_7, c181_8, c191_9] at hQ; with_reducible exact hQ) | (simp (decide := true) only [oFit, show mP S 1706 0 = S 1 0 from rfl, ↓reduceIte, Bool.false_eq_true, bi_t, bi_f, Bool.and_true, Bool.true_and, Bool.and_false, Bool.false_and, ite_self, e1_8, c172_7, c181_8, c191_9] at hQ ⊢; with_reducible exact hQ) | (rw [fit_mid (by assumption) (by assumption)] at hQ; simp (decide := true) only [oFit, show mP S 1706 0 = S 1 0 from rfl, ↓reduceIte, Bool.false_eq_true, bi_t, bi_f, Bool.and_true, Bool.true_and, Bool.and_false, Bool.false_and, ite_self, e1_8, c172_7, c181_8, c191_9] at hQ; with_reducible exact hQ) | (rw [fit_none (by first | exact Or.inl (by assumption) | exact Or.inr (by assumption)) (by first | assumption | decide) (by first | assumption | decide) (by first | assumption | decide) (by first | assumption | decide) (by first | assumption | decide) (by first | assumption | decide) (by first | assumption | decide) (by first | assumption | decide) (by first | assumption | decide) (by first | assumption | decide) (by first | assumption | decide) (by first | assumption | decide) (by first | assumption | decide) (by first | assumption | decide) (by first | assumption | decide) (by first | assumption | decide) (by first | assumption | decide)] at hQ; exact hQ)
  by_cases e1_9 : x1 = 9
  · refine aj_tsIn (tgt := 200) (off := 199) dX10_isRight_1 (by rw [e1_9]; decide) (by rw [e1_9]; decide) (by rw [e1_9]; rfl) (by decide) ?_
    refine aj_iload_n (q := 201) (i := 2) dX10_isRight_200 rfl rfl rfl ?_
    refine aj_bipush (q := 203) (v := 8) dX10_isRight_201 rfl (by decide) ?_
    refine aj_callS (q := 206) (As := [_, _]) cl_X10_86 mk_X10_isIn dX10_isRight_203 rfl rfl (Nat.le_of_ble_eq_true rfl) (sp_X10_isIn ?_)
    refine aj_ifB_eq (q := 209) (tgt := 221) dX10_isRight_206 rfl (by decide) (fun c206_10 => ?_) (fun c206_10 => ?_)
    · refine aj_iconst (q := 222) (v := 0) dX10_isRight_221 rfl (by decide) ?_
      refine aj_zreturn dX10_isRight_222 rfl (by first | exact bi_nar _ | decide) ?_
      skip; subst ex1
      first | contradiction | with_reducible exact hQ | (simp (decide := true) only [oFit, show mP S 1706 0 = S 1 0 from rfl, ↓reduceIte, Bool.false_eq_true, bi_t, bi_f, Bool.and_true, Bool.true_and, Bool.and_false, Bool.false_and, ite_self, e1_9, c206_10] at hQ; with_reducible exact hQ) | (simp (decide := true) only [oFit, show mP S 1706 0 = S 1 0 from rfl, ↓reduceIte, Bool.false_eq_true, bi_t, bi_f, Bool.and_true, Bool.true_and, Bool.and_false, Bool.false_and, ite_self, e1_9, c206_10] at hQ ⊢; with_reducible exact hQ) | (rw [fit_mid (by assumption) (by assumption)] at hQ; simp (decide := true) only [oFit, show mP S 1706 0 = S 1 0 from rfl, ↓reduceIte, Bool.false_eq_true, bi_t, bi_f, Bool.and_true, Bool.true_and, Bool.and_false, Bool.false_and, ite_self, e1_9, c206_10] at hQ; with_reducible exact hQ) | (rw [fit_none (by first | exact Or.inl (by assumption) | exact Or.inr (by assumption)) (by first | assumption | decide) (by first | assumption | decide) (by first | assumption | decide) (by first | assumption | decide) (by first | assumption | decide) (by first | assumption | decide) (by first | assumption | decide) (by first | assumption | decide) (by first | assumption | decide) (by first | assumption | decide) (by first | assumption | decide) (by first | assumption | decide) (by first | assumption | decide) (by first | assumption | decide) (by first | assumption | decide) (by first | assumption | decide) (by first | assumption | decide)] at hQ; exact hQ)
    · refine aj_iload_n (q := 210) (i := 3) dX10_isRight_209 rfl rfl rfl ?_
      refine aj_iconst (q := 211) (v := 4) dX10_isRight_210 rfl (by decide) ?_
      refine aj_callS (q := 214) (As := [_, _]) cl_X10_86 mk_X10_isIn dX10_isRight_211 rfl rfl (Nat.le_of_ble_eq_true rfl) (sp_X10_isIn ?_)
      refine aj_ifB_eq (q := 217) (tgt := 221) dX10_isRight_214 rfl (by decide) (fun c214_11 => ?_) (fun c214_11 => ?_)
      · refine aj_iconst (q := 222) (v := 0) dX10_isRight_221 rfl (by decide) ?_
        refine aj_zreturn dX10_isRight_222 rfl (by first | exact bi_nar _ | decide) ?_
        skip; subst ex1
        first | contradiction | with_reducible exact hQ | (simp (decide := true) only [oFit, show mP S 1706 0 = S 1 0 from rfl, ↓reduceIte, Bool.false_eq_true, bi_t, bi_f, Bool.and_true, Bool.true_and, Bool.and_false, Bool.false_and, ite_self, e1_9, c206_10, c214_11] at hQ; with_reducible exact hQ) | (simp (decide := true) only [oFit, show mP S 1706 0 = S 1 0 from rfl, ↓reduceIte, Bool.false_eq_true, bi_t, bi_f, Bool.and_true, Bool.true_and, Bool.and_false, Bool.false_and, ite_self, e1_9, c206_10, c214_11] at hQ ⊢; with_reducible exact hQ) | (rw [fit_mid (by assumption) (by assumption)] at hQ; simp (decide := true) only [oFit, show mP S 1706 0 = S 1 0 from rfl, ↓reduceIte, Bool.false_eq_true, bi_t, bi_f, Bool.and_true, Bool.true_and, Bool.and_false, Bool.false_and, ite_self, e1_9, c206_10, c214_11] at hQ; with_reducible exact hQ) | (rw [fit_none (by first | exact Or.inl (by assumption) | exact Or.inr (by assumption)) (by first | assumption | decide) (by first | assumption | decide) (by first | assumption | decide) (by first | assumption | decide) (by first | assumption | decide) (by first | assumption | decide) (by first | assumption | decide) (by first | assumption | decide) (by first | assumption | decide) (by first | assumption | decide) (by first | assumption | decide) (by first | assumption | decide) (by first | assumption | decide) (by first | assumption | decide) (by first | assumption | decide) (by first | assumption | decide) (by first | assumption | decide)] at hQ; exact hQ)
      · refine aj_iconst (q := 218) (v := 1) dX10_isRight_217 rfl (by decide) ?_
        refine aj_goto (tgt := 222) dX10_isRight_218 (by decide) ?_
        refine aj_zreturn dX10_isRight_222 rfl (by first | exact bi_nar _ | decide) ?_
        skip; subst ex1
        first | contradiction | with_reducible exact hQ | (simp (decide := true) only [oFit, show mP S 1706 0 = S 1 0 from rfl, ↓reduceIte, Bool.false_eq_true, bi_t, bi_f, Bool.and_true, Bool.true_and, Bool.and_false, Bool.false_and, ite_self, e1_9, c206_10, c214_11] at hQ; with_reducible exact hQ) | (simp (decide := true) only [oFit, show mP S 1706 0 = S 1 0 from rfl, ↓reduceIte, Bool.false_eq_true, bi_t, bi_f, Bool.and_true, Bool.true_and, Bool.and_false, Bool.false_and, ite_self, e1_9, c206_10, c214_11] at hQ ⊢; with_reducible exact hQ) | (rw [fit_mid (by assumption) (by assumption)] at hQ; simp (decide := true) only [oFit, show mP S 1706 0 = S 1 0 from rfl, ↓reduceIte, Bool.false_eq_true, bi_t, bi_f, Bool.and_true, Bool.true_and, Bool.and_false, Bool.false_and, ite_self, e1_9, c206_10, c214_11] at hQ; with_reducible exact hQ) | (rw [fit_none (by first | exact Or.inl (by assumption) | exact Or.inr (by assumption)) (by first | assumption | decide) (by first | assumption | decide) (by first | assumption | decide) (by first | assumption | decide) (by first | assumption | decide) (by first | assumption | decide) (by first | assumption | decide) (by first | assumption | decide) (by first | assumption | decide) (by first | assumption | decide) (by first | assumption | decide) (by first | assumption | decide) (by first | assumption | decide) (by first | assumption | decide) (by first | assumption | decide) (by first | assumption | decide) (by first | assumption | decide)] at hQ; exact hQ)
  by_cases e1_10 : x1 = 10
  · refine aj_tsIn (tgt := 223) (off := 222) dX10_isRight_1 (by rw [e1_10]; decide) (by rw [e1_10]; decide) (by rw [e1_10]; rfl) (by decide) ?_
    refine aj_iload_n (q := 224) (i := 2) dX10_isRight_223 rfl rfl rfl ?_
    refine aj_iconst (q := 225) (v := 4) dX10_isRight_224 rfl (by decide) ?_
    refine aj_callS (q := 228) (As := [_, _]) cl_X10_86 mk_X10_isIn dX10_isRight_225 rfl rfl (Nat.le_of_ble_eq_true rfl) (sp_X10_isIn ?_)
    refine aj_zreturn dX10_isRight_228 rfl (by first | exact bi_nar _ | decide) ?_
    skip; subst ex1
    first | contradiction | with_reducible exact hQ | (simp (decide := true) only [oFit, show mP S 1706 0 = S 1 0 from rfl, ↓reduceIte, Bool.false_eq_true, bi_t, bi_f, Bool.and_true, Bool.true_and, Bool.and_false, Bool.false_and, ite_self, e1_10] at hQ; with_reducible exact hQ) | (simp (decide := true) only [oFit, show mP S 1706 0 = S 1 0 from rfl, ↓reduceIte, Bool.false_eq_true, bi_t, bi_f, Bool.and_true, Bool.true_and, Bool.and_false, Bool.false_and, ite_self, e1_10] at hQ ⊢; with_reducible exact hQ) | (rw [fit_mid (by assumption) (by assumption)] at hQ; simp (decide := true) only [oFit, show mP S 1706 0 = S 1 0 from rfl, ↓reduceIte, Bool.false_eq_true, bi_t, bi_f, Bool.and_true, Bool.true_and, Bool.and_false, Bool.false_and, ite_self, e1_10] at hQ; with_reducible exact hQ) | (rw [fit_none (by first | exact Or.inl (by assumption) | exact Or.inr (by assumption)) (by first | assumption | decide) (by first | assumption | decide) (by first | assumption | decide) (by first | assumption | decide) (by first | assumption | decide) (by first | assumption | decide) (by first | assumption | decide) (by first | assumption | decide) (by first | assumption | decide) (by first | assumption | decide) (by first | assumption | decide) (by first | assumption | decide) (by first | assumption | decide) (by first | assumption | decide) (by first | assumption | decide) (by first | assumption | decide) (by first | assumption | decide)] at hQ; exact hQ)
  by_cases e1_11 : x1 = 11
  · refine aj_tsIn (tgt := 229) (off := 228) dX10_isRight_1 (by rw [e1_11]; decide) (by rw [e1_11]; decide) (by rw [e1_11]; rfl) (by decide) ?_
    refine aj_iload_n (q := 230) (i := 2) dX10_isRight_229 rfl rfl rfl ?_
    refine aj_iconst (q := 231) (v := 4) dX10_isRight_230 rfl (by decide) ?_
    refine aj_callS (q := 234) (As := [_, _]) cl_X10_86 mk_X10_isIn dX10_isRight_231 rfl rfl (Nat.le_of_ble_eq_true rfl) (sp_X10_isIn ?_)
    refine aj_ifB_eq (q := 237) (tgt := 249) dX10_isRight_234 rfl (by decide) (fun c234_12 => ?_) (fun c234_12 => ?_)
    · refine aj_iconst (q := 250) (v := 0) dX10_isRight_249 rfl (by decide) ?_
      refine aj_zreturn dX10_isRight_250 rfl (by first | exact bi_nar _ | decide) ?_
      skip; subst ex1
      first | contradiction | with_reducible exact hQ | (simp (decide := true) only [oFit, show mP S 1706 0 = S 1 0 from rfl, ↓reduceIte, Bool.false_eq_true, bi_t, bi_f, Bool.and_true, Bool.true_and, Bool.and_false, Bool.false_and, ite_self, e1_11, c234_12] at hQ; with_reducible exact hQ) | (simp (decide := true) only [oFit, show mP S 1706 0 = S 1 0 from rfl, ↓reduceIte, Bool.false_eq_true, bi_t, bi_f, Bool.and_true, Bool.true_and, Bool.and_false, Bool.false_and, ite_self, e1_11, c234_12] at hQ ⊢; with_reducible exact hQ) | (rw [fit_mid (by assumption) (by assumption)] at hQ; simp (decide := true) only [oFit, show mP S 1706 0 = S 1 0 from rfl, ↓reduceIte, Bool.false_eq_true, bi_t, bi_f, Bool.and_true, Bool.true_and, Bool.and_false, Bool.false_and, ite_self, e1_11, c234_12] at hQ; with_reducible exact hQ) | (rw [fit_none (by first | exact Or.inl (by assumption) | exact Or.inr (by assumption)) (by first | assumption | decide) (by first | assumption | decide) (by first | assumption | decide) (by first | assumption | decide) (by first | assumption | decide) (by first | assumption | decide) (by first | assumption | decide) (by first | assumption | decide) (by first | assumption | decide) (by first | assumption | decide) (by first | assumption | decide) (by first | assumption | decide) (by first | assumption | decide) (by first | assumption | decide) (by first | assumption | decide) (by first | assumption | decide) (by first | assumption | decide)] at hQ; exact hQ)
    · refine aj_iload_n (q := 238) (i := 3) dX10_isRight_237 rfl rfl rfl ?_
      refine aj_iconst (q := 239) (v := 4) dX10_isRight_238 rfl (by decide) ?_
      refine aj_callS (q := 242) (As := [_, _]) cl_X10_86 mk_X10_isIn dX10_isRight_239 rfl rfl (Nat.le_of_ble_eq_true rfl) (sp_X10_isIn ?_)
      refine aj_ifB_eq (q := 245) (tgt := 249) dX10_isRight_242 rfl (by decide) (fun c242_13 => ?_) (fun c242_13 => ?_)
      · refine aj_iconst (q := 250) (v := 0) dX10_isRight_249 rfl (by decide) ?_
        refine aj_zreturn dX10_isRight_250 rfl (by first | exact bi_nar _ | decide) ?_
        skip; subst ex1
        first | contradiction | with_reducible exact hQ | (simp (decide := true) only [oFit, show mP S 1706 0 = S 1 0 from rfl, ↓reduceIte, Bool.false_eq_true, bi_t, bi_f, Bool.and_true, Bool.true_and, Bool.and_false, Bool.false_and, ite_self, e1_11, c234_12, c242_13] at hQ; with_reducible exact hQ) | (simp (decide := true) only [oFit, show mP S 1706 0 = S 1 0 from rfl, ↓reduceIte, Bool.false_eq_true, bi_t, bi_f, Bool.and_true, Bool.true_and, Bool.and_false, Bool.false_and, ite_self, e1_11, c234_12, c242_13] at hQ ⊢; with_reducible exact hQ) | (rw [fit_mid (by assumption) (by assumption)] at hQ; simp (decide := true) only [oFit, show mP S 1706 0 = S 1 0 from rfl, ↓reduceIte, Bool.false_eq_true, bi_t, bi_f, Bool.and_true, Bool.true_and, Bool.and_false, Bool.false_and, ite_self, e1_11, c234_12, c242_13] at hQ; with_reducible exact hQ) | (rw [fit_none (by first | exact Or.inl (by assumption) | exact Or.inr (by assumption)) (by first | assumption | decide) (by first | assumption | decide) (by first | assumption | decide) (by first | assumption | decide) (by first | assumption | decide) (by first | assumption | decide) (by first | assumption | decide) (by first | assumption | decide) (by first | assumption | decide) (by first | assumption | decide) (by first | assumption | decide) (by first | assumption | decide) (by first | assumption | decide) (by first | assumption | decide) (by first | assumption | decide) (by first | assumption | decide) (by first | assumption | decide)] at hQ; exact hQ)
      · refine aj_iconst (q := 246) (v := 1) dX10_isRight_245 rfl (by decide) ?_
        refine aj_goto (tgt := 250) dX10_isRight_246 (by decide) ?_
        refine aj_zreturn dX10_isRight_250 rfl (by first | exact bi_nar _ | decide) ?_
        skip; subst ex1
        first | contradiction | with_reducible exact hQ | (simp (decide := true) only [oFit, show mP S 1706 0 = S 1 0 from rfl, ↓reduceIte, Bool.false_eq_true, bi_t, bi_f, Bool.and_true, Bool.true_and, Bool.and_false, Bool.false_and, ite_self, e1_11, c234_12, c242_13] at hQ; with_reducible exact hQ) | (simp (decide := true) only [oFit, show mP S 1706 0 = S 1 0 from rfl, ↓reduceIte, Bool.false_eq_true, bi_t, bi_f, Bool.and_true, Bool.true_and, Bool.and_false, Bool.false_and, ite_self, e1_11, c234_12, c242_13] at hQ ⊢; with_reducible exact hQ) | (rw [fit_mid (by assumption) (by assumption)] at hQ; simp (decide := true) only [oFit, show mP S 1706 0 = S 1 0 from rfl, ↓reduceIte, Bool.false_eq_true, bi_t, bi_f, Bool.and_true, Bool.true_and, Bool.and_false, Bool.false_and, ite_self, e1_11, c234_12, c242_13] at hQ; with_reducible exact hQ) | (rw [fit_none (by first | exact Or.inl (by assumption) | exact Or.inr (by assumption)) (by first | assumption | decide) (by first | assumption | decide) (by first | assumption | decide) (by first | assumption | decide) (by first | assumption | decide) (by first | assumption | decide) (by first | assumption | decide) (by first | assumption | decide) (by first | assumption | decide) (by first | assumption | decide) (by first | assumption | decide) (by first | assumption | decide) (by first | assumption | decide) (by first | assumption | decide) (by first | assumption | decide) (by first | assumption | decide) (by first | assumption | decide)] at hQ; exact hQ)
  by_cases e1_12 : x1 = 12
  · refine aj_tsIn (tgt := 251) (off := 250) dX10_isRight_1 (by rw [e1_12]; decide) (by rw [e1_12]; decide) (by rw [e1_12]; rfl) (by decide) ?_
    refine aj_aload_n (q := 252) (i := 0) dX10_isRight_251 rfl rfl rfl ?_
    refine aj_iload_n (q := 253) (i := 2) dX10_isRight_252 rfl rfl rfl ?_
    refine aj_callV (q := 256) (As := [_]) cl_X10_90 mk_X10_isStatement dX10_isRight_253 rfl lM_0 rfl rfl (Nat.le_of_ble_eq_true rfl) (sp_X10_isStatement ?_)
    refine aj_ifB_eq (q := 259) (tgt := 271) dX10_isRight_256 rfl (by decide) (fun c256_14 => ?_) (fun c256_14 => ?_)
    · refine aj_iconst (q := 272) (v := 0) dX10_isRight_271 rfl (by decide) ?_
      refine aj_zreturn dX10_isRight_272 rfl (by first | exact bi_nar _ | decide) ?_
      skip; subst ex1
      first | contradiction | with_reducible exact hQ | (simp (decide := true) only [oFit, show mP S 1706 0 = S 1 0 from rfl, ↓reduceIte, Bool.false_eq_true, bi_t, bi_f, Bool.and_true, Bool.true_and, Bool.and_false, Bool.false_and, ite_self, e1_12, c256_14] at hQ; with_reducible exact hQ) | (simp (decide := true) only [oFit, show mP S 1706 0 = S 1 0 from rfl, ↓reduceIte, Bool.false_eq_true, bi_t, bi_f, Bool.and_true, Bool.true_and, Bool.and_false, Bool.false_and, ite_self, e1_12, c256_14] at hQ ⊢; with_reducible exact hQ) | (rw [fit_mid (by assumption) (by assumption)] at hQ; simp (decide := true) only [oFit, show mP S 1706 0 = S 1 0 from rfl, ↓reduceIte, Bool.false_eq_true, bi_t, bi_f, Bool.and_true, Bool.true_and, Bool.and_false, Bool.false_and, ite_self, e1_12, c256_14] at hQ; with_reducible exact hQ) | (rw [fit_none (by first | exact Or.inl (by assumption) | exact Or.inr (by assumption)) (by first | assumption | decide) (by first | assumption | decide) (by first | assumption | decide) (by first | assumption | decide) (by first | assumption | decide) (by first | assumption | decide) (by first | assumption | decide) (by first | assumption | decide) (by first | assumption | decide) (by first | assumption | decide) (by first | assumption | decide) (by first | assumption | decide) (by first | assumption | decide) (by first | assumption | decide) (by first | assumption | decide) (by first | assumption | decide) (by first | assumption | decide)] at hQ; exact hQ)
    · refine aj_aload_n (q := 260) (i := 0) dX10_isRight_259 rfl rfl rfl ?_
      refine aj_iload_n (q := 261) (i := 3) dX10_isRight_260 rfl rfl rfl ?_
      refine aj_callV (q := 264) (As := [_]) cl_X10_90 mk_X10_isStatement dX10_isRight_261 rfl lM_0 rfl rfl (Nat.le_of_ble_eq_true rfl) (sp_X10_isStatement ?_)
      refine aj_ifB_eq (q := 267) (tgt := 271) dX10_isRight_264 rfl (by decide) (fun c264_15 => ?_) (fun c264_15 => ?_)
      · refine aj_iconst (q := 272) (v := 0) dX10_isRight_271 rfl (by decide) ?_
        refine aj_zreturn dX10_isRight_272 rfl (by first | exact bi_nar _ | decide) ?_
        skip; subst ex1
        first | contradiction | with_reducible exact hQ | (simp (decide := true) only [oFit, show mP S 1706 0 = S 1 0 from rfl, ↓reduceIte, Bool.false_eq_true, bi_t, bi_f, Bool.and_true, Bool.true_and, Bool.and_false, Bool.false_and, ite_self, e1_12, c256_14, c264_15] at hQ; with_reducible exact hQ) | (simp (decide := true) only [oFit, show mP S 1706 0 = S 1 0 from rfl, ↓reduceIte, Bool.false_eq_true, bi_t, bi_f, Bool.and_true, Bool.true_and, Bool.and_false, Bool.false_and, ite_self, e1_12, c256_14, c264_15] at hQ ⊢; with_reducible exact hQ) | (rw [fit_mid (by assumption) (by assumption)] at hQ; simp (decide := true) only [oFit, show mP S 1706 0 = S 1 0 from rfl, ↓reduceIte, Bool.false_eq_true, bi_t, bi_f, Bool.and_true, Bool.true_and, Bool.and_false, Bool.false_and, ite_self, e1_12, c256_14, c264_15] at hQ; with_reducible exact hQ) | (rw [fit_none (by first | exact Or.inl (by assumption) | exact Or.inr (by assumption)) (by first | assumption | decide) (by first | assumption | decide) (by first | assumption | decide) (by first | assumption | decide) (by first | assumption | decide) (by first | assumption | decide) (by first | assumption | decide) (by first | assumption | decide) (by first | assumption | decide) (by first | assumption | decide) (by first | assumption | decide) (by first | assumption | decide) (by first | assumption | decide) (by first | assumption | decide) (by first | assumption | decide) (by first | assumption | decide) (by first | assumption | decide)] at hQ; exact hQ)
      · refine aj_iconst (q := 268) (v := 1) dX10_isRight_267 rfl (by decide) ?_
        refine aj_goto (tgt := 272) dX10_isRight_268 (by decide) ?_
        refine aj_zreturn dX10_isRight_272 rfl (by first | exact bi_nar _ | decide) ?_
        skip; subst ex1
        first | contradiction | with_reducible exact hQ | (simp (decide := true) only [oFit, show mP S 1706 0 = S 1 0 from rfl, ↓reduceIte, Bool.false_eq_true, bi_t, bi_f, Bool.and_true, Bool.true_and, Bool.and_false, Bool.false_and, ite_self, e1_12, c256_14, c264_15] at hQ; with_reducible exact hQ) | (simp (decide := true) only [oFit, show mP S 1706 0 = S 1 0 from rfl, ↓reduceIte, Bool.false_eq_true, bi_t, bi_f, Bool.and_true, Bool.true_and, Bool.and_false, Bool.false_and, ite_self, e1_12, c256_14, c264_15] at hQ ⊢; with_reducible exact hQ) | (rw [fit_mid (by assumption) (by assumption)] at hQ; simp (decide := true) only [oFit, show mP S 1706 0 = S 1 0 from rfl, ↓reduceIte, Bool.false_eq_true, bi_t, bi_f, Bool.and_true, Bool.true_and, Bool.and_false, Bool.false_and, ite_self, e1_12, c256_14, c264_15] at hQ; with_reducible exact hQ) | (rw [fit_none (by first | exact Or.inl (by assumption) | exact Or.inr (by assumption)) (by first | assumption | decide) (by first | assumption | decide) (by first | assumption | decide) (by first | assumption | decide) (by first | assumption | decide) (by first | assumption | decide) (by first | assumption | decide) (by first | assumption | decide) (by first | assumption | decide) (by first | assumption | decide) (by first | assumption | decide) (by first | assumption | decide) (by first | assumption | decide) (by first | assumption | decide) (by first | assumption | decide) (by first | assumption | decide) (by first | assumption | decide)] at hQ; exact hQ)
  by_cases e1_13 : x1 = 13
  · refine aj_tsIn (tgt := 273) (off := 272) dX10_isRight_1 (by rw [e1_13]; decide) (by rw [e1_13]; decide) (by rw [e1_13]; rfl) (by decide) ?_
    refine aj_iload_n (q := 274) (i := 2) dX10_isRight_273 rfl rfl rfl ?_
    refine aj_bipush (q := 276) (v := 8) dX10_isRight_274 rfl (by decide) ?_
    refine aj_callS (q := 279) (As := [_, _]) cl_X10_86 mk_X10_isIn dX10_isRight_276 rfl rfl (Nat.le_of_ble_eq_true rfl) (sp_X10_isIn ?_)
    refine aj_ifB_eq (q := 282) (tgt := 303) dX10_isRight_279 rfl (by decide) (fun c279_16 => ?_) (fun c279_16 => ?_)
    · refine aj_iconst (q := 304) (v := 0) dX10_isRight_303 rfl (by decide) ?_
      refine aj_zreturn dX10_isRight_304 rfl (by first | exact bi_nar _ | decide) ?_
      skip; subst ex1
      first | contradiction | with_reducible exact hQ | (simp (decide := true) only [oFit, show mP S 1706 0 = S 1 0 from rfl, ↓reduceIte, Bool.false_eq_true, bi_t, bi_f, Bool.and_true, Bool.true_and, Bool.and_false, Bool.false_and, ite_self, e1_13, c279_16] at hQ; with_reducible exact hQ) | (simp (decide := true) only [oFit, show mP S 1706 0 = S 1 0 from rfl, ↓reduceIte, Bool.false_eq_true, bi_t, bi_f, Bool.and_true, Bool.true_and, Bool.and_false, Bool.false_and, ite_self, e1_13, c279_16] at hQ ⊢; with_reducible exact hQ) | (rw [fit_mid (by assumption) (by assumption)] at hQ; simp (decide := true) only [oFit, show mP S 1706 0 = S 1 0 from rfl, ↓reduceIte, Bool.false_eq_true, bi_t, bi_f, Bool.and_true, Bool.true_and, Bool.and_false, Bool.false_and, ite_self, e1_13, c279_16] at hQ; with_reducible exact hQ) | (rw [fit_none (by first | exact Or.inl (by assumption) | exact Or.inr (by assumption)) (by first | assumption | decide) (by first | assumption | decide) (by first | assumption | decide) (by first | assumption | decide) (by first | assumption | decide) (by first | assumption | decide) (by first | assumption | decide) (by first | assumption | decide) (by first | assumption | decide) (by first | assumption | decide) (by first | assumption | decide) (by first | assumption | decide) (by first | assumption | decide) (by first | assumption | decide) (by first | assumption | decide) (by first | assumption | decide) (by first | assumption | decide)] at hQ; exact hQ)
    · refine aj_aload_n (q := 283) (i := 0) dX10_isRight_282 rfl rfl rfl ?_
      refine aj_iload_n (q := 284) (i := 3) dX10_isRight_283 rfl rfl rfl ?_
      refine aj_callV (q := 287) (As := [_]) cl_X10_90 mk_X10_isStatement dX10_isRight_284 rfl lM_0 rfl rfl (Nat.le_of_ble_eq_true rfl) (sp_X10_isStatement ?_)
      refine aj_ifB_eq (q := 290) (tgt := 303) dX10_isRight_287 rfl (by decide) (fun c287_17 => ?_) (fun c287_17 => ?_)
      · refine aj_iconst (q := 304) (v := 0) dX10_isRight_303 rfl (by decide) ?_
        refine aj_zreturn dX10_isRight_304 rfl (by first | exact bi_nar _ | decide) ?_
        skip; subst ex1
        first | contradiction | with_reducible exact hQ | (simp (decide := true) only [oFit, show mP S 1706 0 = S 1 0 from rfl, ↓reduceIte, Bool.false_eq_true, bi_t, bi_f, Bool.and_true, Bool.true_and, Bool.and_false, Bool.false_and, ite_self, e1_13, c279_16, c287_17] at hQ; with_reducible exact hQ) | (simp (decide := true) only [oFit, show mP S 1706 0 = S 1 0 from rfl, ↓reduceIte, Bool.false_eq_true, bi_t, bi_f, Bool.and_true, Bool.true_and, Bool.and_false, Bool.false_and, ite_self, e1_13, c279_16, c287_17] at hQ ⊢; with_reducible exact hQ) | (rw [fit_mid (by assumption) (by assumption)] at hQ; simp (decide := true) only [oFit, show mP S 1706 0 = S 1 0 from rfl, ↓reduceIte, Bool.false_eq_true, bi_t, bi_f, Bool.and_true, Bool.true_and, Bool.and_false, Bool.false_and, ite_self, e1_13, c279_16, c287_17] at hQ; with_reducible exact hQ) | (rw [fit_none (by first | exact Or.inl (by assumption) | exact Or.inr (by assumption)) (by first | assumption | decide) (by first | assumption | decide) (by first | assumption | decide) (by first | assumption | decide) (by first | assumption | decide) (by first | assumption | decide) (by first | assumption | decide) (by first | assumption | decide) (by first | assumption | decide) (by first | assumption | decide) (by first | assumption | decide) (by first | assumption | decide) (by first | assumption | decide) (by first | assumption | decide) (by first | assumption | decide) (by first | assumption | decide) (by first | assumption | decide)] at hQ; exact hQ)
      · refine aj_aload_n (q := 291) (i := 0) dX10_isRight_290 rfl rfl rfl ?_
        refine aj_iload (q := 293) (i := 4) dX10_isRight_291 rfl rfl ?_
        refine aj_callV (q := 296) (As := [_]) cl_X10_90 mk_X10_isStatement dX10_isRight_293 rfl lM_0 rfl rfl (Nat.le_of_ble_eq_true rfl) (sp_X10_isStatement ?_)
        refine aj_ifB_eq (q := 299) (tgt := 303) dX10_isRight_296 rfl (by decide) (fun c296_18 => ?_) (fun c296_18 => ?_)
        · refine aj_iconst (q := 304) (v := 0) dX10_isRight_303 rfl (by decide) ?_
          refine aj_zreturn dX10_isRight_304 rfl (by first | exact bi_nar _ | decide) ?_
          skip; subst ex1
          first | contradiction | with_reducible exact hQ | (simp (decide := true) only [oFit, show mP S 1706 0 = S 1 0 from rfl, ↓reduceIte, Bool.false_eq_true, bi_t, bi_f, Bool.and_true, Bool.true_and, Bool.and_false, Bool.false_and, ite_self, e1_13, c279_16, c287_17, c296_18] at hQ; with_reducible exact hQ) | (simp (decide := true) only [oFit, show mP S 1706 0 = S 1 0 from rfl, ↓reduceIte, Bool.false_eq_true, bi_t, bi_f, Bool.and_true, Bool.true_and, Bool.and_false, Bool.false_and, ite_self, e1_13, c279_16, c287_17, c296_18] at hQ ⊢; with_reducible exact hQ) | (rw [fit_mid (by assumption) (by assumption)] at hQ; simp (decide := true) only [oFit, show mP S 1706 0 = S 1 0 from rfl, ↓reduceIte, Bool.false_eq_true, bi_t, bi_f, Bool.and_true, Bool.true_and, Bool.and_false, Bool.false_and, ite_self, e1_13, c279_16, c287_17, c296_18] at hQ; with_reducible exact hQ) | (rw [fit_none (by first | exact Or.inl (by assumption) | exact Or.inr (by assumption)) (by first | assumption | decide) (by first | assumption | decide) (by first | assumption | decide) (by first | assumption | decide) (by first | assumption | decide) (by first | assumption | decide) (by first | assumption | decide) (by first | assumption | decide) (by first | assumption | decide) (by first | assumption | decide) (by first | assumption | decide) (by first | assumption | decide) (by first | assumption | decide) (by first | assumption | decide) (by first | assumption | decide) (by first | assumption | decide) (by first | assumption | decide)] at hQ; exact hQ)
        · refine aj_iconst (q := 300) (v := 1) dX10_isRight_299 rfl (by decide) ?_
          refine aj_goto (tgt := 304) dX10_isRight_300 (by decide) ?_
          refine aj_zreturn dX10_isRight_304 rfl (by first | exact bi_nar _ | decide) ?_
          skip; subst ex1
          first | contradiction | with_reducible exact hQ | (simp (decide := true) only [oFit, show mP S 1706 0 = S 1 0 from rfl, ↓reduceIte, Bool.false_eq_true, bi_t, bi_f, Bool.and_true, Bool.true_and, Bool.and_false, Bool.false_and, ite_self, e1_13, c279_16, c287_17, c296_18] at hQ; with_reducible exact hQ) | (simp (decide := true) only [oFit, show mP S 1706 0 = S 1 0 from rfl, ↓reduceIte, Bool.false_eq_true, bi_t, bi_f, Bool.and_true, Bool.true_and, Bool.and_false, Bool.false_and, ite_self, e1_13, c279_16, c287_17, c296_18] at hQ ⊢; with_reducible exact hQ) | (rw [fit_mid (by assumption) (by assumption)] at hQ; simp (decide := true) only [oFit, show mP S 1706 0 = S 1 0 from rfl, ↓reduceIte, Bool.false_eq_true, bi_t, bi_f, Bool.and_true, Bool.true_and, Bool.and_false, Bool.false_and, ite_self, e1_13, c279_16, c287_17, c296_18] at hQ; with_reducible exact hQ) | (rw [fit_none (by first | exact Or.inl (by assumption) | exact Or.inr (by assumption)) (by first | assumption | decide) (by first | assumption | decide) (by first | assumption | decide) (by first | assumption | decide) (by first | assumption | decide) (by first | assumption | decide) (by first | assumption | decide) (by first | assumption | decide) (by first | assumption | decide) (by first | assumption | decide) (by first | assumption | decide) (by first | assumption | decide) (by first | assumption | decide) (by first | assumption | decide) (by first | assumption | decide) (by first | assumption | decide) (by first | assumption | decide)] at hQ; exact hQ)
  by_cases e1_14 : x1 = 14
  · refine aj_tsIn (tgt := 305) (off := 304) dX10_isRight_1 (by rw [e1_14]; decide) (by rw [e1_14]; decide) (by rw [e1_14]; rfl) (by decide) ?_
    refine aj_iload_n (q := 306) (i := 2) dX10_isRight_305 rfl rfl rfl ?_
    refine aj_bipush (q := 308) (v := 8) dX10_isRight_306 rfl (by decide) ?_
    refine aj_callS (q := 311) (As := [_, _]) cl_X10_86 mk_X10_isIn dX10_isRight_308 rfl rfl (Nat.le_of_ble_eq_true rfl) (sp_X10_isIn ?_)
    refine aj_ifB_eq (q := 314) (tgt := 326) dX10_isRight_311 rfl (by decide) (fun c311_19 => ?_) (fun c311_19 => ?_)
    · refine aj_iconst (q := 327) (v := 0) dX10_isRight_326 rfl (by decide) ?_
      refine aj_zreturn dX10_isRight_327 rfl (by first | exact bi_nar _ | decide) ?_
      skip; subst ex1
      first | contradiction | with_reducible exact hQ | (simp (decide := true) only [oFit, show mP S 1706 0 = S 1 0 from rfl, ↓reduceIte, Bool.false_eq_true, bi_t, bi_f, Bool.and_true, Bool.true_and, Bool.and_false, Bool.false_and, ite_self, e1_14, c311_19] at hQ; with_reducible exact hQ) | (simp (decide := true) only [oFit, show mP S 1706 0 = S 1 0 from rfl, ↓reduceIte, Bool.false_eq_true, bi_t, bi_f, Bool.and_true, Bool.true_and, Bool.and_false, Bool.false_and, ite_self, e1_14, c311_19] at hQ ⊢; with_reducible exact hQ) | (rw [fit_mid (by assumption) (by assumption)] at hQ; simp (decide := true) only [oFit, show mP S 1706 0 = S 1 0 from rfl, ↓reduceIte, Bool.false_eq_true, bi_t, bi_f, Bool.and_true, Bool.true_and, Bool.and_false, Bool.false_and, ite_self, e1_14, c311_19] at hQ; with_reducible exact hQ) | (rw [fit_none (by first | exact Or.inl (by assumption) | exact Or.inr (by assumption)) (by first | assumption | decide) (by first | assumption | decide) (by first | assumption | decide) (by first | assumption | decide) (by first | assumption | decide) (by first | assumption | decide) (by first | assumption | decide) (by first | assumption | decide) (by first | assumption | decide) (by first | assumption | decide) (by first | assumption | decide) (by first | assumption | decide) (by first | assumption | decide) (by first | assumption | decide) (by first | assumption | decide) (by first | assumption | decide) (by first | assumption | decide)] at hQ; exact hQ)
    · refine aj_aload_n (q := 315) (i := 0) dX10_isRight_314 rfl rfl rfl ?_
      refine aj_iload_n (q := 316) (i := 3) dX10_isRight_315 rfl rfl rfl ?_
      refine aj_callV (q := 319) (As := [_]) cl_X10_90 mk_X10_isStatement dX10_isRight_316 rfl lM_0 rfl rfl (Nat.le_of_ble_eq_true rfl) (sp_X10_isStatement ?_)
      refine aj_ifB_eq (q := 322) (tgt := 326) dX10_isRight_319 rfl (by decide) (fun c319_20 => ?_) (fun c319_20 => ?_)
      · refine aj_iconst (q := 327) (v := 0) dX10_isRight_326 rfl (by decide) ?_
        refine aj_zreturn dX10_isRight_327 rfl (by first | exact bi_nar _ | decide) ?_
        skip; subst ex1
        first | contradiction | with_reducible exact hQ | (simp (decide := true) only [oFit, show mP S 1706 0 = S 1 0 from rfl, ↓reduceIte, Bool.false_eq_true, bi_t, bi_f, Bool.and_true, Bool.true_and, Bool.and_false, Bool.false_and, ite_self, e1_14, c311_19, c319_20] at hQ; with_reducible exact hQ) | (simp (decide := true) only [oFit, show mP S 1706 0 = S 1 0 from rfl, ↓reduceIte, Bool.false_eq_true, bi_t, bi_f, Bool.and_true, Bool.true_and, Bool.and_false, Bool.false_and, ite_self, e1_14, c311_19, c319_20] at hQ ⊢; with_reducible exact hQ) | (rw [fit_mid (by assumption) (by assumption)] at hQ; simp (decide := true) only [oFit, show mP S 1706 0 = S 1 0 from rfl, ↓reduceIte, Bool.false_eq_true, bi_t, bi_f, Bool.and_true, Bool.true_and, Bool.and_false, Bool.false_and, ite_self, e1_14, c311_19, c319_20] at hQ; with_reducible exact hQ) | (rw [fit_none (by first | exact Or.inl (by assumption) | exact Or.inr (by assumption)) (by first | assumption | decide) (by first | assumption | decide) (by first | assumption | decide) (by first | assumption | decide) (by first | assumption | decide) (by first | assumption | decide) (by first | assumption | decide) (by first | assumption | decide) (by first | assumption | decide) (by first | assumption | decide) (by first | assumption | decide) (by first | assumption | decide) (by first | assumption | decide) (by first | assumption | decide) (by first | assumption | decide) (by first | assumption | decide) (by first | assumption | decide)] at hQ; exact hQ)
      · refine aj_iconst (q := 323) (v := 1) dX10_isRight_322 rfl (by decide) ?_
        refine aj_goto (tgt := 327) dX10_isRight_323 (by decide) ?_
        refine aj_zreturn dX10_isRight_327 rfl (by first | exact bi_nar _ | decide) ?_
        skip; subst ex1
        first | contradiction | with_reducible exact hQ | (simp (decide := true) only [oFit, show mP S 1706 0 = S 1 0 from rfl, ↓reduceIte, Bool.false_eq_true, bi_t, bi_f, Bool.and_true, Bool.true_and, Bool.and_false, Bool.false_and, ite_self, e1_14, c311_19, c319_20] at hQ; with_reducible exact hQ) | (simp (decide := true) only [oFit, show mP S 1706 0 = S 1 0 from rfl, ↓reduceIte, Bool.false_eq_true, bi_t, bi_f, Bool.and_true, Bool.true_and, Bool.and_false, Bool.false_and, ite_self, e1_14, c311_19, c319_20] at hQ ⊢; with_reducible exact hQ) | (rw [fit_mid (by assumption) (by assumption)] at hQ; simp (decide := true) only [oFit, show mP S 1706 0 = S 1 0 from rfl, ↓reduceIte, Bool.false_eq_true, bi_t, bi_f, Bool.and_true, Bool.true_and, Bool.and_false, Bool.false_and, ite_self, e1_14, c311_19, c319_20] at hQ; with_reducible exact hQ) | (rw [fit_none (by first | exact Or.inl (by assumption) | exact Or.inr (by assumption)) (by first | assumption | decide) (by first | assumption | decide) (by first | assumption | decide) (by first | assumption | decide) (by first | assumption | decide) (by first | assumption | decide) (by first | assumption | decide) (by first | assumption | decide) (by first | assumption | decide) (by first | assumption | decide) (by first | assumption | decide) (by first | assumption | decide) (by first | assumption | decide) (by first | assumption | decide) (by first | assumption | decide) (by first | assumption | decide) (by first | assumption | decide)] at hQ; exact hQ)
  by_cases e1_15 : x1 = 15
  · refine aj_tsIn (tgt := 328) (off := 327) dX10_isRight_1 (by rw [e1_15]; decide) (by rw [e1_15]; decide) (by rw [e1_15]; rfl) (by decide) ?_
    refine aj_iload_n (q := 329) (i := 2) dX10_isRight_328 rfl rfl rfl ?_
    refine aj_bipush (q := 331) (v := 8) dX10_isRight_329 rfl (by decide) ?_
    refine aj_callS (q := 334) (As := [_, _]) cl_X10_86 mk_X10_isIn dX10_isRight_331 rfl rfl (Nat.le_of_ble_eq_true rfl) (sp_X10_isIn ?_)
    refine aj_zreturn dX10_isRight_334 rfl (by first | exact bi_nar _ | decide) ?_
    skip; subst ex1
    first | contradiction | with_reducible exact hQ | (simp (decide := true) only [oFit, show mP S 1706 0 = S 1 0 from rfl, ↓reduceIte, Bool.false_eq_true, bi_t, bi_f, Bool.and_true, Bool.true_and, Bool.and_false, Bool.false_and, ite_self, e1_15] at hQ; with_reducible exact hQ) | (simp (decide := true) only [oFit, show mP S 1706 0 = S 1 0 from rfl, ↓reduceIte, Bool.false_eq_true, bi_t, bi_f, Bool.and_true, Bool.true_and, Bool.and_false, Bool.false_and, ite_self, e1_15] at hQ ⊢; with_reducible exact hQ) | (rw [fit_mid (by assumption) (by assumption)] at hQ; simp (decide := true) only [oFit, show mP S 1706 0 = S 1 0 from rfl, ↓reduceIte, Bool.false_eq_true, bi_t, bi_f, Bool.and_true, Bool.true_and, Bool.and_false, Bool.false_and, ite_self, e1_15] at hQ; with_reducible exact hQ) | (rw [fit_none (by first | exact Or.inl (by assumption) | exact Or.inr (by assumption)) (by first | assumption | decide) (by first | assumption | decide) (by first | assumption | decide) (by first | assumption | decide) (by first | assumption | decide) (by first | assumption | decide) (by first | assumption | decide) (by first | assumption | decide) (by first | assumption | decide) (by first | assumption | decide) (by first | assumption | decide) (by first | assumption | decide) (by first | assumption | decide) (by first | assumption | decide) (by first | assumption | decide) (by first | assumption | decide) (by first | assumption | decide)] at hQ; exact hQ)
  by_cases e1_16 : x1 = 16
  · refine aj_tsIn (tgt := 335) (off := 334) dX10_isRight_1 (by rw [e1_16]; decide) (by rw [e1_16]; decide) (by rw [e1_16]; rfl) (by decide) ?_
    refine aj_iload_n (q := 336) (i := 2) dX10_isRight_335 rfl rfl rfl ?_
    refine aj_bipush (q := 338) (v := 8) dX10_isRight_336 rfl (by decide) ?_
    refine aj_callS (q := 341) (As := [_, _]) cl_X10_86 mk_X10_isIn dX10_isRight_338 rfl rfl (Nat.le_of_ble_eq_true rfl) (sp_X10_isIn ?_)
    refine aj_zreturn dX10_isRight_341 rfl (by first | exact bi_nar _ | decide) ?_
    skip; subst ex1
    first | contradiction | with_reducible exact hQ | (simp (decide := true) only [oFit, show mP S 1706 0 = S 1 0 from rfl, ↓reduceIte, Bool.false_eq_true, bi_t, bi_f, Bool.and_true, Bool.true_and, Bool.and_false, Bool.false_and, ite_self, e1_16] at hQ; with_reducible exact hQ) | (simp (decide := true) only [oFit, show mP S 1706 0 = S 1 0 from rfl, ↓reduceIte, Bool.false_eq_true, bi_t, bi_f, Bool.and_true, Bool.true_and, Bool.and_false, Bool.false_and, ite_self, e1_16] at hQ ⊢; with_reducible exact hQ) | (rw [fit_mid (by assumption) (by assumption)] at hQ; simp (decide := true) only [oFit, show mP S 1706 0 = S 1 0 from rfl, ↓reduceIte, Bool.false_eq_true, bi_t, bi_f, Bool.and_true, Bool.true_and, Bool.and_false, Bool.false_and, ite_self, e1_16] at hQ; with_reducible exact hQ) | (rw [fit_none (by first | exact Or.inl (by assumption) | exact Or.inr (by assumption)) (by first | assumption | decide) (by first | assumption | decide) (by first | assumption | decide) (by first | assumption | decide) (by first | assumption | decide) (by first | assumption | decide) (by first | assumption | decide) (by first | assumption | decide) (by first | assumption | decide) (by first | assumption | decide) (by first | assumption | decide) (by first | assumption | decide) (by first | assumption | decide) (by first | assumption | decide) (by first | assumption | decide) (by first | assumption | decide) (by first | assumption | decide)] at hQ; exact hQ)
  by_cases e1_17 : x1 = 17
  · refine aj_tsIn (tgt := 342) (off := 341) dX10_isRight_1 (by rw [e1_17]; decide) (by rw [e1_17]; decide) (by rw [e1_17]; rfl) (by decide) ?_
    refine aj_iload_n (q := 343) (i := 2) dX10_isRight_342 rfl rfl rfl ?_
    refine aj_bipush (q := 345) (v := 8) dX10_isRight_343 rfl (by decide) ?_
    refine aj_callS (q := 348) (As := [_, _]) cl_X10_86 mk_X10_isIn dX10_isRight_345 rfl rfl (Nat.le_of_ble_eq_true rfl) (sp_X10_isIn ?_)
    refine aj_zreturn dX10_isRight_348 rfl (by first | exact bi_nar _ | decide) ?_
    skip; subst ex1
    first | contradiction | with_reducible exact hQ | (simp (decide := true) only [oFit, show mP S 1706 0 = S 1 0 from rfl, ↓reduceIte, Bool.false_eq_true, bi_t, bi_f, Bool.and_true, Bool.true_and, Bool.and_false, Bool.false_and, ite_self, e1_17] at hQ; with_reducible exact hQ) | (simp (decide := true) only [oFit, show mP S 1706 0 = S 1 0 from rfl, ↓reduceIte, Bool.false_eq_true, bi_t, bi_f, Bool.and_true, Bool.true_and, Bool.and_false, Bool.false_and, ite_self, e1_17] at hQ ⊢; with_reducible exact hQ) | (rw [fit_mid (by assumption) (by assumption)] at hQ; simp (decide := true) only [oFit, show mP S 1706 0 = S 1 0 from rfl, ↓reduceIte, Bool.false_eq_true, bi_t, bi_f, Bool.and_true, Bool.true_and, Bool.and_false, Bool.false_and, ite_self, e1_17] at hQ; with_reducible exact hQ) | (rw [fit_none (by first | exact Or.inl (by assumption) | exact Or.inr (by assumption)) (by first | assumption | decide) (by first | assumption | decide) (by first | assumption | decide) (by first | assumption | decide) (by first | assumption | decide) (by first | assumption | decide) (by first | assumption | decide) (by first | assumption | decide) (by first | assumption | decide) (by first | assumption | decide) (by first | assumption | decide) (by first | assumption | decide) (by first | assumption | decide) (by first | assumption | decide) (by first | assumption | decide) (by first | assumption | decide) (by first | assumption | decide)] at hQ; exact hQ)
  by_cases e1_18 : x1 = 18
  · refine aj_tsIn (tgt := 356) (off := 355) dX10_isRight_1 (by rw [e1_18]; decide) (by rw [e1_18]; decide) (by rw [e1_18]; rfl) (by decide) ?_
    refine aj_aload_n (q := 357) (i := 0) dX10_isRight_356 rfl rfl rfl ?_
    refine aj_iload_n (q := 358) (i := 2) dX10_isRight_357 rfl rfl rfl ?_
    refine aj_callV (q := 361) (As := [_]) cl_X10_90 mk_X10_isStatement dX10_isRight_358 rfl lM_0 rfl rfl (Nat.le_of_ble_eq_true rfl) (sp_X10_isStatement ?_)
    refine aj_ifB_eq (q := 364) (tgt := 387) dX10_isRight_361 rfl (by decide) (fun c361_21 => ?_) (fun c361_21 => ?_)
    · refine aj_iconst (q := 388) (v := 0) dX10_isRight_387 rfl (by decide) ?_
      refine aj_zreturn dX10_isRight_388 rfl (by first | exact bi_nar _ | decide) ?_
      skip; subst ex1
      first | contradiction | with_reducible exact hQ | (simp (decide := true) only [oFit, show mP S 1706 0 = S 1 0 from rfl, ↓reduceIte, Bool.false_eq_true, bi_t, bi_f, Bool.and_true, Bool.true_and, Bool.and_false, Bool.false_and, ite_self, e1_18, c361_21] at hQ; with_reducible exact hQ) | (simp (decide := true) only [oFit, show mP S 1706 0 = S 1 0 from rfl, ↓reduceIte, Bool.false_eq_true, bi_t, bi_f, Bool.and_true, Bool.true_and, Bool.and_false, Bool.false_and, ite_self, e1_18, c361_21] at hQ ⊢; with_reducible exact hQ) | (rw [fit_mid (by assumption) (by assumption)] at hQ; simp (decide := true) only [oFit, show mP S 1706 0 = S 1 0 from rfl, ↓reduceIte, Bool.false_eq_true, bi_t, bi_f, Bool.and_true, Bool.true_and, Bool.and_false, Bool.false_and, ite_self, e1_18, c361_21] at hQ; with_reducible exact hQ) | (rw [fit_none (by first | exact Or.inl (by assumption) | exact Or.inr (by assumption)) (by first | assumption | decide) (by first | assumption | decide) (by first | assumption | decide) (by first | assumption | decide) (by first | assumption | decide) (by first | assumption | decide) (by first | assumption | decide) (by first | assumption | decide) (by first | assumption | decide) (by first | assumption | decide) (by first | assumption | decide) (by first | assumption | decide) (by first | assumption | decide) (by first | assumption | decide) (by first | assumption | decide) (by first | assumption | decide) (by first | assumption | decide)] at hQ; exact hQ)
    · refine aj_iload_n (q := 365) (i := 3) dX10_isRight_364 rfl rfl rfl ?_
      refine aj_sipush (q := 368) (v := 128) dX10_isRight_365 rfl (by decide) ?_
      refine aj_callS (q := 371) (As := [_, _]) cl_X10_86 mk_X10_isIn dX10_isRight_368 rfl rfl (Nat.le_of_ble_eq_true rfl) (sp_X10_isIn ?_)
      refine aj_ifB_eq (q := 374) (tgt := 387) dX10_isRight_371 rfl (by decide) (fun c371_22 => ?_) (fun c371_22 => ?_)
      · refine aj_iconst (q := 388) (v := 0) dX10_isRight_387 rfl (by decide) ?_
        refine aj_zreturn dX10_isRight_388 rfl (by first | exact bi_nar _ | decide) ?_
        skip; subst ex1
        first | contradiction | with_reducible exact hQ | (simp (decide := true) only [oFit, show mP S 1706 0 = S 1 0 from rfl, ↓reduceIte, Bool.false_eq_true, bi_t, bi_f, Bool.and_true, Bool.true_and, Bool.and_false, Bool.false_and, ite_self, e1_18, c361_21, c371_22] at hQ; with_reducible exact hQ) | (simp (decide := true) only [oFit, show mP S 1706 0 = S 1 0 from rfl, ↓reduceIte, Bool.false_eq_true, bi_t, bi_f, Bool.and_true, Bool.true_and, Bool.and_false, Bool.false_and, ite_self, e1_18, c361_21, c371_22] at hQ ⊢; with_reducible exact hQ) | (rw [fit_mid (by assumption) (by assumption)] at hQ; simp (decide := true) only [oFit, show mP S 1706 0 = S 1 0 from rfl, ↓reduceIte, Bool.false_eq_true, bi_t, bi_f, Bool.and_true, Bool.true_and, Bool.and_false, Bool.false_and, ite_self, e1_18, c361_21, c371_22] at hQ; with_reducible exact hQ) | (rw [fit_none (by first | exact Or.inl (by assumption) | exact Or.inr (by assumption)) (by first | assumption | decide) (by first | assumption | decide) (by first | assumption | decide) (by first | assumption | decide) (by first | assumption | decide) (by first | assumption | decide) (by first | assumption | decide) (by first | assumption | decide) (by first | assumption | decide) (by first | assumption | decide) (by first | assumption | decide) (by first | assumption | decide) (by first | assumption | decide) (by first | assumption | decide) (by first | assumption | decide) (by first | assumption | decide) (by first | assumption | decide)] at hQ; exact hQ)
      · refine aj_aload_n (q := 375) (i := 0) dX10_isRight_374 rfl rfl rfl ?_
        refine aj_iload (q := 377) (i := 4) dX10_isRight_375 rfl rfl ?_
        refine aj_callV (q := 380) (As := [_]) cl_X10_90 mk_X10_isStatement dX10_isRight_377 rfl lM_0 rfl rfl (Nat.le_of_ble_eq_true rfl) (sp_X10_isStatement ?_)
        refine aj_ifB_eq (q := 383) (tgt := 387) dX10_isRight_380 rfl (by decide) (fun c380_23 => ?_) (fun c380_23 => ?_)
        · refine aj_iconst (q := 388) (v := 0) dX10_isRight_387 rfl (by decide) ?_
          refine aj_zreturn dX10_isRight_388 rfl (by first | exact bi_nar _ | decide) ?_
          skip; subst ex1
          first | contradiction | with_reducible exact hQ | (simp (decide := true) only [oFit, show mP S 1706 0 = S 1 0 from rfl, ↓reduceIte, Bool.false_eq_true, bi_t, bi_f, Bool.and_true, Bool.true_and, Bool.and_false, Bool.false_and, ite_self, e1_18, c361_21, c371_22, c380_23] at hQ; with_reducible exact hQ) | (simp (decide := true) only [oFit, show mP S 1706 0 = S 1 0 from rfl, ↓reduceIte, Bool.false_eq_true, bi_t, bi_f, Bool.and_true, Bool.true_and, Bool.and_false, Bool.false_and, ite_self, e1_18, c361_21, c371_22, c380_23] at hQ ⊢; with_reducible exact hQ) | (rw [fit_mid (by assumption) (by assumption)] at hQ; simp (decide := true) only [oFit, show mP S 1706 0 = S 1 0 from rfl, ↓reduceIte, Bool.false_eq_true, bi_t, bi_f, Bool.and_true, Bool.true_and, Bool.and_false, Bool.false_and, ite_self, e1_18, c361_21, c371_22, c380_23] at hQ; with_reducible exact hQ) | (rw [fit_none (by first | exact Or.inl (by assumption) | exact Or.inr (by assumption)) (by first | assumption | decide) (by first | assumption | decide) (by first | assumption | decide) (by first | assumption | decide) (by first | assumption | decide) (by first | assumption | decide) (by first | assumption | decide) (by first | assumption | decide) (by first | assumption | decide) (by first | assumption | decide) (by first | assumption | decide) (by first | assumption | decide) (by first | assumption | decide) (by first | assumption | decide) (by first | assumption | decide) (by first | assumption | decide) (by first | assumption | decide)] at hQ; exact hQ)
        · refine aj_iconst (q := 384) (v := 1) dX10_isRight_383 rfl (by decide) ?_
          refine aj_goto (tgt := 388) dX10_isRight_384 (by decide) ?_
          refine aj_zreturn dX10_isRight_388 rfl (by first | exact bi_nar _ | decide) ?_
          skip; subst ex1
          first | contradiction | with_reducible exact hQ | (simp (decide := true) only [oFit, show mP S 1706 0 = S 1 0 from rfl, ↓reduceIte, Bool.false_eq_true, bi_t, bi_f, Bool.and_true, Bool.true_and, Bool.and_false, Bool.false_and, ite_self, e1_18, c361_21, c371_22, c380_23] at hQ; with_reducible exact hQ) | (simp (decide := true) only [oFit, show mP S 1706 0 = S 1 0 from rfl, ↓reduceIte, Bool.false_eq_true, bi_t, bi_f, Bool.and_true, Bool.true_and, Bool.and_false, Bool.false_and, ite_self, e1_18, c361_21, c371_22, c380_23] at hQ ⊢; with_reducible exact hQ) | (rw [fit_mid (by assumption) (by assumption)] at hQ; simp (decide := true) only [oFit, show mP S 1706 0 = S 1 0 from rfl, ↓reduceIte, Bool.false_eq_true, bi_t, bi_f, Bool.and_true, Bool.true_and, Bool.and_false, Bool.false_and, ite_self, e1_18, c361_21, c371_22, c380_23] at hQ; with_reducible exact hQ) | (rw [fit_none (by first | exact Or.inl (by assumption) | exact Or.inr (by assumption)) (by first | assumption | decide) (by first | assumption | decide) (by first | assumption | decide) (by first | assumption | decide) (by first | assumption | decide) (by first | assumption | decide) (by first | assumption | decide) (by first | assumption | decide) (by first | assumption | decide) (by first | assumption | decide) (by first | assumption | decide) (by first | assumption | decide) (by first | assumption | decide) (by first | assumption | decide) (by first | assumption | decide) (by first | assumption | decide) (by first | assumption | decide)] at hQ; exact hQ)
  by_cases e1_19 : x1 = 19
  · refine aj_tsIn (tgt := 389) (off := 388) dX10_isRight_1 (by rw [e1_19]; decide) (by rw [e1_19]; decide) (by rw [e1_19]; rfl) (by decide) ?_
    refine aj_aload_n (q := 390) (i := 0) dX10_isRight_389 rfl rfl rfl ?_
    refine aj_iload_n (q := 391) (i := 2) dX10_isRight_390 rfl rfl rfl ?_
    refine aj_callV (q := 394) (As := [_]) cl_X10_90 mk_X10_isStatement dX10_isRight_391 rfl lM_0 rfl rfl (Nat.le_of_ble_eq_true rfl) (sp_X10_isStatement ?_)
    refine aj_ifB_eq (q := 397) (tgt := 409) dX10_isRight_394 rfl (by decide) (fun c394_24 => ?_) (fun c394_24 => ?_)
    · refine aj_iconst (q := 410) (v := 0) dX10_isRight_409 rfl (by decide) ?_
      refine aj_zreturn dX10_isRight_410 rfl (by first | exact bi_nar _ | decide) ?_
      skip; subst ex1
      first | contradiction | with_reducible exact hQ | (simp (decide := true) only [oFit, show mP S 1706 0 = S 1 0 from rfl, ↓reduceIte, Bool.false_eq_true, bi_t, bi_f, Bool.and_true, Bool.true_and, Bool.and_false, Bool.false_and, ite_self, e1_19, c394_24] at hQ; with_reducible exact hQ) | (simp (decide := true) only [oFit, show mP S 1706 0 = S 1 0 from rfl, ↓reduceIte, Bool.false_eq_true, bi_t, bi_f, Bool.and_true, Bool.true_and, Bool.and_false, Bool.false_and, ite_self, e1_19, c394_24] at hQ ⊢; with_reducible exact hQ) | (rw [fit_mid (by assumption) (by assumption)] at hQ; simp (decide := true) only [oFit, show mP S 1706 0 = S 1 0 from rfl, ↓reduceIte, Bool.false_eq_true, bi_t, bi_f, Bool.and_true, Bool.true_and, Bool.and_false, Bool.false_and, ite_self, e1_19, c394_24] at hQ; with_reducible exact hQ) | (rw [fit_none (by first | exact Or.inl (by assumption) | exact Or.inr (by assumption)) (by first | assumption | decide) (by first | assumption | decide) (by first | assumption | decide) (by first | assumption | decide) (by first | assumption | decide) (by first | assumption | decide) (by first | assumption | decide) (by first | assumption | decide) (by first | assumption | decide) (by first | assumption | decide) (by first | assumption | decide) (by first | assumption | decide) (by first | assumption | decide) (by first | assumption | decide) (by first | assumption | decide) (by first | assumption | decide) (by first | assumption | decide)] at hQ; exact hQ)
    · refine aj_aload_n (q := 398) (i := 0) dX10_isRight_397 rfl rfl rfl ?_
      refine aj_iload_n (q := 399) (i := 3) dX10_isRight_398 rfl rfl rfl ?_
      refine aj_callV (q := 402) (As := [_]) cl_X10_90 mk_X10_isStatement dX10_isRight_399 rfl lM_0 rfl rfl (Nat.le_of_ble_eq_true rfl) (sp_X10_isStatement ?_)
      refine aj_ifB_eq (q := 405) (tgt := 409) dX10_isRight_402 rfl (by decide) (fun c402_25 => ?_) (fun c402_25 => ?_)
      · refine aj_iconst (q := 410) (v := 0) dX10_isRight_409 rfl (by decide) ?_
        refine aj_zreturn dX10_isRight_410 rfl (by first | exact bi_nar _ | decide) ?_
        skip; subst ex1
        first | contradiction | with_reducible exact hQ | (simp (decide := true) only [oFit, show mP S 1706 0 = S 1 0 from rfl, ↓reduceIte, Bool.false_eq_true, bi_t, bi_f, Bool.and_true, Bool.true_and, Bool.and_false, Bool.false_and, ite_self, e1_19, c394_24, c402_25] at hQ; with_reducible exact hQ) | (simp (decide := true) only [oFit, show mP S 1706 0 = S 1 0 from rfl, ↓reduceIte, Bool.false_eq_true, bi_t, bi_f, Bool.and_true, Bool.true_and, Bool.and_false, Bool.false_and, ite_self, e1_19, c394_24, c402_25] at hQ ⊢; with_reducible exact hQ) | (rw [fit_mid (by assumption) (by assumption)] at hQ; simp (decide := true) only [oFit, show mP S 1706 0 = S 1 0 from rfl, ↓reduceIte, Bool.false_eq_true, bi_t, bi_f, Bool.and_true, Bool.true_and, Bool.and_false, Bool.false_and, ite_self, e1_19, c394_24, c402_25] at hQ; with_reducible exact hQ) | (rw [fit_none (by first | exact Or.inl (by assumption) | exact Or.inr (by assumption)) (by first | assumption | decide) (by first | assumption | decide) (by first | assumption | decide) (by first | assumption | decide) (by first | assumption | decide) (by first | assumption | decide) (by first | assumption | decide) (by first | assumption | decide) (by first | assumption | decide) (by first | assumption | decide) (by first | assumption | decide) (by first | assumption | decide) (by first | assumption | decide) (by first | assumption | decide) (by first | assumption | decide) (by first | assumption | decide) (by first | assumption | decide)] at hQ; exact hQ)
      · refine aj_iconst (q := 406) (v := 1) dX10_isRight_405 rfl (by decide) ?_
        refine aj_goto (tgt := 410) dX10_isRight_406 (by decide) ?_
        refine aj_zreturn dX10_isRight_410 rfl (by first | exact bi_nar _ | decide) ?_
        skip; subst ex1
        first | contradiction | with_reducible exact hQ | (simp (decide := true) only [oFit, show mP S 1706 0 = S 1 0 from rfl, ↓reduceIte, Bool.false_eq_true, bi_t, bi_f, Bool.and_true, Bool.true_and, Bool.and_false, Bool.false_and, ite_self, e1_19, c394_24, c402_25] at hQ; with_reducible exact hQ) | (simp (decide := true) only [oFit, show mP S 1706 0 = S 1 0 from rfl, ↓reduceIte, Bool.false_eq_true, bi_t, bi_f, Bool.and_true, Bool.true_and, Bool.and_false, Bool.false_and, ite_self, e1_19, c394_24, c402_25] at hQ ⊢; with_reducible exact hQ) | (rw [fit_mid (by assumption) (by assumption)] at hQ; simp (decide := true) only [oFit, show mP S 1706 0 = S 1 0 from rfl, ↓reduceIte, Bool.false_eq_true, bi_t, bi_f, Bool.and_true, Bool.true_and, Bool.and_false, Bool.false_and, ite_self, e1_19, c394_24, c402_25] at hQ; with_reducible exact hQ) | (rw [fit_none (by first | exact Or.inl (by assumption) | exact Or.inr (by assumption)) (by first | assumption | decide) (by first | assumption | decide) (by first | assumption | decide) (by first | assumption | decide) (by first | assumption | decide) (by first | assumption | decide) (by first | assumption | decide) (by first | assumption | decide) (by first | assumption | decide) (by first | assumption | decide) (by first | assumption | decide) (by first | assumption | decide) (by first | assumption | decide) (by first | assumption | decide) (by first | assumption | decide) (by first | assumption | decide) (by first | assumption | decide)] at hQ; exact hQ)
  by_cases e1_20 : x1 = 20
  · refine aj_tsIn (tgt := 411) (off := 410) dX10_isRight_1 (by rw [e1_20]; decide) (by rw [e1_20]; decide) (by rw [e1_20]; rfl) (by decide) ?_
    refine aj_iload_n (q := 412) (i := 2) dX10_isRight_411 rfl rfl rfl ?_
    refine aj_iconst (q := 413) (v := 4) dX10_isRight_412 rfl (by decide) ?_
    refine aj_callS (q := 416) (As := [_, _]) cl_X10_86 mk_X10_isIn dX10_isRight_413 rfl rfl (Nat.le_of_ble_eq_true rfl) (sp_X10_isIn ?_)
    refine aj_ifB_eq (q := 419) (tgt := 431) dX10_isRight_416 rfl (by decide) (fun c416_26 => ?_) (fun c416_26 => ?_)
    · refine aj_iconst (q := 432) (v := 0) dX10_isRight_431 rfl (by decide) ?_
      refine aj_zreturn dX10_isRight_432 rfl (by first | exact bi_nar _ | decide) ?_
      skip; subst ex1
      first | contradiction | with_reducible exact hQ | (simp (decide := true) only [oFit, show mP S 1706 0 = S 1 0 from rfl, ↓reduceIte, Bool.false_eq_true, bi_t, bi_f, Bool.and_true, Bool.true_and, Bool.and_false, Bool.false_and, ite_self, e1_20, c416_26] at hQ; with_reducible exact hQ) | (simp (decide := true) only [oFit, show mP S 1706 0 = S 1 0 from rfl, ↓reduceIte, Bool.false_eq_true, bi_t, bi_f, Bool.and_true, Bool.true_and, Bool.and_false, Bool.false_and, ite_self, e1_20, c416_26] at hQ ⊢; with_reducible exact hQ) | (rw [fit_mid (by assumption) (by assumption)] at hQ; simp (decide := true) only [oFit, show mP S 1706 0 = S 1 0 from rfl, ↓reduceIte, Bool.false_eq_true, bi_t, bi_f, Bool.and_true, Bool.true_and, Bool.and_false, Bool.false_and, ite_self, e1_20, c416_26] at hQ; with_reducible exact hQ) | (rw [fit_none (by first | exact Or.inl (by assumption) | exact Or.inr (by assumption)) (by first | assumption | decide) (by first | assumption | decide) (by first | assumption | decide) (by first | assumption | decide) (by first | assumption | decide) (by first | assumption | decide) (by first | assumption | decide) (by first | assumption | decide) (by first | assumption | decide) (by first | assumption | decide) (by first | assumption | decide) (by first | assumption | decide) (by first | assumption | decide) (by first | assumption | decide) (by first | assumption | decide) (by first | assumption | decide) (by first | assumption | decide)] at hQ; exact hQ)
    · refine aj_aload_n (q := 420) (i := 0) dX10_isRight_419 rfl rfl rfl ?_
      refine aj_iload_n (q := 421) (i := 3) dX10_isRight_420 rfl rfl rfl ?_
      refine aj_callV (q := 424) (As := [_]) cl_X10_90 mk_X10_isStatement dX10_isRight_421 rfl lM_0 rfl rfl (Nat.le_of_ble_eq_true rfl) (sp_X10_isStatement ?_)
      refine aj_ifB_eq (q := 427) (tgt := 431) dX10_isRight_424 rfl (by decide) (fun c424_27 => ?_) (fun c424_27 => ?_)
      · refine aj_iconst (q := 432) (v := 0) dX10_isRight_431 rfl (by decide) ?_
        refine aj_zreturn dX10_isRight_432 rfl (by first | exact bi_nar _ | decide) ?_
        skip; subst ex1
        first | contradiction | with_reducible exact hQ | (simp (decide := true) only [oFit, show mP S 1706 0 = S 1 0 from rfl, ↓reduceIte, Bool.false_eq_true, bi_t, bi_f, Bool.and_true, Bool.true_and, Bool.and_false, Bool.false_and, ite_self, e1_20, c416_26, c424_27] at hQ; with_reducible exact hQ) | (simp (decide := true) only [oFit, show mP S 1706 0 = S 1 0 from rfl, ↓reduceIte, Bool.false_eq_true, bi_t, bi_f, Bool.and_true, Bool.true_and, Bool.and_false, Bool.false_and, ite_self, e1_20, c416_26, c424_27] at hQ ⊢; with_reducible exact hQ) | (rw [fit_mid (by assumption) (by assumption)] at hQ; simp (decide := true) only [oFit, show mP S 1706 0 = S 1 0 from rfl, ↓reduceIte, Bool.false_eq_true, bi_t, bi_f, Bool.and_true, Bool.true_and, Bool.and_false, Bool.false_and, ite_self, e1_20, c416_26, c424_27] at hQ; with_reducible exact hQ) | (rw [fit_none (by first | exact Or.inl (by assumption) | exact Or.inr (by assumption)) (by first | assumption | decide) (by first | assumption | decide) (by first | assumption | decide) (by first | assumption | decide) (by first | assumption | decide) (by first | assumption | decide) (by first | assumption | decide) (by first | assumption | decide) (by first | assumption | decide) (by first | assumption | decide) (by first | assumption | decide) (by first | assumption | decide) (by first | assumption | decide) (by first | assumption | decide) (by first | assumption | decide) (by first | assumption | decide) (by first | assumption | decide)] at hQ; exact hQ)
      · refine aj_iconst (q := 428) (v := 1) dX10_isRight_427 rfl (by decide) ?_
        refine aj_goto (tgt := 432) dX10_isRight_428 (by decide) ?_
        refine aj_zreturn dX10_isRight_432 rfl (by first | exact bi_nar _ | decide) ?_
        skip; subst ex1
        first | contradiction | with_reducible exact hQ | (simp (decide := true) only [oFit, show mP S 1706 0 = S 1 0 from rfl, ↓reduceIte, Bool.false_eq_true, bi_t, bi_f, Bool.and_true, Bool.true_and, Bool.and_false, Bool.false_and, ite_self, e1_20, c416_26, c424_27] at hQ; with_reducible exact hQ) | (simp (decide := true) only [oFit, show mP S 1706 0 = S 1 0 from rfl, ↓reduceIte, Bool.false_eq_true, bi_t, bi_f, Bool.and_true, Bool.true_and, Bool.and_false, Bool.false_and, ite_self, e1_20, c416_26, c424_27] at hQ ⊢; with_reducible exact hQ) | (rw [fit_mid (by assumption) (by assumption)] at hQ; simp (decide := true) only [oFit, show mP S 1706 0 = S 1 0 from rfl, ↓reduceIte, Bool.false_eq_true, bi_t, bi_f, Bool.and_true, Bool.true_and, Bool.and_false, Bool.false_and, ite_self, e1_20, c416_26, c424_27] at hQ; with_reducible exact hQ) | (rw [fit_none (by first | exact Or.inl (by assumption) | exact Or.inr (by assumption)) (by first | assumption | decide) (by first | assumption | decide) (by first | assumption | decide) (by first | assumption | decide) (by first | assumption | decide) (by first | assumption | decide) (by first | assumption | decide) (by first | assumption | decide) (by first | assumption | decide) (by first | assumption | decide) (by first | assumption | decide) (by first | assumption | decide) (by first | assumption | decide) (by first | assumption | decide) (by first | assumption | decide) (by first | assumption | decide) (by first | assumption | decide)] at hQ; exact hQ)
  by_cases e1_21 : x1 = 21
  · refine aj_tsIn (tgt := 349) (off := 348) dX10_isRight_1 (by rw [e1_21]; decide) (by rw [e1_21]; decide) (by rw [e1_21]; rfl) (by decide) ?_
    refine aj_iload_n (q := 350) (i := 2) dX10_isRight_349 rfl rfl rfl ?_
    refine aj_bipush (q := 352) (v := 8) dX10_isRight_350 rfl (by decide) ?_
    refine aj_callS (q := 355) (As := [_, _]) cl_X10_86 mk_X10_isIn dX10_isRight_352 rfl rfl (Nat.le_of_ble_eq_true rfl) (sp_X10_isIn ?_)
    refine aj_zreturn dX10_isRight_355 rfl (by first | exact bi_nar _ | decide) ?_
    skip; subst ex1
    first | contradiction | with_reducible exact hQ | (simp (decide := true) only [oFit, show mP S 1706 0 = S 1 0 from rfl, ↓reduceIte, Bool.false_eq_true, bi_t, bi_f, Bool.and_true, Bool.true_and, Bool.and_false, Bool.false_and, ite_self, e1_21] at hQ; with_reducible exact hQ) | (simp (decide := true) only [oFit, show mP S 1706 0 = S 1 0 from rfl, ↓reduceIte, Bool.false_eq_true, bi_t, bi_f, Bool.and_true, Bool.true_and, Bool.and_false, Bool.false_and, ite_self, e1_21] at hQ ⊢; with_reducible exact hQ) | (rw [fit_mid (by assumption) (by assumption)] at hQ; simp (decide := true) only [oFit, show mP S 1706 0 = S 1 0 from rfl, ↓reduceIte, Bool.false_eq_true, bi_t, bi_f, Bool.and_true, Bool.true_and, Bool.and_false, Bool.false_and, ite_self, e1_21] at hQ; with_reducible exact hQ) | (rw [fit_none (by first | exact Or.inl (by assumption) | exact Or.inr (by assumption)) (by first | assumption | decide) (by first | assumption | decide) (by first | assumption | decide) (by first | assumption | decide) (by first | assumption | decide) (by first | assumption | decide) (by first | assumption | decide) (by first | assumption | decide) (by first | assumption | decide) (by first | assumption | decide) (by first | assumption | decide) (by first | assumption | decide) (by first | assumption | decide) (by first | assumption | decide) (by first | assumption | decide) (by first | assumption | decide) (by first | assumption | decide)] at hQ; exact hQ)
  by_cases e1_1 : x1 = 1
  · refine aj_tsIn (tgt := 433) (off := 432) dX10_isRight_1 (by rw [e1_1]; decide) (by rw [e1_1]; decide) (by rw [e1_1]; rfl) (by decide) ?_
    refine aj_iload_n (q := 434) (i := 1) dX10_isRight_433 rfl rfl rfl ?_
    refine aj_iconst (q := 435) (v := 1) dX10_isRight_434 rfl (by decide) ?_
    refine aj_icmp_lt (q := 438) (tgt := 475) dX10_isRight_435 rfl (by decide) (fun c435_28 => ?_) (fun c435_28 => ?_)
    · refine aj_iconst (q := 476) (v := 0) dX10_isRight_475 rfl (by decide) ?_
      refine aj_zreturn dX10_isRight_476 rfl (by first | exact bi_nar _ | decide) ?_
      skip; subst ex1
      first | contradiction | with_reducible exact hQ | (simp (decide := true) only [oFit, show mP S 1706 0 = S 1 0 from rfl, ↓reduceIte, Bool.false_eq_true, bi_t, bi_f, Bool.and_true, Bool.true_and, Bool.and_false, Bool.false_and, ite_self, e1_1, c435_28] at hQ; with_reducible exact hQ) | (simp (decide := true) only [oFit, show mP S 1706 0 = S 1 0 from rfl, ↓reduceIte, Bool.false_eq_true, bi_t, bi_f, Bool.and_true, Bool.true_and, Bool.and_false, Bool.false_and, ite_self, e1_1, c435_28] at hQ ⊢; with_reducible exact hQ) | (rw [fit_mid (by assumption) (by assumption)] at hQ; simp (decide := true) only [oFit, show mP S 1706 0 = S 1 0 from rfl, ↓reduceIte, Bool.false_eq_true, bi_t, bi_f, Bool.and_true, Bool.true_and, Bool.and_false, Bool.false_and, ite_self, e1_1, c435_28] at hQ; with_reducible exact hQ) | (rw [fit_none (by first | exact Or.inl (by assumption) | exact Or.inr (by assumption)) (by first | assumption | decide) (by first | assumption | decide) (by first | assumption | decide) (by first | assumption | decide) (by first | assumption | decide) (by first | assumption | decide) (by first | assumption | decide) (by first | assumption | decide) (by first | assumption | decide) (by first | assumption | decide) (by first | assumption | decide) (by first | assumption | decide) (by first | assumption | decide) (by first | assumption | decide) (by first | assumption | decide) (by first | assumption | decide) (by first | assumption | decide)] at hQ; exact hQ)
    · refine aj_iload_n (q := 439) (i := 1) dX10_isRight_438 rfl rfl rfl ?_
      refine aj_iconst (q := 440) (v := 5) dX10_isRight_439 rfl (by decide) ?_
      refine aj_icmp_gt (q := 443) (tgt := 475) dX10_isRight_440 rfl (by decide) (fun c440_29 => ?_) (fun c440_29 => ?_)
      · refine aj_iconst (q := 476) (v := 0) dX10_isRight_475 rfl (by decide) ?_
        refine aj_zreturn dX10_isRight_476 rfl (by first | exact bi_nar _ | decide) ?_
        skip; subst ex1
        first | contradiction | with_reducible exact hQ | (simp (decide := true) only [oFit, show mP S 1706 0 = S 1 0 from rfl, ↓reduceIte, Bool.false_eq_true, bi_t, bi_f, Bool.and_true, Bool.true_and, Bool.and_false, Bool.false_and, ite_self, e1_1, c435_28, c440_29] at hQ; with_reducible exact hQ) | (simp (decide := true) only [oFit, show mP S 1706 0 = S 1 0 from rfl, ↓reduceIte, Bool.false_eq_true, bi_t, bi_f, Bool.and_true, Bool.true_and, Bool.and_false, Bool.false_and, ite_self, e1_1, c435_28, c440_29] at hQ ⊢; with_reducible exact hQ) | (rw [fit_mid (by assumption) (by assumption)] at hQ; simp (decide := true) only [oFit, show mP S 1706 0 = S 1 0 from rfl, ↓reduceIte, Bool.false_eq_true, bi_t, bi_f, Bool.and_true, Bool.true_and, Bool.and_false, Bool.false_and, ite_self, e1_1, c435_28, c440_29] at hQ; with_reducible exact hQ) | (rw [fit_none (by first | exact Or.inl (by assumption) | exact Or.inr (by assumption)) (by first | assumption | decide) (by first | assumption | decide) (by first | assumption | decide) (by first | assumption | decide) (by first | assumption | decide) (by first | assumption | decide) (by first | assumption | decide) (by first | assumption | decide) (by first | assumption | decide) (by first | assumption | decide) (by first | assumption | decide) (by first | assumption | decide) (by first | assumption | decide) (by first | assumption | decide) (by first | assumption | decide) (by first | assumption | decide) (by first | assumption | decide)] at hQ; exact hQ)
      · refine aj_iload_n (q := 444) (i := 2) dX10_isRight_443 rfl rfl rfl ?_
        refine aj_bipush (q := 446) (v := 8) dX10_isRight_444 rfl (by decide) ?_
        refine aj_callS (q := 449) (As := [_, _]) cl_X10_86 mk_X10_isIn dX10_isRight_446 rfl rfl (Nat.le_of_ble_eq_true rfl) (sp_X10_isIn ?_)
        refine aj_ifB_eq (q := 452) (tgt := 475) dX10_isRight_449 rfl (by decide) (fun c449_30 => ?_) (fun c449_30 => ?_)
        · refine aj_iconst (q := 476) (v := 0) dX10_isRight_475 rfl (by decide) ?_
          refine aj_zreturn dX10_isRight_476 rfl (by first | exact bi_nar _ | decide) ?_
          skip; subst ex1
          first | contradiction | with_reducible exact hQ | (simp (decide := true) only [oFit, show mP S 1706 0 = S 1 0 from rfl, ↓reduceIte, Bool.false_eq_true, bi_t, bi_f, Bool.and_true, Bool.true_and, Bool.and_false, Bool.false_and, ite_self, e1_1, c435_28, c440_29, c449_30] at hQ; with_reducible exact hQ) | (simp (decide := true) only [oFit, show mP S 1706 0 = S 1 0 from rfl, ↓reduceIte, Bool.false_eq_true, bi_t, bi_f, Bool.and_true, Bool.true_and, Bool.and_false, Bool.false_and, ite_self, e1_1, c435_28, c440_29, c449_30] at hQ ⊢; with_reducible exact hQ) | (rw [fit_mid (by assumption) (by assumption)] at hQ; simp (decide := true) only [oFit, show mP S 1706 0 = S 1 0 from rfl, ↓reduceIte, Bool.false_eq_true, bi_t, bi_f, Bool.and_true, Bool.true_and, Bool.and_false, Bool.false_and, ite_self, e1_1, c435_28, c440_29, c449_30] at hQ; with_reducible exact hQ) | (rw [fit_none (by first | exact Or.inl (by assumption) | exact Or.inr (by assumption)) (by first | assumption | decide) (by first | assumption | decide) (by first | assumption | decide) (by first | assumption | decide) (by first | assumption | decide) (by first | assumption | decide) (by first | assumption | decide) (by first | assumption | decide) (by first | assumption | decide) (by first | assumption | decide) (by first | assumption | decide) (by first | assumption | decide) (by first | assumption | decide) (by first | assumption | decide) (by first | assumption | decide) (by first | assumption | decide) (by first | assumption | decide)] at hQ; exact hQ)
        · refine aj_iload_n (q := 453) (i := 3) dX10_isRight_452 rfl rfl rfl ?_
          refine aj_bipush (q := 455) (v := 8) dX10_isRight_453 rfl (by decide) ?_
          refine aj_callS (q := 458) (As := [_, _]) cl_X10_86 mk_X10_isIn dX10_isRight_455 rfl rfl (Nat.le_of_ble_eq_true rfl) (sp_X10_isIn ?_)
          refine aj_ifB_eq (q := 461) (tgt := 475) dX10_isRight_458 rfl (by decide) (fun c458_31 => ?_) (fun c458_31 => ?_)
          · refine aj_iconst (q := 476) (v := 0) dX10_isRight_475 rfl (by decide) ?_
            refine aj_zreturn dX10_isRight_476 rfl (by first | exact bi_nar _ | decide) ?_
            skip; subst ex1
            first | contradiction | with_reducible exact hQ | (simp (decide := true) only [oFit, show mP S 1706 0 = S 1 0 from rfl, ↓reduceIte, Bool.false_eq_true, bi_t, bi_f, Bool.and_true, Bool.true_and, Bool.and_false, Bool.false_and, ite_self, e1_1, c435_28, c440_29, c449_30, c458_31] at hQ; with_reducible exact hQ) | (simp (decide := true) only [oFit, show mP S 1706 0 = S 1 0 from rfl, ↓reduceIte, Bool.false_eq_true, bi_t, bi_f, Bool.and_true, Bool.true_and, Bool.and_false, Bool.false_and, ite_self, e1_1, c435_28, c440_29, c449_30, c458_31] at hQ ⊢; with_reducible exact hQ) | (rw [fit_mid (by assumption) (by assumption)] at hQ; simp (decide := true) only [oFit, show mP S 1706 0 = S 1 0 from rfl, ↓reduceIte, Bool.false_eq_true, bi_t, bi_f, Bool.and_true, Bool.true_and, Bool.and_false, Bool.false_and, ite_self, e1_1, c435_28, c440_29, c449_30, c458_31] at hQ; with_reducible exact hQ) | (rw [fit_none (by first | exact Or.inl (by assumption) | exact Or.inr (by assumption)) (by first | assumption | decide) (by first | assumption | decide) (by first | assumption | decide) (by first | assumption | decide) (by first | assumption | decide) (by first | assumption | decide) (by first | assumption | decide) (by first | assumption | decide) (by first | assumption | decide) (by first | assumption | decide) (by first | assumption | decide) (by first | assumption | decide) (by first | assumption | decide) (by first | assumption | decide) (by first | assumption | decide) (by first | assumption | decide) (by first | assumption | decide)] at hQ; exact hQ)
          · refine aj_iload (q := 463) (i := 4) dX10_isRight_461 rfl rfl ?_
            refine aj_bipush (q := 465) (v := 8) dX10_isRight_463 rfl (by decide) ?_
            refine aj_callS (q := 468) (As := [_, _]) cl_X10_86 mk_X10_isIn dX10_isRight_465 rfl rfl (Nat.le_of_ble_eq_true rfl) (sp_X10_isIn ?_)
            refine aj_ifB_eq (q := 471) (tgt := 475) dX10_isRight_468 rfl (by decide) (fun c468_32 => ?_) (fun c468_32 => ?_)
            · refine aj_iconst (q := 476) (v := 0) dX10_isRight_475 rfl (by decide) ?_
              refine aj_zreturn dX10_isRight_476 rfl (by first | exact bi_nar _ | decide) ?_
              skip; subst ex1
              first | contradiction | with_reducible exact hQ | (simp (decide := true) only [oFit, show mP S 1706 0 = S 1 0 from rfl, ↓reduceIte, Bool.false_eq_true, bi_t, bi_f, Bool.and_true, Bool.true_and, Bool.and_false, Bool.false_and, ite_self, e1_1, c435_28, c440_29, c449_30, c458_31, c468_32] at hQ; with_reducible exact hQ) | (simp (decide := true) only [oFit, show mP S 1706 0 = S 1 0 from rfl, ↓reduceIte, Bool.false_eq_true, bi_t, bi_f, Bool.and_true, Bool.true_and, Bool.and_false, Bool.false_and, ite_self, e1_1, c435_28, c440_29, c449_30, c458_31, c468_32] at hQ ⊢; with_reducible exact hQ) | (rw [fit_mid (by assumption) (by assumption)] at hQ; simp (decide := true) only [oFit, show mP S 1706 0 = S 1 0 from rfl, ↓reduceIte, Bool.false_eq_true, bi_t, bi_f, Bool.and_true, Bool.true_and, Bool.and_false, Bool.false_and, ite_self, e1_1, c435_28, c440_29, c449_30, c458_31, c468_32] at hQ; with_reducible exact hQ) | (rw [fit_none (by first | exact Or.inl (by assumption) | exact Or.inr (by assumption)) (by first | assumption | decide) (by first | assumption | decide) (by first | assumption | decide) (by first | assumption | decide) (by first | assumption | decide) (by first | assumption | decide) (by first | assumption | decide) (by first | assumption | decide) (by first | assumption | decide) (by first | assumption | decide) (by first | assumption | decide) (by first | assumption | decide) (by first | assumption | decide) (by first | assumption | decide) (by first | assumption | decide) (by first | assumption | decide) (by first | assumption | decide)] at hQ; exact hQ)
            · refine aj_iconst (q := 472) (v := 1) dX10_isRight_471 rfl (by decide) ?_
              refine aj_goto (tgt := 476) dX10_isRight_472 (by decide) ?_
              refine aj_zreturn dX10_isRight_476 rfl (by first | exact bi_nar _ | decide) ?_
              skip; subst ex1
              first | contradiction | with_reducible exact hQ | (simp (decide := true) only [oFit, show mP S 1706 0 = S 1 0 from rfl, ↓reduceIte, Bool.false_eq_true, bi_t, bi_f, Bool.and_true, Bool.true_and, Bool.and_false, Bool.false_and, ite_self, e1_1, c435_28, c440_29, c449_30, c458_31, c468_32] at hQ; with_reducible exact hQ) | (simp (decide := true) only [oFit, show mP S 1706 0 = S 1 0 from rfl, ↓reduceIte, Bool.false_eq_true, bi_t, bi_f, Bool.and_true, Bool.true_and, Bool.and_false, Bool.false_and, ite_self, e1_1, c435_28, c440_29, c449_30, c458_31, c468_32] at hQ ⊢; with_reducible exact hQ) | (rw [fit_mid (by assumption) (by assumption)] at hQ; simp (decide := true) only [oFit, show mP S 1706 0 = S 1 0 from rfl, ↓reduceIte, Bool.false_eq_true, bi_t, bi_f, Bool.and_true, Bool.true_and, Bool.and_false, Bool.false_and, ite_self, e1_1, c435_28, c440_29, c449_30, c458_31, c468_32] at hQ; with_reducible exact hQ) | (rw [fit_none (by first | exact Or.inl (by assumption) | exact Or.inr (by assumption)) (by first | assumption | decide) (by first | assumption | decide) (by first | assumption | decide) (by first | assumption | decide) (by first | assumption | decide) (by first | assumption | decide) (by first | assumption | decide) (by first | assumption | decide) (by first | assumption | decide) (by first | assumption | decide) (by first | assumption | decide) (by first | assumption | decide) (by first | assumption | decide) (by first | assumption | decide) (by first | assumption | decide) (by first | assumption | decide) (by first | assumption | decide)] at hQ; exact hQ)
  by_cases e1_2 : x1 = 2
  · refine aj_tsIn (tgt := 433) (off := 432) dX10_isRight_1 (by rw [e1_2]; decide) (by rw [e1_2]; decide) (by rw [e1_2]; rfl) (by decide) ?_
    refine aj_iload_n (q := 434) (i := 1) dX10_isRight_433 rfl rfl rfl ?_
    refine aj_iconst (q := 435) (v := 1) dX10_isRight_434 rfl (by decide) ?_
    refine aj_icmp_lt (q := 438) (tgt := 475) dX10_isRight_435 rfl (by decide) (fun c435_33 => ?_) (fun c435_33 => ?_)
    · refine aj_iconst (q := 476) (v := 0) dX10_isRight_475 rfl (by decide) ?_
      refine aj_zreturn dX10_isRight_476 rfl (by first | exact bi_nar _ | decide) ?_
      skip; subst ex1
      first | contradiction | with_reducible exact hQ | (simp (decide := true) only [oFit, show mP S 1706 0 = S 1 0 from rfl, ↓reduceIte, Bool.false_eq_true, bi_t, bi_f, Bool.and_true, Bool.true_and, Bool.and_false, Bool.false_and, ite_self, e1_2, c435_33] at hQ; with_reducible exact hQ) | (simp (decide := true) only [oFit, show mP S 1706 0 = S 1 0 from rfl, ↓reduceIte, Bool.false_eq_true, bi_t, bi_f, Bool.and_true, Bool.true_and, Bool.and_false, Bool.false_and, ite_self, e1_2, c435_33] at hQ ⊢; with_reducible exact hQ) | (rw [fit_mid (by assumption) (by assumption)] at hQ; simp (decide := true) only [oFit, show mP S 1706 0 = S 1 0 from rfl, ↓reduceIte, Bool.false_eq_true, bi_t, bi_f, Bool.and_true, Bool.true_and, Bool.and_false, Bool.false_and, ite_self, e1_2, c435_33] at hQ; with_reducible exact hQ) | (rw [fit_none (by first | exact Or.inl (by assumption) | exact Or.inr (by assumption)) (by first | assumption | decide) (by first | assumption | decide) (by first | assumption | decide) (by first | assumption | decide) (by first | assumption | decide) (by first | assumption | decide) (by first | assumption | decide) (by first | assumption | decide) (by first | assumption | decide) (by first | assumption | decide) (by first | assumption | decide) (by first | assumption | decide) (by first | assumption | decide) (by first | assumption | decide) (by first | assumption | decide) (by first | assumption | decide) (by first | assumption | decide)] at hQ; exact hQ)
    · refine aj_iload_n (q := 439) (i := 1) dX10_isRight_438 rfl rfl rfl ?_
      refine aj_iconst (q := 440) (v := 5) dX10_isRight_439 rfl (by decide) ?_
      refine aj_icmp_gt (q := 443) (tgt := 475) dX10_isRight_440 rfl (by decide) (fun c440_34 => ?_) (fun c440_34 => ?_)
      · refine aj_iconst (q := 476) (v := 0) dX10_isRight_475 rfl (by decide) ?_
        refine aj_zreturn dX10_isRight_476 rfl (by first | exact bi_nar _ | decide) ?_
        skip; subst ex1
        first | contradiction | with_reducible exact hQ | (simp (decide := true) only [oFit, show mP S 1706 0 = S 1 0 from rfl, ↓reduceIte, Bool.false_eq_true, bi_t, bi_f, Bool.and_true, Bool.true_and, Bool.and_false, Bool.false_and, ite_self, e1_2, c435_33, c440_34] at hQ; with_reducible exact hQ) | (simp (decide := true) only [oFit, show mP S 1706 0 = S 1 0 from rfl, ↓reduceIte, Bool.false_eq_true, bi_t, bi_f, Bool.and_true, Bool.true_and, Bool.and_false, Bool.false_and, ite_self, e1_2, c435_33, c440_34] at hQ ⊢; with_reducible exact hQ) | (rw [fit_mid (by assumption) (by assumption)] at hQ; simp (decide := true) only [oFit, show mP S 1706 0 = S 1 0 from rfl, ↓reduceIte, Bool.false_eq_true, bi_t, bi_f, Bool.and_true, Bool.true_and, Bool.and_false, Bool.false_and, ite_self, e1_2, c435_33, c440_34] at hQ; with_reducible exact hQ) | (rw [fit_none (by first | exact Or.inl (by assumption) | exact Or.inr (by assumption)) (by first | assumption | decide) (by first | assumption | decide) (by first | assumption | decide) (by first | assumption | decide) (by first | assumption | decide) (by first | assumption | decide) (by first | assumption | decide) (by first | assumption | decide) (by first | assumption | decide) (by first | assumption | decide) (by first | assumption | decide) (by first | assumption | decide) (by first | assumption | decide) (by first | assumption | decide) (by first | assumption | decide) (by first | assumption | decide) (by first | assumption | decide)] at hQ; exact hQ)
      · refine aj_iload_n (q := 444) (i := 2) dX10_isRight_443 rfl rfl rfl ?_
        refine aj_bipush (q := 446) (v := 8) dX10_isRight_444 rfl (by decide) ?_
        refine aj_callS (q := 449) (As := [_, _]) cl_X10_86 mk_X10_isIn dX10_isRight_446 rfl rfl (Nat.le_of_ble_eq_true rfl) (sp_X10_isIn ?_)
        refine aj_ifB_eq (q := 452) (tgt := 475) dX10_isRight_449 rfl (by decide) (fun c449_35 => ?_) (fun c449_35 => ?_)
        · refine aj_iconst (q := 476) (v := 0) dX10_isRight_475 rfl (by decide) ?_
          refine aj_zreturn dX10_isRight_476 rfl (by first | exact bi_nar _ | decide) ?_
          skip; subst ex1
          first | contradiction | with_reducible exact hQ | (simp (decide := true) only [oFit, show mP S 1706 0 = S 1 0 from rfl, ↓reduceIte, Bool.false_eq_true, bi_t, bi_f, Bool.and_true, Bool.true_and, Bool.and_false, Bool.false_and, ite_self, e1_2, c435_33, c440_34, c449_35] at hQ; with_reducible exact hQ) | (simp (decide := true) only [oFit, show mP S 1706 0 = S 1 0 from rfl, ↓reduceIte, Bool.false_eq_true, bi_t, bi_f, Bool.and_true, Bool.true_and, Bool.and_false, Bool.false_and, ite_self, e1_2, c435_33, c440_34, c449_35] at hQ ⊢; with_reducible exact hQ) | (rw [fit_mid (by assumption) (by assumption)] at hQ; simp (decide := true) only [oFit, show mP S 1706 0 = S 1 0 from rfl, ↓reduceIte, Bool.false_eq_true, bi_t, bi_f, Bool.and_true, Bool.true_and, Bool.and_false, Bool.false_and, ite_self, e1_2, c435_33, c440_34, c449_35] at hQ; with_reducible exact hQ) | (rw [fit_none (by first | exact Or.inl (by assumption) | exact Or.inr (by assumption)) (by first | assumption | decide) (by first | assumption | decide) (by first | assumption | decide) (by first | assumption | decide) (by first | assumption | decide) (by first | assumption | decide) (by first | assumption | decide) (by first | assumption | decide) (by first | assumption | decide) (by first | assumption | decide) (by first | assumption | decide) (by first | assumption | decide) (by first | assumption | decide) (by first | assumption | decide) (by first | assumption | decide) (by first | assumption | decide) (by first | assumption | decide)] at hQ; exact hQ)
        · refine aj_iload_n (q := 453) (i := 3) dX10_isRight_452 rfl rfl rfl ?_
          refine aj_bipush (q := 455) (v := 8) dX10_isRight_453 rfl (by decide) ?_
          refine aj_callS (q := 458) (As := [_, _]) cl_X10_86 mk_X10_isIn dX10_isRight_455 rfl rfl (Nat.le_of_ble_eq_true rfl) (sp_X10_isIn ?_)
          refine aj_ifB_eq (q := 461) (tgt := 475) dX10_isRight_458 rfl (by decide) (fun c458_36 => ?_) (fun c458_36 => ?_)
          · refine aj_iconst (q := 476) (v := 0) dX10_isRight_475 rfl (by decide) ?_
            refine aj_zreturn dX10_isRight_476 rfl (by first | exact bi_nar _ | decide) ?_
            skip; subst ex1
            first | contradiction | with_reducible exact hQ | (simp (decide := true) only [oFit, show mP S 1706 0 = S 1 0 from rfl, ↓reduceIte, Bool.false_eq_true, bi_t, bi_f, Bool.and_true, Bool.true_and, Bool.and_false, Bool.false_and, ite_self, e1_2, c435_33, c440_34, c449_35, c458_36] at hQ; with_reducible exact hQ) | (simp (decide := true) only [oFit, show mP S 1706 0 = S 1 0 from rfl, ↓reduceIte, Bool.false_eq_true, bi_t, bi_f, Bool.and_true, Bool.true_and, Bool.and_false, Bool.false_and, ite_self, e1_2, c435_33, c440_34, c449_35, c458_36] at hQ ⊢; with_reducible exact hQ) | (rw [fit_mid (by assumption) (by assumption)] at hQ; simp (decide := true) only [oFit, show mP S 1706 0 = S 1 0 from rfl, ↓reduceIte, Bool.false_eq_true, bi_t, bi_f, Bool.and_true, Bool.true_and, Bool.and_false, Bool.false_and, ite_self, e1_2, c435_33, c440_34, c449_35, c458_36] at hQ; with_reducible exact hQ) | (rw [fit_none (by first | exact Or.inl (by assumption) | exact Or.inr (by assumption)) (by first | assumption | decide) (by first | assumption | decide) (by first | assumption | decide) (by first | assumption | decide) (by first | assumption | decide) (by first | assumption | decide) (by first | assumption | decide) (by first | assumption | decide) (by first | assumption | decide) (by first | assumption | decide) (by first | assumption | decide) (by first | assumption | decide) (by first | assumption | decide) (by first | assumption | decide) (by first | assumption | decide) (by first | assumption | decide) (by first | assumption | decide)] at hQ; exact hQ)
          · refine aj_iload (q := 463) (i := 4) dX10_isRight_461 rfl rfl ?_
            refine aj_bipush (q := 465) (v := 8) dX10_isRight_463 rfl (by decide) ?_
            refine aj_callS (q := 468) (As := [_, _]) cl_X10_86 mk_X10_isIn dX10_isRight_465 rfl rfl (Nat.le_of_ble_eq_true rfl) (sp_X10_isIn ?_)
            refine aj_ifB_eq (q := 471) (tgt := 475) dX10_isRight_468 rfl (by decide) (fun c468_37 => ?_) (fun c468_37 => ?_)
            · refine aj_iconst (q := 476) (v := 0) dX10_isRight_475 rfl (by decide) ?_
              refine aj_zreturn dX10_isRight_476 rfl (by first | exact bi_nar _ | decide) ?_
              skip; subst ex1
              first | contradiction | with_reducible exact hQ | (simp (decide := true) only [oFit, show mP S 1706 0 = S 1 0 from rfl, ↓reduceIte, Bool.false_eq_true, bi_t, bi_f, Bool.and_true, Bool.true_and, Bool.and_false, Bool.false_and, ite_self, e1_2, c435_33, c440_34, c449_35, c458_36, c468_37] at hQ; with_reducible exact hQ) | (simp (decide := true) only [oFit, show mP S 1706 0 = S 1 0 from rfl, ↓reduceIte, Bool.false_eq_true, bi_t, bi_f, Bool.and_true, Bool.true_and, Bool.and_false, Bool.false_and, ite_self, e1_2, c435_33, c440_34, c449_35, c458_36, c468_37] at hQ ⊢; with_reducible exact hQ) | (rw [fit_mid (by assumption) (by assumption)] at hQ; simp (decide := true) only [oFit, show mP S 1706 0 = S 1 0 from rfl, ↓reduceIte, Bool.false_eq_true, bi_t, bi_f, Bool.and_true, Bool.true_and, Bool.and_false, Bool.false_and, ite_self, e1_2, c435_33, c440_34, c449_35, c458_36, c468_37] at hQ; with_reducible exact hQ) | (rw [fit_none (by first | exact Or.inl (by assumption) | exact Or.inr (by assumption)) (by first | assumption | decide) (by first | assumption | decide) (by first | assumption | decide) (by first | assumption | decide) (by first | assumption | decide) (by first | assumption | decide) (by first | assumption | decide) (by first | assumption | decide) (by first | assumption | decide) (by first | assumption | decide) (by first | assumption | decide) (by first | assumption | decide) (by first | assumption | decide) (by first | assumption | decide) (by first | assumption | decide) (by first | assumption | decide) (by first | assumption | decide)] at hQ; exact hQ)
            · refine aj_iconst (q := 472) (v := 1) dX10_isRight_471 rfl (by decide) ?_
              refine aj_goto (tgt := 476) dX10_isRight_472 (by decide) ?_
              refine aj_zreturn dX10_isRight_476 rfl (by first | exact bi_nar _ | decide) ?_
              skip; subst ex1
              first | contradiction | with_reducible exact hQ | (simp (decide := true) only [oFit, show mP S 1706 0 = S 1 0 from rfl, ↓reduceIte, Bool.false_eq_true, bi_t, bi_f, Bool.and_true, Bool.true_and, Bool.and_false, Bool.false_and, ite_self, e1_2, c435_33, c440_34, c449_35, c458_36, c468_37] at hQ; with_reducible exact hQ) | (simp (decide := true) only [oFit, show mP S 1706 0 = S 1 0 from rfl, ↓reduceIte, Bool.false_eq_true, bi_t, bi_f, Bool.and_true, Bool.true_and, Bool.and_false, Bool.false_and, ite_self, e1_2, c435_33, c440_34, c449_35, c458_36, c468_37] at hQ ⊢; with_reducible exact hQ) | (rw [fit_mid (by assumption) (by assumption)] at hQ; simp (decide := true) only [oFit, show mP S 1706 0 = S 1 0 from rfl, ↓reduceIte, Bool.false_eq_true, bi_t, bi_f, Bool.and_true, Bool.true_and, Bool.and_false, Bool.false_and, ite_self, e1_2, c435_33, c440_34, c449_35, c458_36, c468_37] at hQ; with_reducible exact hQ) | (rw [fit_none (by first | exact Or.inl (by assumption) | exact Or.inr (by assumption)) (by first | assumption | decide) (by first | assumption | decide) (by first | assumption | decide) (by first | assumption | decide) (by first | assumption | decide) (by first | assumption | decide) (by first | assumption | decide) (by first | assumption | decide) (by first | assumption | decide) (by first | assumption | decide) (by first | assumption | decide) (by first | assumption | decide) (by first | assumption | decide) (by first | assumption | decide) (by first | assumption | decide) (by first | assumption | decide) (by first | assumption | decide)] at hQ; exact hQ)
  by_cases e1_3 : x1 = 3
  · refine aj_tsIn (tgt := 433) (off := 432) dX10_isRight_1 (by rw [e1_3]; decide) (by rw [e1_3]; decide) (by rw [e1_3]; rfl) (by decide) ?_
    refine aj_iload_n (q := 434) (i := 1) dX10_isRight_433 rfl rfl rfl ?_
    refine aj_iconst (q := 435) (v := 1) dX10_isRight_434 rfl (by decide) ?_
    refine aj_icmp_lt (q := 438) (tgt := 475) dX10_isRight_435 rfl (by decide) (fun c435_38 => ?_) (fun c435_38 => ?_)
    · refine aj_iconst (q := 476) (v := 0) dX10_isRight_475 rfl (by decide) ?_
      refine aj_zreturn dX10_isRight_476 rfl (by first | exact bi_nar _ | decide) ?_
      skip; subst ex1
      first | contradiction | with_reducible exact hQ | (simp (decide := true) only [oFit, show mP S 1706 0 = S 1 0 from rfl, ↓reduceIte, Bool.false_eq_true, bi_t, bi_f, Bool.and_true, Bool.true_and, Bool.and_false, Bool.false_and, ite_self, e1_3, c435_38] at hQ; with_reducible exact hQ) | (simp (decide := true) only [oFit, show mP S 1706 0 = S 1 0 from rfl, ↓reduceIte, Bool.false_eq_true, bi_t, bi_f, Bool.and_true, Bool.true_and, Bool.and_false, Bool.false_and, ite_self, e1_3, c435_38] at hQ ⊢; with_reducible exact hQ) | (rw [fit_mid (by assumption) (by assumption)] at hQ; simp (decide := true) only [oFit, show mP S 1706 0 = S 1 0 from rfl, ↓reduceIte, Bool.false_eq_true, bi_t, bi_f, Bool.and_true, Bool.true_and, Bool.and_false, Bool.false_and, ite_self, e1_3, c435_38] at hQ; with_reducible exact hQ) | (rw [fit_none (by first | exact Or.inl (by assumption) | exact Or.inr (by assumption)) (by first | assumption | decide) (by first | assumption | decide) (by first | assumption | decide) (by first | assumption | decide) (by first | assumption | decide) (by first | assumption | decide) (by first | assumption | decide) (by first | assumption | decide) (by first | assumption | decide) (by first | assumption | decide) (by first | assumption | decide) (by first | assumption | decide) (by first | assumption | decide) (by first | assumption | decide) (by first | assumption | decide) (by first | assumption | decide) (by first | assumption | decide)] at hQ; exact hQ)
    · refine aj_iload_n (q := 439) (i := 1) dX10_isRight_438 rfl rfl rfl ?_
      refine aj_iconst (q := 440) (v := 5) dX10_isRight_439 rfl (by decide) ?_
      refine aj_icmp_gt (q := 443) (tgt := 475) dX10_isRight_440 rfl (by decide) (fun c440_39 => ?_) (fun c440_39 => ?_)
      · refine aj_iconst (q := 476) (v := 0) dX10_isRight_475 rfl (by decide) ?_
        refine aj_zreturn dX10_isRight_476 rfl (by first | exact bi_nar _ | decide) ?_
        skip; subst ex1
        first | contradiction | with_reducible exact hQ | (simp (decide := true) only [oFit, show mP S 1706 0 = S 1 0 from rfl, ↓reduceIte, Bool.false_eq_true, bi_t, bi_f, Bool.and_true, Bool.true_and, Bool.and_false, Bool.false_and, ite_self, e1_3, c435_38, c440_39] at hQ; with_reducible exact hQ) | (simp (decide := true) only [oFit, show mP S 1706 0 = S 1 0 from rfl, ↓reduceIte, Bool.false_eq_true, bi_t, bi_f, Bool.and_true, Bool.true_and, Bool.and_false, Bool.false_and, ite_self, e1_3, c435_38, c440_39] at hQ ⊢; with_reducible exact hQ) | (rw [fit_mid (by assumption) (by assumption)] at hQ; simp (decide := true) only [oFit, show mP S 1706 0 = S 1 0 from rfl, ↓reduceIte, Bool.false_eq_true, bi_t, bi_f, Bool.and_true, Bool.true_and, Bool.and_false, Bool.false_and, ite_self, e1_3, c435_38, c440_39] at hQ; with_reducible exact hQ) | (rw [fit_none (by first | exact Or.inl (by assumption) | exact Or.inr (by assumption)) (by first | assumption | decide) (by first | assumption | decide) (by first | assumption | decide) (by first | assumption | decide) (by first | assumption | decide) (by first | assumption | decide) (by first | assumption | decide) (by first | assumption | decide) (by first | assumption | decide) (by first | assumption | decide) (by first | assumption | decide) (by first | assumption | decide) (by first | assumption | decide) (by first | assumption | decide) (by first | assumption | decide) (by first | assumption | decide) (by first | assumption | decide)] at hQ; exact hQ)
      · refine aj_iload_n (q := 444) (i := 2) dX10_isRight_443 rfl rfl rfl ?_
        refine aj_bipush (q := 446) (v := 8) dX10_isRight_444 rfl (by decide) ?_
        refine aj_callS (q := 449) (As := [_, _]) cl_X10_86 mk_X10_isIn dX10_isRight_446 rfl rfl (Nat.le_of_ble_eq_true rfl) (sp_X10_isIn ?_)
        refine aj_ifB_eq (q := 452) (tgt := 475) dX10_isRight_449 rfl (by decide) (fun c449_40 => ?_) (fun c449_40 => ?_)
        · refine aj_iconst (q := 476) (v := 0) dX10_isRight_475 rfl (by decide) ?_
          refine aj_zreturn dX10_isRight_476 rfl (by first | exact bi_nar _ | decide) ?_
          skip; subst ex1
          first | contradiction | with_reducible exact hQ | (simp (decide := true) only [oFit, show mP S 1706 0 = S 1 0 from rfl, ↓reduceIte, Bool.false_eq_true, bi_t, bi_f, Bool.and_true, Bool.true_and, Bool.and_false, Bool.false_and, ite_self, e1_3, c435_38, c440_39, c449_40] at hQ; with_reducible exact hQ) | (simp (decide := true) only [oFit, show mP S 1706 0 = S 1 0 from rfl, ↓reduceIte, Bool.false_eq_true, bi_t, bi_f, Bool.and_true, Bool.true_and, Bool.and_false, Bool.false_and, ite_self, e1_3, c435_38, c440_39, c449_40] at hQ ⊢; with_reducible exact hQ) | (rw [fit_mid (by assumption) (by assumption)] at hQ; simp (decide := true) only [oFit, show mP S 1706 0 = S 1 0 from rfl, ↓reduceIte, Bool.false_eq_true, bi_t, bi_f, Bool.and_true, Bool.true_and, Bool.and_false, Bool.false_and, ite_self, e1_3, c435_38, c440_39, c449_40] at hQ; with_reducible exact hQ) | (rw [fit_none (by first | exact Or.inl (by assumption) | exact Or.inr (by assumption)) (by first | assumption | decide) (by first | assumption | decide) (by first | assumption | decide) (by first | assumption | decide) (by first | assumption | decide) (by first | assumption | decide) (by first | assumption | decide) (by first | assumption | decide) (by first | assumption | decide) (by first | assumption | decide) (by first | assumption | decide) (by first | assumption | decide) (by first | assumption | decide) (by first | assumption | decide) (by first | assumption | decide) (by first | assumption | decide) (by first | assumption | decide)] at hQ; exact hQ)
        · refine aj_iload_n (q := 453) (i := 3) dX10_isRight_452 rfl rfl rfl ?_
          refine aj_bipush (q := 455) (v := 8) dX10_isRight_453 rfl (by decide) ?_
          refine aj_callS (q := 458) (As := [_, _]) cl_X10_86 mk_X10_isIn dX10_isRight_455 rfl rfl (Nat.le_of_ble_eq_true rfl) (sp_X10_isIn ?_)
          refine aj_ifB_eq (q := 461) (tgt := 475) dX10_isRight_458 rfl (by decide) (fun c458_41 => ?_) (fun c458_41 => ?_)
          · refine aj_iconst (q := 476) (v := 0) dX10_isRight_475 rfl (by decide) ?_
            refine aj_zreturn dX10_isRight_476 rfl (by first | exact bi_nar _ | decide) ?_
            skip; subst ex1
            first | contradiction | with_reducible exact hQ | (simp (decide := true) only [oFit, show mP S 1706 0 = S 1 0 from rfl, ↓reduceIte, Bool.false_eq_true, bi_t, bi_f, Bool.and_true, Bool.true_and, Bool.and_false, Bool.false_and, ite_self, e1_3, c435_38, c440_39, c449_40, c458_41] at hQ; with_reducible exact hQ) | (simp (decide := true) only [oFit, show mP S 1706 0 = S 1 0 from rfl, ↓reduceIte, Bool.false_eq_true, bi_t, bi_f, Bool.and_true, Bool.true_and, Bool.and_false, Bool.false_and, ite_self, e1_3, c435_38, c440_39, c449_40, c458_41] at hQ ⊢; with_reducible exact hQ) | (rw [fit_mid (by assumption) (by assumption)] at hQ; simp (decide := true) only [oFit, show mP S 1706 0 = S 1 0 from rfl, ↓reduceIte, Bool.false_eq_true, bi_t, bi_f, Bool.and_true, Bool.true_and, Bool.and_false, Bool.false_and, ite_self, e1_3, c435_38, c440_39, c449_40, c458_41] at hQ; with_reducible exact hQ) | (rw [fit_none (by first | exact Or.inl (by assumption) | exact Or.inr (by assumption)) (by first | assumption | decide) (by first | assumption | decide) (by first | assumption | decide) (by first | assumption | decide) (by first | assumption | decide) (by first | assumption | decide) (by first | assumption | decide) (by first | assumption | decide) (by first | assumption | decide) (by first | assumption | decide) (by first | assumption | decide) (by first | assumption | decide) (by first | assumption | decide) (by first | assumption | decide) (by first | assumption | decide) (by first | assumption | decide) (by first | assumption | decide)] at hQ; exact hQ)
          · refine aj_iload (q := 463) (i := 4) dX10_isRight_461 rfl rfl ?_
            refine aj_bipush (q := 465) (v := 8) dX10_isRight_463 rfl (by decide) ?_
            refine aj_callS (q := 468) (As := [_, _]) cl_X10_86 mk_X10_isIn dX10_isRight_465 rfl rfl (Nat.le_of_ble_eq_true rfl) (sp_X10_isIn ?_)
            refine aj_ifB_eq (q := 471) (tgt := 475) dX10_isRight_468 rfl (by decide) (fun c468_42 => ?_) (fun c468_42 => ?_)
            · refine aj_iconst (q := 476) (v := 0) dX10_isRight_475 rfl (by decide) ?_
              refine aj_zreturn dX10_isRight_476 rfl (by first | exact bi_nar _ | decide) ?_
              skip; subst ex1
              first | contradiction | with_reducible exact hQ | (simp (decide := true) only [oFit, show mP S 1706 0 = S 1 0 from rfl, ↓reduceIte, Bool.false_eq_true, bi_t, bi_f, Bool.and_true, Bool.true_and, Bool.and_false, Bool.false_and, ite_self, e1_3, c435_38, c440_39, c449_40, c458_41, c468_42] at hQ; with_reducible exact hQ) | (simp (decide := true) only [oFit, show mP S 1706 0 = S 1 0 from rfl, ↓reduceIte, Bool.false_eq_true, bi_t, bi_f, Bool.and_true, Bool.true_and, Bool.and_false, Bool.false_and, ite_self, e1_3, c435_38, c440_39, c449_40, c458_41, c468_42] at hQ ⊢; with_reducible exact hQ) | (rw [fit_mid (by assumption) (by assumption)] at hQ; simp (decide := true) only [oFit, show mP S 1706 0 = S 1 0 from rfl, ↓reduceIte, Bool.false_eq_true, bi_t, bi_f, Bool.and_true, Bool.true_and, Bool.and_false, Bool.false_and, ite_self, e1_3, c435_38, c440_39, c449_40, c458_41, c468_42] at hQ; with_reducible exact hQ) | (rw [fit_none (by first | exact Or.inl (by assumption) | exact Or.inr (by assumption)) (by first | assumption | decide) (by first | assumption | decide) (by first | assumption | decide) (by first | assumption | decide) (by first | assumption | decide) (by first | assumption | decide) (by first | assumption | decide) (by first | assumption | decide) (by first | assumption | decide) (by first | assumption | decide) (by first | assumption | decide) (by first | assumption | decide) (by first | assumption | decide) (by first | assumption | decide) (by first | assumption | decide) (by first | assumption | decide) (by first | assumption | decide)] at hQ; exact hQ)
            · refine aj_iconst (q := 472) (v := 1) dX10_isRight_471 rfl (by decide) ?_
              refine aj_goto (tgt := 476) dX10_isRight_472 (by decide) ?_
              refine aj_zreturn dX10_isRight_476 rfl (by first | exact bi_nar _ | decide) ?_
              skip; subst ex1
              first | contradiction | with_reducible exact hQ | (simp (decide := true) only [oFit, show mP S 1706 0 = S 1 0 from rfl, ↓reduceIte, Bool.false_eq_true, bi_t, bi_f, Bool.and_true, Bool.true_and, Bool.and_false, Bool.false_and, ite_self, e1_3, c435_38, c440_39, c449_40, c458_41, c468_42] at hQ; with_reducible exact hQ) | (simp (decide := true) only [oFit, show mP S 1706 0 = S 1 0 from rfl, ↓reduceIte, Bool.false_eq_true, bi_t, bi_f, Bool.and_true, Bool.true_and, Bool.and_false, Bool.false_and, ite_self, e1_3, c435_38, c440_39, c449_40, c458_41, c468_42] at hQ ⊢; with_reducible exact hQ) | (rw [fit_mid (by assumption) (by assumption)] at hQ; simp (decide := true) only [oFit, show mP S 1706 0 = S 1 0 from rfl, ↓reduceIte, Bool.false_eq_true, bi_t, bi_f, Bool.and_true, Bool.true_and, Bool.and_false, Bool.false_and, ite_self, e1_3, c435_38, c440_39, c449_40, c458_41, c468_42] at hQ; with_reducible exact hQ) | (rw [fit_none (by first | exact Or.inl (by assumption) | exact Or.inr (by assumption)) (by first | assumption | decide) (by first | assumption | decide) (by first | assumption | decide) (by first | assumption | decide) (by first | assumption | decide) (by first | assumption | decide) (by first | assumption | decide) (by first | assumption | decide) (by first | assumption | decide) (by first | assumption | decide) (by first | assumption | decide) (by first | assumption | decide) (by first | assumption | decide) (by first | assumption | decide) (by first | assumption | decide) (by first | assumption | decide) (by first | assumption | decide)] at hQ; exact hQ)
  by_cases e1_4 : x1 = 4
  · refine aj_tsIn (tgt := 433) (off := 432) dX10_isRight_1 (by rw [e1_4]; decide) (by rw [e1_4]; decide) (by rw [e1_4]; rfl) (by decide) ?_
    refine aj_iload_n (q := 434) (i := 1) dX10_isRight_433 rfl rfl rfl ?_
    refine aj_iconst (q := 435) (v := 1) dX10_isRight_434 rfl (by decide) ?_
    refine aj_icmp_lt (q := 438) (tgt := 475) dX10_isRight_435 rfl (by decide) (fun c435_43 => ?_) (fun c435_43 => ?_)
    · refine aj_iconst (q := 476) (v := 0) dX10_isRight_475 rfl (by decide) ?_
      refine aj_zreturn dX10_isRight_476 rfl (by first | exact bi_nar _ | decide) ?_
      skip; subst ex1
      first | contradiction | with_reducible exact hQ | (simp (decide := true) only [oFit, show mP S 1706 0 = S 1 0 from rfl, ↓reduceIte, Bool.false_eq_true, bi_t, bi_f, Bool.and_true, Bool.true_and, Bool.and_false, Bool.false_and, ite_self, e1_4, c435_43] at hQ; with_reducible exact hQ) | (simp (decide := true) only [oFit, show mP S 1706 0 = S 1 0 from rfl, ↓reduceIte, Bool.false_eq_true, bi_t, bi_f, Bool.and_true, Bool.true_and, Bool.and_false, Bool.false_and, ite_self, e1_4, c435_43] at hQ ⊢; with_reducible exact hQ) | (rw [fit_mid (by assumption) (by assumption)] at hQ; simp (decide := true) only [oFit, show mP S 1706 0 = S 1 0 from rfl, ↓reduceIte, Bool.false_eq_true, bi_t, bi_f, Bool.and_true, Bool.true_and, Bool.and_false, Bool.false_and, ite_self, e1_4, c435_43] at hQ; with_reducible exact hQ) | (rw [fit_none (by first | exact Or.inl (by assumption) | exact Or.inr (by assumption)) (by first | assumption | decide) (by first | assumption | decide) (by first | assumption | decide) (by first | assumption | decide) (by first | assumption | decide) (by first | assumption | decide) (by first | assumption | decide) (by first | assumption | decide) (by first | assumption | decide) (by first | assumption | decide) (by first | assumption | decide) (by first | assumption | decide) (by first | assumption | decide) (by first | assumption | decide) (by first | assumption | decide) (by first | assumption | decide) (by first | assumption | decide)] at hQ; exact hQ)
    · refine aj_iload_n (q := 439) (i := 1) dX10_isRight_438 rfl rfl rfl ?_
      refine aj_iconst (q := 440) (v := 5) dX10_isRight_439 rfl (by decide) ?_
      refine aj_icmp_gt (q := 443) (tgt := 475) dX10_isRight_440 rfl (by decide) (fun c440_44 => ?_) (fun c440_44 => ?_)
      · refine aj_iconst (q := 476) (v := 0) dX10_isRight_475 rfl (by decide) ?_
        refine aj_zreturn dX10_isRight_476 rfl (by first | exact bi_nar _ | decide) ?_
        skip; subst ex1
        first | contradiction | with_reducible exact hQ | (simp (decide := true) only [oFit, show mP S 1706 0 = S 1 0 from rfl, ↓reduceIte, Bool.false_eq_true, bi_t, bi_f, Bool.and_true, Bool.true_and, Bool.and_false, Bool.false_and, ite_self, e1_4, c435_43, c440_44] at hQ; with_reducible exact hQ) | (simp (decide := true) only [oFit, show mP S 1706 0 = S 1 0 from rfl, ↓reduceIte, Bool.false_eq_true, bi_t, bi_f, Bool.and_true, Bool.true_and, Bool.and_false, Bool.false_and, ite_self, e1_4, c435_43, c440_44] at hQ ⊢; with_reducible exact hQ) | (rw [fit_mid (by assumption) (by assumption)] at hQ; simp (decide := true) only [oFit, show mP S 1706 0 = S 1 0 from rfl, ↓reduceIte, Bool.false_eq_true, bi_t, bi_f, Bool.and_true, Bool.true_and, Bool.and_false, Bool.false_and, ite_self, e1_4, c435_43, c440_44] at hQ; with_reducible exact hQ) | (rw [fit_none (by first | exact Or.inl (by assumption) | exact Or.inr (by assumption)) (by first | assumption | decide) (by first | assumption | decide) (by first | assumption | decide) (by first | assumption | decide) (by first | assumption | decide) (by first | assumption | decide) (by first | assumption | decide) (by first | assumption | decide) (by first | assumption | decide) (by first | assumption | decide) (by first | assumption | decide) (by first | assumption | decide) (by first | assumption | decide) (by first | assumption | decide) (by first | assumption | decide) (by first | assumption | decide) (by first | assumption | decide)] at hQ; exact hQ)
      · refine aj_iload_n (q := 444) (i := 2) dX10_isRight_443 rfl rfl rfl ?_
        refine aj_bipush (q := 446) (v := 8) dX10_isRight_444 rfl (by decide) ?_
        refine aj_callS (q := 449) (As := [_, _]) cl_X10_86 mk_X10_isIn dX10_isRight_446 rfl rfl (Nat.le_of_ble_eq_true rfl) (sp_X10_isIn ?_)
        refine aj_ifB_eq (q := 452) (tgt := 475) dX10_isRight_449 rfl (by decide) (fun c449_45 => ?_) (fun c449_45 => ?_)
        · refine aj_iconst (q := 476) (v := 0) dX10_isRight_475 rfl (by decide) ?_
          refine aj_zreturn dX10_isRight_476 rfl (by first | exact bi_nar _ | decide) ?_
          skip; subst ex1
          first | contradiction | with_reducible exact hQ | (simp (decide := true) only [oFit, show mP S 1706 0 = S 1 0 from rfl, ↓reduceIte, Bool.false_eq_true, bi_t, bi_f, Bool.and_true, Bool.true_and, Bool.and_false, Bool.false_and, ite_self, e1_4, c435_43, c440_44, c449_45] at hQ; with_reducible exact hQ) | (simp (decide := true) only [oFit, show mP S 1706 0 = S 1 0 from rfl, ↓reduceIte, Bool.false_eq_true, bi_t, bi_f, Bool.and_true, Bool.true_and, Bool.and_false, Bool.false_and, ite_self, e1_4, c435_43, c440_44, c449_45] at hQ ⊢; with_reducible exact hQ) | (rw [fit_mid (by assumption) (by assumption)] at hQ; simp (decide := true) only [oFit, show mP S 1706 0 = S 1 0 from rfl, ↓reduceIte, Bool.false_eq_true, bi_t, bi_f, Bool.and_true, Bool.true_and, Bool.and_false, Bool.false_and, ite_self, e1_4, c435_43, c440_44, c449_45] at hQ; with_reducible exact hQ) | (rw [fit_none (by first | exact Or.inl (by assumption) | exact Or.inr (by assumption)) (by first | assumption | decide) (by first | assumption | decide) (by first | assumption | decide) (by first | assumption | decide) (by first | assumption | decide) (by first | assumption | decide) (by first | assumption | decide) (by first | assumption | decide) (by first | assumption | decide) (by first | assumption | decide) (by first | assumption | decide) (by first | assumption | decide) (by first | assumption | decide) (by first | assumption | decide) (by first | assumption | decide) (by first | assumption | decide) (by first | assumption | decide)] at hQ; exact hQ)
        · refine aj_iload_n (q := 453) (i := 3) dX10_isRight_452 rfl rfl rfl ?_
          refine aj_bipush (q := 455) (v := 8) dX10_isRight_453 rfl (by decide) ?_
          refine aj_callS (q := 458) (As := [_, _]) cl_X10_86 mk_X10_isIn dX10_isRight_455 rfl rfl (Nat.le_of_ble_eq_true rfl) (sp_X10_isIn ?_)
          refine aj_ifB_eq (q := 461) (tgt := 475) dX10_isRight_458 rfl (by decide) (fun c458_46 => ?_) (fun c458_46 => ?_)
          · refine aj_iconst (q := 476) (v := 0) dX10_isRight_475 rfl (by decide) ?_
            refine aj_zreturn dX10_isRight_476 rfl (by first | exact bi_nar _ | decide) ?_
            skip; subst ex1
            first | contradiction | with_reducible exact hQ | (simp (decide := true) only [oFit, show mP S 1706 0 = S 1 0 from rfl, ↓reduceIte, Bool.false_eq_true, bi_t, bi_f, Bool.and_true, Bool.true_and, Bool.and_false, Bool.false_and, ite_self, e1_4, c435_43, c440_44, c449_45, c458_46] at hQ; with_reducible exact hQ) | (simp (decide := true) only [oFit, show mP S 1706 0 = S 1 0 from rfl, ↓reduceIte, Bool.false_eq_true, bi_t, bi_f, Bool.and_true, Bool.true_and, Bool.and_false, Bool.false_and, ite_self, e1_4, c435_43, c440_44, c449_45, c458_46] at hQ ⊢; with_reducible exact hQ) | (rw [fit_mid (by assumption) (by assumption)] at hQ; simp (decide := true) only [oFit, show mP S 1706 0 = S 1 0 from rfl, ↓reduceIte, Bool.false_eq_true, bi_t, bi_f, Bool.and_true, Bool.true_and, Bool.and_false, Bool.false_and, ite_self, e1_4, c435_43, c440_44, c449_45, c458_46] at hQ; with_reducible exact hQ) | (rw [fit_none (by first | exact Or.inl (by assumption) | exact Or.inr (by assumption)) (by first | assumption | decide) (by first | assumption | decide) (by first | assumption | decide) (by first | assumption | decide) (by first | assumption | decide) (by first | assumption | decide) (by first | assumption | decide) (by first | assumption | decide) (by first | assumption | decide) (by first | assumption | decide) (by first | assumption | decide) (by first | assumption | decide) (by first | assumption | decide) (by first | assumption | decide) (by first | assumption | decide) (by first | assumption | decide) (by first | assumption | decide)] at hQ; exact hQ)
          · refine aj_iload (q := 463) (i := 4) dX10_isRight_461 rfl rfl ?_
            refine aj_bipush (q := 465) (v := 8) dX10_isRight_463 rfl (by decide) ?_
            refine aj_callS (q := 468) (As := [_, _]) cl_X10_86 mk_X10_isIn dX10_isRight_465 rfl rfl (Nat.le_of_ble_eq_true rfl) (sp_X10_isIn ?_)
            refine aj_ifB_eq (q := 471) (tgt := 475) dX10_isRight_468 rfl (by decide) (fun c468_47 => ?_) (fun c468_47 => ?_)
            · refine aj_iconst (q := 476) (v := 0) dX10_isRight_475 rfl (by decide) ?_
              refine aj_zreturn dX10_isRight_476 rfl (by first | exact bi_nar _ | decide) ?_
              skip; subst ex1
              first | contradiction | with_reducible exact hQ | (simp (decide := true) only [oFit, show mP S 1706 0 = S 1 0 from rfl, ↓reduceIte, Bool.false_eq_true, bi_t, bi_f, Bool.and_true, Bool.true_and, Bool.and_false, Bool.false_and, ite_self, e1_4, c435_43, c440_44, c449_45, c458_46, c468_47] at hQ; with_reducible exact hQ) | (simp (decide := true) only [oFit, show mP S 1706 0 = S 1 0 from rfl, ↓reduceIte, Bool.false_eq_true, bi_t, bi_f, Bool.and_true, Bool.true_and, Bool.and_false, Bool.false_and, ite_self, e1_4, c435_43, c440_44, c449_45, c458_46, c468_47] at hQ ⊢; with_reducible exact hQ) | (rw [fit_mid (by assumption) (by assumption)] at hQ; simp (decide := true) only [oFit, show mP S 1706 0 = S 1 0 from rfl, ↓reduceIte, Bool.false_eq_true, bi_t, bi_f, Bool.and_true, Bool.true_and, Bool.and_false, Bool.false_and, ite_self, e1_4, c435_43, c440_44, c449_45, c458_46, c468_47] at hQ; with_reducible exact hQ) | (rw [fit_none (by first | exact Or.inl (by assumption) | exact Or.inr (by assumption)) (by first | assumption | decide) (by first | assumption | decide) (by first | assumption | decide) (by first | assumption | decide) (by first | assumption | decide) (by first | assumption | decide) (by first | assumption | decide) (by first | assumption | decide) (by first | assumption | decide) (by first | assumption | decide) (by first | assumption | decide) (by first | assumption | decide) (by first | assumption | decide) (by first | assumption | decide) (by first | assumption | decide) (by first | assumption | decide) (by first | assumption | decide)] at hQ; exact hQ)
            · refine aj_iconst (q := 472) (v := 1) dX10_isRight_471 rfl (by decide) ?_
              refine aj_goto (tgt := 476) dX10_isRight_472 (by decide) ?_
              refine aj_zreturn dX10_isRight_476 rfl (by first | exact bi_nar _ | decide) ?_
              skip; subst ex1
              first | contradiction | with_reducible exact hQ | (simp (decide := true) only [oFit, show mP S 1706 0 = S 1 0 from rfl, ↓reduceIte, Bool.false_eq_true, bi_t, bi_f, Bool.and_true, Bool.true_and, Bool.and_false, Bool.false_and, ite_self, e1_4, c435_43, c440_44, c449_45, c458_46, c468_47] at hQ; with_reducible exact hQ) | (simp (decide := true) only [oFit, show mP S 1706 0 = S 1 0 from rfl, ↓reduceIte, Bool.false_eq_true, bi_t, bi_f, Bool.and_true, Bool.true_and, Bool.and_false, Bool.false_and, ite_self, e1_4, c435_43, c440_44, c449_45, c458_46, c468_47] at hQ ⊢; with_reducible exact hQ) | (rw [fit_mid (by assumption) (by assumption)] at hQ; simp (decide := true) only [oFit, show mP S 1706 0 = S 1 0 from rfl, ↓reduceIte, Bool.false_eq_true, bi_t, bi_f, Bool.and_true, Bool.true_and, Bool.and_false, Bool.false_and, ite_self, e1_4, c435_43, c440_44, c449_45, c458_46, c468_47] at hQ; with_reducible exact hQ) | (rw [fit_none (by first | exact Or.inl (by assumption) | exact Or.inr (by assumption)) (by first | assumption | decide) (by first | assumption | decide) (by first | assumption | decide) (by first | assumption | decide) (by first | assumption | decide) (by first | assumption | decide) (by first | assumption | decide) (by first | assumption | decide) (by first | assumption | decide) (by first | assumption | decide) (by first | assumption | decide) (by first | assumption | decide) (by first | assumption | decide) (by first | assumption | decide) (by first | assumption | decide) (by first | assumption | decide) (by first | assumption | decide)] at hQ; exact hQ)
  by_cases e1_5 : x1 = 5
  · refine aj_tsIn (tgt := 433) (off := 432) dX10_isRight_1 (by rw [e1_5]; decide) (by rw [e1_5]; decide) (by rw [e1_5]; rfl) (by decide) ?_
    refine aj_iload_n (q := 434) (i := 1) dX10_isRight_433 rfl rfl rfl ?_
    refine aj_iconst (q := 435) (v := 1) dX10_isRight_434 rfl (by decide) ?_
    refine aj_icmp_lt (q := 438) (tgt := 475) dX10_isRight_435 rfl (by decide) (fun c435_48 => ?_) (fun c435_48 => ?_)
    · refine aj_iconst (q := 476) (v := 0) dX10_isRight_475 rfl (by decide) ?_
      refine aj_zreturn dX10_isRight_476 rfl (by first | exact bi_nar _ | decide) ?_
      skip; subst ex1
      first | contradiction | with_reducible exact hQ | (simp (decide := true) only [oFit, show mP S 1706 0 = S 1 0 from rfl, ↓reduceIte, Bool.false_eq_true, bi_t, bi_f, Bool.and_true, Bool.true_and, Bool.and_false, Bool.false_and, ite_self, e1_5, c435_48] at hQ; with_reducible exact hQ) | (simp (decide := true) only [oFit, show mP S 1706 0 = S 1 0 from rfl, ↓reduceIte, Bool.false_eq_true, bi_t, bi_f, Bool.and_true, Bool.true_and, Bool.and_false, Bool.false_and, ite_self, e1_5, c435_48] at hQ ⊢; with_reducible exact hQ) | (rw [fit_mid (by assumption) (by assumption)] at hQ; simp (decide := true) only [oFit, show mP S 1706 0 = S 1 0 from rfl, ↓reduceIte, Bool.false_eq_true, bi_t, bi_f, Bool.and_true, Bool.true_and, Bool.and_false, Bool.false_and, ite_self, e1_5, c435_48] at hQ; with_reducible exact hQ) | (rw [fit_none (by first | exact Or.inl (by assumption) | exact Or.inr (by assumption)) (by first | assumption | decide) (by first | assumption | decide) (by first | assumption | decide) (by first | assumption | decide) (by first | assumption | decide) (by first | assumption | decide) (by first | assumption | decide) (by first | assumption | decide) (by first | assumption | decide) (by first | assumption | decide) (by first | assumption | decide) (by first | assumption | decide) (by first | assumption | decide) (by first | assumption | decide) (by first | assumption | decide) (by first | assumption | decide) (by first | assumption | decide)] at hQ; exact hQ)
    · refine aj_iload_n (q := 439) (i := 1) dX10_isRight_438 rfl rfl rfl ?_
      refine aj_iconst (q := 440) (v := 5) dX10_isRight_439 rfl (by decide) ?_
      refine aj_icmp_gt (q := 443) (tgt := 475) dX10_isRight_440 rfl (by decide) (fun c440_49 => ?_) (fun c440_49 => ?_)
      · refine aj_iconst (q := 476) (v := 0) dX10_isRight_475 rfl (by decide) ?_
        refine aj_zreturn dX10_isRight_476 rfl (by first | exact bi_nar _ | decide) ?_
        skip; subst ex1
        first | contradiction | with_reducible exact hQ | (simp (decide := true) only [oFit, show mP S 1706 0 = S 1 0 from rfl, ↓reduceIte, Bool.false_eq_true, bi_t, bi_f, Bool.and_true, Bool.true_and, Bool.and_false, Bool.false_and, ite_self, e1_5, c435_48, c440_49] at hQ; with_reducible exact hQ) | (simp (decide := true) only [oFit, show mP S 1706 0 = S 1 0 from rfl, ↓reduceIte, Bool.false_eq_true, bi_t, bi_f, Bool.and_true, Bool.true_and, Bool.and_false, Bool.false_and, ite_self, e1_5, c435_48, c440_49] at hQ ⊢; with_reducible exact hQ) | (rw [fit_mid (by assumption) (by assumption)] at hQ; simp (decide := true) only [oFit, show mP S 1706 0 = S 1 0 from rfl, ↓reduceIte, Bool.false_eq_true, bi_t, bi_f, Bool.and_true, Bool.true_and, Bool.and_false, Bool.false_and, ite_self, e1_5, c435_48, c440_49] at hQ; with_reducible exact hQ) | (rw [fit_none (by first | exact Or.inl (by assumption) | exact Or.inr (by assumption)) (by first | assumption | decide) (by first | assumption | decide) (by first | assumption | decide) (by first | assumption | decide) (by first | assumption | decide) (by first | assumption | decide) (by first | assumption | decide) (by first | assumption | decide) (by first | assumption | decide) (by first | assumption | decide) (by first | assumption | decide) (by first | assumption | decide) (by first | assumption | decide) (by first | assumption | decide) (by first | assumption | decide) (by first | assumption | decide) (by first | assumption | decide)] at hQ; exact hQ)
      · refine aj_iload_n (q := 444) (i := 2) dX10_isRight_443 rfl rfl rfl ?_
        refine aj_bipush (q := 446) (v := 8) dX10_isRight_444 rfl (by decide) ?_
        refine aj_callS (q := 449) (As := [_, _]) cl_X10_86 mk_X10_isIn dX10_isRight_446 rfl rfl (Nat.le_of_ble_eq_true rfl) (sp_X10_isIn ?_)
        refine aj_ifB_eq (q := 452) (tgt := 475) dX10_isRight_449 rfl (by decide) (fun c449_50 => ?_) (fun c449_50 => ?_)
        · refine aj_iconst (q := 476) (v := 0) dX10_isRight_475 rfl (by decide) ?_
          refine aj_zreturn dX10_isRight_476 rfl (by first | exact bi_nar _ | decide) ?_
          skip; subst ex1
          first | contradiction | with_reducible exact hQ | (simp (decide := true) only [oFit, show mP S 1706 0 = S 1 0 from rfl, ↓reduceIte, Bool.false_eq_true, bi_t, bi_f, Bool.and_true, Bool.true_and, Bool.and_false, Bool.false_and, ite_self, e1_5, c435_48, c440_49, c449_50] at hQ; with_reducible exact hQ) | (simp (decide := true) only [oFit, show mP S 1706 0 = S 1 0 from rfl, ↓reduceIte, Bool.false_eq_true, bi_t, bi_f, Bool.and_true, Bool.true_and, Bool.and_false, Bool.false_and, ite_self, e1_5, c435_48, c440_49, c449_50] at hQ ⊢; with_reducible exact hQ) | (rw [fit_mid (by assumption) (by assumption)] at hQ; simp (decide := true) only [oFit, show mP S 1706 0 = S 1 0 from rfl, ↓reduceIte, Bool.false_eq_true, bi_t, bi_f, Bool.and_true, Bool.true_and, Bool.and_false, Bool.false_and, ite_self, e1_5, c435_48, c440_49, c449_50] at hQ; with_reducible exact hQ) | (rw [fit_none (by first | exact Or.inl (by assumption) | exact Or.inr (by assumption)) (by first | assumption | decide) (by first | assumption | decide) (by first | assumption | decide) (by first | assumption | decide) (by first | assumption | decide) (by first | assumption | decide) (by first | assumption | decide) (by first | assumption | decide) (by first | assumption | decide) (by first | assumption | decide) (by first | assumption | decide) (by first | assumption | decide) (by first | assumption | decide) (by first | assumption | decide) (by first | assumption | decide) (by first | assumption | decide) (by first | assumption | decide)] at hQ; exact hQ)
        · refine aj_iload_n (q := 453) (i := 3) dX10_isRight_452 rfl rfl rfl ?_
          refine aj_bipush (q := 455) (v := 8) dX10_isRight_453 rfl (by decide) ?_
          refine aj_callS (q := 458) (As := [_, _]) cl_X10_86 mk_X10_isIn dX10_isRight_455 rfl rfl (Nat.le_of_ble_eq_true rfl) (sp_X10_isIn ?_)
          refine aj_ifB_eq (q := 461) (tgt := 475) dX10_isRight_458 rfl (by decide) (fun c458_51 => ?_) (fun c458_51 => ?_)
          · refine aj_iconst (q := 476) (v := 0) dX10_isRight_475 rfl (by decide) ?_
            refine aj_zreturn dX10_isRight_476 rfl (by first | exact bi_nar _ | decide) ?_
            skip; subst ex1
            first | contradiction | with_reducible exact hQ | (simp (decide := true) only [oFit, show mP S 1706 0 = S 1 0 from rfl, ↓reduceIte, Bool.false_eq_true, bi_t, bi_f, Bool.and_true, Bool.true_and, Bool.and_false, Bool.false_and, ite_self, e1_5, c435_48, c440_49, c449_50, c458_51] at hQ; with_reducible exact hQ) | (simp (decide := true) only [oFit, show mP S 1706 0 = S 1 0 from rfl, ↓reduceIte, Bool.false_eq_true, bi_t, bi_f, Bool.and_true, Bool.true_and, Bool.and_false, Bool.false_and, ite_self, e1_5, c435_48, c440_49, c449_50, c458_51] at hQ ⊢; with_reducible exact hQ) | (rw [fit_mid (by assumption) (by assumption)] at hQ; simp (decide := true) only [oFit, show mP S 1706 0 = S 1 0 from rfl, ↓reduceIte, Bool.false_eq_true, bi_t, bi_f, Bool.and_true, Bool.true_and, Bool.and_false, Bool.false_and, ite_self, e1_5, c435_48, c440_49, c449_50, c458_51] at hQ; with_reducible exact hQ) | (rw [fit_none (by first | exact Or.inl (by assumption) | exact Or.inr (by assumption)) (by first | assumption | decide) (by first | assumption | decide) (by first | assumption | decide) (by first | assumption | decide) (by first | assumption | decide) (by first | assumption | decide) (by first | assumption | decide) (by first | assumption | decide) (by first | assumption | decide) (by first | assumption | decide) (by first | assumption | decide) (by first | assumption | decide) (by first | assumption | decide) (by first | assumption | decide) (by first | assumption | decide) (by first | assumption | decide) (by first | assumption | decide)] at hQ; exact hQ)
          · refine aj_iload (q := 463) (i := 4) dX10_isRight_461 rfl rfl ?_
            refine aj_bipush (q := 465) (v := 8) dX10_isRight_463 rfl (by decide) ?_
            refine aj_callS (q := 468) (As := [_, _]) cl_X10_86 mk_X10_isIn dX10_isRight_465 rfl rfl (Nat.le_of_ble_eq_true rfl) (sp_X10_isIn ?_)
            refine aj_ifB_eq (q := 471) (tgt := 475) dX10_isRight_468 rfl (by decide) (fun c468_52 => ?_) (fun c468_52 => ?_)
            · refine aj_iconst (q := 476) (v := 0) dX10_isRight_475 rfl (by decide) ?_
              refine aj_zreturn dX10_isRight_476 rfl (by first | exact bi_nar _ | decide) ?_
              skip; subst ex1
              first | contradiction | with_reducible exact hQ | (simp (decide := true) only [oFit, show mP S 1706 0 = S 1 0 from rfl, ↓reduceIte, Bool.false_eq_true, bi_t, bi_f, Bool.and_true, Bool.true_and, Bool.and_false, Bool.false_and, ite_self, e1_5, c435_48, c440_49, c449_50, c458_51, c468_52] at hQ; with_reducible exact hQ) | (simp (decide := true) only [oFit, show mP S 1706 0 = S 1 0 from rfl, ↓reduceIte, Bool.false_eq_true, bi_t, bi_f, Bool.and_true, Bool.true_and, Bool.and_false, Bool.false_and, ite_self, e1_5, c435_48, c440_49, c449_50, c458_51, c468_52] at hQ ⊢; with_reducible exact hQ) | (rw [fit_mid (by assumption) (by assumption)] at hQ; simp (decide := true) only [oFit, show mP S 1706 0 = S 1 0 from rfl, ↓reduceIte, Bool.false_eq_true, bi_t, bi_f, Bool.and_true, Bool.true_and, Bool.and_false, Bool.false_and, ite_self, e1_5, c435_48, c440_49, c449_50, c458_51, c468_52] at hQ; with_reducible exact hQ) | (rw [fit_none (by first | exact Or.inl (by assumption) | exact Or.inr (by assumption)) (by first | assumption | decide) (by first | assumption | decide) (by first | assumption | decide) (by first | assumption | decide) (by first | assumption | decide) (by first | assumption | decide) (by first | assumption | decide) (by first | assumption | decide) (by first | assumption | decide) (by first | assumption | decide) (by first | assumption | decide) (by first | assumption | decide) (by first | assumption | decide) (by first | assumption | decide) (by first | assumption | decide) (by first | assumption | decide) (by first | assumption | decide)] at hQ; exact hQ)
            · refine aj_iconst (q := 472) (v := 1) dX10_isRight_471 rfl (by decide) ?_
              refine aj_goto (tgt := 476) dX10_isRight_472 (by decide) ?_
              refine aj_zreturn dX10_isRight_476 rfl (by first | exact bi_nar _ | decide) ?_
              skip; subst ex1
              first | contradiction | with_reducible exact hQ | (simp (decide := true) only [oFit, show mP S 1706 0 = S 1 0 from rfl, ↓reduceIte, Bool.false_eq_true, bi_t, bi_f, Bool.and_true, Bool.true_and, Bool.and_false, Bool.false_and, ite_self, e1_5, c435_48, c440_49, c449_50, c458_51, c468_52] at hQ; with_reducible exact hQ) | (simp (decide := true) only [oFit, show mP S 1706 0 = S 1 0 from rfl, ↓reduceIte, Bool.false_eq_true, bi_t, bi_f, Bool.and_true, Bool.true_and, Bool.and_false, Bool.false_and, ite_self, e1_5, c435_48, c440_49, c449_50, c458_51, c468_52] at hQ ⊢; with_reducible exact hQ) | (rw [fit_mid (by assumption) (by assumption)] at hQ; simp (decide := true) only [oFit, show mP S 1706 0 = S 1 0 from rfl, ↓reduceIte, Bool.false_eq_true, bi_t, bi_f, Bool.and_true, Bool.true_and, Bool.and_false, Bool.false_and, ite_self, e1_5, c435_48, c440_49, c449_50, c458_51, c468_52] at hQ; with_reducible exact hQ) | (rw [fit_none (by first | exact Or.inl (by assumption) | exact Or.inr (by assumption)) (by first | assumption | decide) (by first | assumption | decide) (by first | assumption | decide) (by first | assumption | decide) (by first | assumption | decide) (by first | assumption | decide) (by first | assumption | decide) (by first | assumption | decide) (by first | assumption | decide) (by first | assumption | decide) (by first | assumption | decide) (by first | assumption | decide) (by first | assumption | decide) (by first | assumption | decide) (by first | assumption | decide) (by first | assumption | decide) (by first | assumption | decide)] at hQ; exact hQ)
  refine aj_tsOut (tgt := 433) dX10_isRight_1 (by have := And.intro trivial trivial; have z0 := lv_neT (a := 0) e1_0 rfl; have z1 := lv_neT (a := 1) e1_1 rfl; have z2 := lv_neT (a := 2) e1_2 rfl; have z3 := lv_neT (a := 3) e1_3 rfl; have z4 := lv_neT (a := 4) e1_4 rfl; have z5 := lv_neT (a := 5) e1_5 rfl; have z6 := lv_neT (a := 6) e1_6 rfl; have z7 := lv_neT (a := 7) e1_7 rfl; have z8 := lv_neT (a := 8) e1_8 rfl; have z9 := lv_neT (a := 9) e1_9 rfl; have z10 := lv_neT (a := 10) e1_10 rfl; have z11 := lv_neT (a := 11) e1_11 rfl; have z12 := lv_neT (a := 12) e1_12 rfl; have z13 := lv_neT (a := 13) e1_13 rfl; have z14 := lv_neT (a := 14) e1_14 rfl; have z15 := lv_neT (a := 15) e1_15 rfl; have z16 := lv_neT (a := 16) e1_16 rfl; have z17 := lv_neT (a := 17) e1_17 rfl; have z18 := lv_neT (a := 18) e1_18 rfl; have z19 := lv_neT (a := 19) e1_19 rfl; have z20 := lv_neT (a := 20) e1_20 rfl; have z21 := lv_neT (a := 21) e1_21 rfl; omega) (by decide) ?_
  refine aj_iload_n (q := 434) (i := 1) dX10_isRight_433 rfl rfl rfl ?_
  refine aj_iconst (q := 435) (v := 1) dX10_isRight_434 rfl (by decide) ?_
  refine aj_icmp_lt (q := 438) (tgt := 475) dX10_isRight_435 rfl (by decide) (fun c435_53 => ?_) (fun c435_53 => ?_)
  · refine aj_iconst (q := 476) (v := 0) dX10_isRight_475 rfl (by decide) ?_
    refine aj_zreturn dX10_isRight_476 rfl (by first | exact bi_nar _ | decide) ?_
    skip; subst ex1
    first | contradiction | with_reducible exact hQ | (simp (decide := true) only [oFit, show mP S 1706 0 = S 1 0 from rfl, ↓reduceIte, Bool.false_eq_true, bi_t, bi_f, Bool.and_true, Bool.true_and, Bool.and_false, Bool.false_and, ite_self, e1_0, e1_1, e1_2, e1_3, e1_4, e1_5, e1_6, e1_7, e1_8, e1_9, e1_10, e1_11, e1_12, e1_13, e1_14, e1_15, e1_16, e1_17, e1_18, e1_19, e1_20, e1_21, c435_53] at hQ; with_reducible exact hQ) | (simp (decide := true) only [oFit, show mP S 1706 0 = S 1 0 from rfl, ↓reduceIte, Bool.false_eq_true, bi_t, bi_f, Bool.and_true, Bool.true_and, Bool.and_false, Bool.false_and, ite_self, e1_0, e1_1, e1_2, e1_3, e1_4, e1_5, e1_6, e1_7, e1_8, e1_9, e1_10, e1_11, e1_12, e1_13, e1_14, e1_15, e1_16, e1_17, e1_18, e1_19, e1_20, e1_21, c435_53] at hQ ⊢; with_reducible exact hQ) | (rw [fit_mid (by assumption) (by assumption)] at hQ; simp (decide := true) only [oFit, show mP S 1706 0 = S 1 0 from rfl, ↓reduceIte, Bool.false_eq_true, bi_t, bi_f, Bool.and_true, Bool.true_and, Bool.and_false, Bool.false_and, ite_self, e1_0, e1_1, e1_2, e1_3, e1_4, e1_5, e1_6, e1_7, e1_8, e1_9, e1_10, e1_11, e1_12, e1_13, e1_14, e1_15, e1_16, e1_17, e1_18, e1_19, e1_20, e1_21, c435_53] at hQ; with_reducible exact hQ) | (rw [fit_none (by first | exact Or.inl (by assumption) | exact Or.inr (by assumption)) (by first | assumption | decide) (by first | assumption | decide) (by first | assumption | decide) (by first | assumption | decide) (by first | assumption | decide) (by first | assumption | decide) (by first | assumption | decide) (by first | assumption | decide) (by first | assumption | decide) (by first | assumption | decide) (by first | assumption | decide) (by first | assumption | decide) (by first | assumption | decide) (by first | assumption | decide) (by first | assumption | decide) (by first | assumption | decide) (by first | assumption | decide)] at hQ; exact hQ)
  · refine aj_iload_n (q := 439) (i := 1) dX10_isRight_438 rfl rfl rfl ?_
    refine aj_iconst (q := 440) (v := 5) dX10_isRight_439 rfl (by decide) ?_
    refine aj_icmp_gt (q := 443) (tgt := 475) dX10_isRight_440 rfl (by decide) (fun c440_54 => ?_) (fun c440_54 => ?_)
    · refine aj_iconst (q := 476) (v := 0) dX10_isRight_475 rfl (by decide) ?_
      refine aj_zreturn dX10_isRight_476 rfl (by first | exact bi_nar _ | decide) ?_
      skip; subst ex1
      first | contradiction | with_reducible exact hQ | (simp (decide := true) only [oFit, show mP S 1706 0 = S 1 0 from rfl, ↓reduceIte, Bool.false_eq_true, bi_t, bi_f, Bool.and_true, Bool.true_and, Bool.and_false, Bool.false_and, ite_self, e1_0, e1_1, e1_2, e1_3, e1_4, e1_5, e1_6, e1_7, e1_8, e1_9, e1_10, e1_11, e1_12, e1_13, e1_14, e1_15, e1_16, e1_17, e1_18, e1_19, e1_20, e1_21, c435_53, c440_54] at hQ; with_reducible exact hQ) | (simp (decide := true) only [oFit, show mP S 1706 0 = S 1 0 from rfl, ↓reduceIte, Bool.false_eq_true, bi_t, bi_f, Bool.and_true, Bool.true_and, Bool.and_false, Bool.false_and, ite_self, e1_0, e1_1, e1_2, e1_3, e1_4, e1_5, e1_6, e1_7, e1_8, e1_9, e1_10, e1_11, e1_12, e1_13, e1_14, e1_15, e1_16, e1_17, e1_18, e1_19, e1_20, e1_21, c435_53, c440_54] at hQ ⊢; with_reducible exact hQ) | (rw [fit_mid (by assumption) (by assumption)] at hQ; simp (decide := true) only [oFit, show mP S 1706 0 = S 1 0 from rfl, ↓reduceIte, Bool.false_eq_true, bi_t, bi_f, Bool.and_true, Bool.true_and, Bool.and_false, Bool.false_and, ite_self, e1_0, e1_1, e1_2, e1_3, e1_4, e1_5, e1_6, e1_7, e1_8, e1_9, e1_10, e1_11, e1_12, e1_13, e1_14, e1_15, e1_16, e1_17, e1_18, e1_19, e1_20, e1_21, c435_53, c440_54] at hQ; with_reducible exact hQ) | (rw [fit_none (by first | exact Or.inl (by assumption) | exact Or.inr (by assumption)) (by first | assumption | decide) (by first | assumption | decide) (by first | assumption | decide) (by first | assumption | decide) (by first | assumption | decide) (by first | assumption | decide) (by first | assumption | decide) (by first | assumption | decide) (by first | assumption | decide) (by first | assumption | decide) (by first | assumption | decide) (by first | assumption | decide) (by first | assumption | decide) (by first | assumption | decide) (by first | assumption | decide) (by first | assumption | decide) (by first | assumption | decide)] at hQ; exact hQ)
    · refine aj_iload_n (q := 444) (i := 2) dX10_isRight_443 rfl rfl rfl ?_
      refine aj_bipush (q := 446) (v := 8) dX10_isRight_444 rfl (by decide) ?_
      refine aj_callS (q := 449) (As := [_, _]) cl_X10_86 mk_X10_isIn dX10_isRight_446 rfl rfl (Nat.le_of_ble_eq_true rfl) (sp_X10_isIn ?_)
      refine aj_ifB_eq (q := 452) (tgt := 475) dX10_isRight_449 rfl (by decide) (fun c449_55 => ?_) (fun c449_55 => ?_)
      · refine aj_iconst (q := 476) (v := 0) dX10_isRight_475 rfl (by decide) ?_
        refine aj_zreturn dX10_isRight_476 rfl (by first | exact bi_nar _ | decide) ?_
        skip; subst ex1
        first | contradiction | with_reducible exact hQ | (simp (decide := true) only [oFit, show mP S 1706 0 = S 1 0 from rfl, ↓reduceIte, Bool.false_eq_true, bi_t, bi_f, Bool.and_true, Bool.true_and, Bool.and_false, Bool.false_and, ite_self, e1_0, e1_1, e1_2, e1_3, e1_4, e1_5, e1_6, e1_7, e1_8, e1_9, e1_10, e1_11, e1_12, e1_13, e1_14, e1_15, e1_16, e1_17, e1_18, e1_19, e1_20, e1_21, c435_53, c440_54, c449_55] at hQ; with_reducible exact hQ) | (simp (decide := true) only [oFit, show mP S 1706 0 = S 1 0 from rfl, ↓reduceIte, Bool.false_eq_true, bi_t, bi_f, Bool.and_true, Bool.true_and, Bool.and_false, Bool.false_and, ite_self, e1_0, e1_1, e1_2, e1_3, e1_4, e1_5, e1_6, e1_7, e1_8, e1_9, e1_10, e1_11, e1_12, e1_13, e1_14, e1_15, e1_16, e1_17, e1_18, e1_19, e1_20, e1_21, c435_53, c440_54, c449_55] at hQ ⊢; with_reducible exact hQ) | (rw [fit_mid (by assumption) (by assumption)] at hQ; simp (decide := true) only [oFit, show mP S 1706 0 = S 1 0 from rfl, ↓reduceIte, Bool.false_eq_true, bi_t, bi_f, Bool.and_true, Bool.true_and, Bool.and_false, Bool.false_and, ite_self, e1_0, e1_1, e1_2, e1_3, e1_4, e1_5, e1_6, e1_7, e1_8, e1_9, e1_10, e1_11, e1_12, e1_13, e1_14, e1_15, e1_16, e1_17, e1_18, e1_19, e1_20, e1_21, c435_53, c440_54, c449_55] at hQ; with_reducible exact hQ) | (rw [fit_none (by first | exact Or.inl (by assumption) | exact Or.inr (by assumption)) (by first | assumption | decide) (by first | assumption | decide) (by first | assumption | decide) (by first | assumption | decide) (by first | assumption | decide) (by first | assumption | decide) (by first | assumption | decide) (by first | assumption | decide) (by first | assumption | decide) (by first | assumption | decide) (by first | assumption | decide) (by first | assumption | decide) (by first | assumption | decide) (by first | assumption | decide) (by first | assumption | decide) (by first | assumption | decide) (by first | assumption | decide)] at hQ; exact hQ)
      · refine aj_iload_n (q := 453) (i := 3) dX10_isRight_452 rfl rfl rfl ?_
        refine aj_bipush (q := 455) (v := 8) dX10_isRight_453 rfl (by decide) ?_
        refine aj_callS (q := 458) (As := [_, _]) cl_X10_86 mk_X10_isIn dX10_isRight_455 rfl rfl (Nat.le_of_ble_eq_true rfl) (sp_X10_isIn ?_)
        refine aj_ifB_eq (q := 461) (tgt := 475) dX10_isRight_458 rfl (by decide) (fun c458_56 => ?_) (fun c458_56 => ?_)
        · refine aj_iconst (q := 476) (v := 0) dX10_isRight_475 rfl (by decide) ?_
          refine aj_zreturn dX10_isRight_476 rfl (by first | exact bi_nar _ | decide) ?_
          skip; subst ex1
          first | contradiction | with_reducible exact hQ | (simp (decide := true) only [oFit, show mP S 1706 0 = S 1 0 from rfl, ↓reduceIte, Bool.false_eq_true, bi_t, bi_f, Bool.and_true, Bool.true_and, Bool.and_false, Bool.false_and, ite_self, e1_0, e1_1, e1_2, e1_3, e1_4, e1_5, e1_6, e1_7, e1_8, e1_9, e1_10, e1_11, e1_12, e1_13, e1_14, e1_15, e1_16, e1_17, e1_18, e1_19, e1_20, e1_21, c435_53, c440_54, c449_55, c458_56] at hQ; with_reducible exact hQ) | (simp (decide := true) only [oFit, show mP S 1706 0 = S 1 0 from rfl, ↓reduceIte, Bool.false_eq_true, bi_t, bi_f, Bool.and_true, Bool.true_and, Bool.and_false, Bool.false_and, ite_self, e1_0, e1_1, e1_2, e1_3, e1_4, e1_5, e1_6, e1_7, e1_8, e1_9, e1_10, e1_11, e1_12, e1_13, e1_14, e1_15, e1_16, e1_17, e1_18, e1_19, e1_20, e1_21, c435_53, c440_54, c449_55, c458_56] at hQ ⊢; with_reducible exact hQ) | (rw [fit_mid (by assumption) (by assumption)] at hQ; simp (decide := true) only [oFit, show mP S 1706 0 = S 1 0 from rfl, ↓reduceIte, Bool.false_eq_true, bi_t, bi_f, Bool.and_true, Bool.true_and, Bool.and_false, Bool.false_and, ite_self, e1_0, e1_1, e1_2, e1_3, e1_4, e1_5, e1_6, e1_7, e1_8, e1_9, e1_10, e1_11, e1_12, e1_13, e1_14, e1_15, e1_16, e1_17, e1_18, e1_19, e1_20, e1_21, c435_53, c440_54, c449_55, c458_56] at hQ; with_reducible exact hQ) | (rw [fit_none (by first | exact Or.inl (by assumption) | exact Or.inr (by assumption)) (by first | assumption | decide) (by first | assumption | decide) (by first | assumption | decide) (by first | assumption | decide) (by first | assumption | decide) (by first | assumption | decide) (by first | assumption | decide) (by first | assumption | decide) (by first | assumption | decide) (by first | assumption | decide) (by first | assumption | decide) (by first | assumption | decide) (by first | assumption | decide) (by first | assumption | decide) (by first | assumption | decide) (by first | assumption | decide) (by first | assumption | decide)] at hQ; exact hQ)
        · refine aj_iload (q := 463) (i := 4) dX10_isRight_461 rfl rfl ?_
          refine aj_bipush (q := 465) (v := 8) dX10_isRight_463 rfl (by decide) ?_
          refine aj_callS (q := 468) (As := [_, _]) cl_X10_86 mk_X10_isIn dX10_isRight_465 rfl rfl (Nat.le_of_ble_eq_true rfl) (sp_X10_isIn ?_)
          refine aj_ifB_eq (q := 471) (tgt := 475) dX10_isRight_468 rfl (by decide) (fun c468_57 => ?_) (fun c468_57 => ?_)
          · refine aj_iconst (q := 476) (v := 0) dX10_isRight_475 rfl (by decide) ?_
            refine aj_zreturn dX10_isRight_476 rfl (by first | exact bi_nar _ | decide) ?_
            skip; subst ex1
            first | contradiction | with_reducible exact hQ | (simp (decide := true) only [oFit, show mP S 1706 0 = S 1 0 from rfl, ↓reduceIte, Bool.false_eq_true, bi_t, bi_f, Bool.and_true, Bool.true_and, Bool.and_false, Bool.false_and, ite_self, e1_0, e1_1, e1_2, e1_3, e1_4, e1_5, e1_6, e1_7, e1_8, e1_9, e1_10, e1_11, e1_12, e1_13, e1_14, e1_15, e1_16, e1_17, e1_18, e1_19, e1_20, e1_21, c435_53, c440_54, c449_55, c458_56, c468_57] at hQ; with_reducible exact hQ) | (simp (decide := true) only [oFit, show mP S 1706 0 = S 1 0 from rfl, ↓reduceIte, Bool.false_eq_true, bi_t, bi_f, Bool.and_true, Bool.true_and, Bool.and_false, Bool.false_and, ite_self, e1_0, e1_1, e1_2, e1_3, e1_4, e1_5, e1_6, e1_7, e1_8, e1_9, e1_10, e1_11, e1_12, e1_13, e1_14, e1_15, e1_16, e1_17, e1_18, e1_19, e1_20, e1_21, c435_53, c440_54, c449_55, c458_56, c468_57] at hQ ⊢; with_reducible exact hQ) | (rw [fit_mid (by assumption) (by assumption)] at hQ; simp (decide := true) only [oFit, show mP S 1706 0 = S 1 0 from rfl, ↓reduceIte, Bool.false_eq_true, bi_t, bi_f, Bool.and_true, Bool.true_and, Bool.and_false, Bool.false_and, ite_self, e1_0, e1_1, e1_2, e1_3, e1_4, e1_5, e1_6, e1_7, e1_8, e1_9, e1_10, e1_11, e1_12, e1_13, e1_14, e1_15, e1_16, e1_17, e1_18, e1_19, e1_20, e1_21, c435_53, c440_54, c449_55, c458_56, c468_57] at hQ; with_reducible exact hQ) | (rw [fit_none (by first | exact Or.inl (by assumption) | exact Or.inr (by assumption)) (by first | assumption | decide) (by first | assumption | decide) (by first | assumption | decide) (by first | assumption | decide) (by first | assumption | decide) (by first | assumption | decide) (by first | assumption | decide) (by first | assumption | decide) (by first | assumption | decide) (by first | assumption | decide) (by first | assumption | decide) (by first | assumption | decide) (by first | assumption | decide) (by first | assumption | decide) (by first | assumption | decide) (by first | assumption | decide) (by first | assumption | decide)] at hQ; exact hQ)
          · refine aj_iconst (q := 472) (v := 1) dX10_isRight_471 rfl (by decide) ?_
            refine aj_goto (tgt := 476) dX10_isRight_472 (by decide) ?_
            refine aj_zreturn dX10_isRight_476 rfl (by first | exact bi_nar _ | decide) ?_
            skip; subst ex1
            first | contradiction | with_reducible exact hQ | (simp (decide := true) only [oFit, show mP S 1706 0 = S 1 0 from rfl, ↓reduceIte, Bool.false_eq_true, bi_t, bi_f, Bool.and_true, Bool.true_and, Bool.and_false, Bool.false_and, ite_self, e1_0, e1_1, e1_2, e1_3, e1_4, e1_5, e1_6, e1_7, e1_8, e1_9, e1_10, e1_11, e1_12, e1_13, e1_14, e1_15, e1_16, e1_17, e1_18, e1_19, e1_20, e1_21, c435_53, c440_54, c449_55, c458_56, c468_57] at hQ; with_reducible exact hQ) | (simp (decide := true) only [oFit, show mP S 1706 0 = S 1 0 from rfl, ↓reduceIte, Bool.false_eq_true, bi_t, bi_f, Bool.and_true, Bool.true_and, Bool.and_false, Bool.false_and, ite_self, e1_0, e1_1, e1_2, e1_3, e1_4, e1_5, e1_6, e1_7, e1_8, e1_9, e1_10, e1_11, e1_12, e1_13, e1_14, e1_15, e1_16, e1_17, e1_18, e1_19, e1_20, e1_21, c435_53, c440_54, c449_55, c458_56, c468_57] at hQ ⊢; with_reducible exact hQ) | (rw [fit_mid (by assumption) (by assumption)] at hQ; simp (decide := true) only [oFit, show mP S 1706 0 = S 1 0 from rfl, ↓reduceIte, Bool.false_eq_true, bi_t, bi_f, Bool.and_true, Bool.true_and, Bool.and_false, Bool.false_and, ite_self, e1_0, e1_1, e1_2, e1_3, e1_4, e1_5, e1_6, e1_7, e1_8, e1_9, e1_10, e1_11, e1_12, e1_13, e1_14, e1_15, e1_16, e1_17, e1_18, e1_19, e1_20, e1_21, c435_53, c440_54, c449_55, c458_56, c468_57] at hQ; with_reducible exact hQ) | (rw [fit_none (by first | exact Or.inl (by assumption) | exact Or.inr (by assumption)) (by first | assumption | decide) (by first | assumption | decide) (by first | assumption | decide) (by first | assumption | decide) (by first | assumption | decide) (by first | assumption | decide) (by first | assumption | decide) (by first | assumption | decide) (by first | assumption | decide) (by first | assumption | decide) (by first | assumption | decide) (by first | assumption | decide) (by first | assumption | decide) (by first | assumption | decide) (by first | assumption | decide) (by first | assumption | decide) (by first | assumption | decide)] at hQ; exact hQ)
theorem imax_le {x y : Int32} (h : x ≤ y) : imax x y = y := by
  unfold imax
  split
  · rfl
  · rename_i q; exact Int32.le_antisymm h (Int32.not_lt.mp q)
theorem imax_gt {x y : Int32} (h : ¬ x ≤ y) : imax x y = x := by
  unfold imax
  rw [if_neg (Int32.not_lt.mpr (Int32.le_of_lt (Int32.not_le.mp h)))]
theorem hOf_in {M : Sx} {s : Int32} (h : inb s (M 1 0) = true) : hOf (mP M) s = M 500 s.toNatClampNeg := by
  rw [hOf, gOf, if_pos (show inb s (mP M 1706 0) = true from h)]
  rfl
theorem k_in {M : Sx} {k : Nat} {s : Int32} (hk : M 1 0 = nI k) (hk2 : k ≤ 120) (h : inb s (M 1 0) = true) : vp_in s 120 := by
  rw [hk] at h
  have := inb_iff.mp h
  rw [nI_toInt (by omega)] at this
  exact vp_in_iff.mpr ⟨this.1, by omega⟩
theorem sp_X10_highest {d : Nat} {S : Sx} {Q : Option Value → Sx → Prop} {s t : Int32} {k : Nat} (hk : S 1 0 = nI k) (hk2 : k ≤ 120) (hs : inb s (S 1 0) = true) (ht : inb t (S 1 0) = true) (hQ : Q (some (.int (1 + imax (hOf (mP S) s) (hOf (mP S) t)))) (S)) : CC d kX10_highest layM [.ref 0, .int s, .int t] S Q := by
  refine cc_intro [some _, some _, some _] (by decide) (cc_cat (by rfl)) (Nat.le_of_ble_eq_true rfl) (cc_ls (by rfl)) ?_
  refine aj_iconst (q := 1) (v := 1) dX10_highest_0 rfl (by decide) ?_
  refine aj_aload_n (q := 2) (i := 0) dX10_highest_1 rfl rfl rfl ?_
  refine aj_getR (q := 5) fl_X10_26 dX10_highest_2 rfl lM_0 rfl ?_
  refine aj_iload_n (q := 6) (i := 1) dX10_highest_5 rfl rfl rfl ?_
  refine aj_iaload (q := 7) (f := 500) dX10_highest_6 rfl lM_5 rfl (k_in hk hk2 (by assumption)) ?_
  try simp (decide := true) only [sw_eq, sw_ne, ne_eq, Nat.reduceEqDiff, not_false_eq_true, nI_pred, nI_1, gPay_ne]
  refine aj_aload_n (q := 8) (i := 0) dX10_highest_7 rfl rfl rfl ?_
  refine aj_getR (q := 11) fl_X10_26 dX10_highest_8 rfl lM_0 rfl ?_
  refine aj_iload_n (q := 12) (i := 2) dX10_highest_11 rfl rfl rfl ?_
  refine aj_iaload (q := 13) (f := 500) dX10_highest_12 rfl lM_5 rfl (k_in hk hk2 (by assumption)) ?_
  try simp (decide := true) only [sw_eq, sw_ne, ne_eq, Nat.reduceEqDiff, not_false_eq_true, nI_pred, nI_1, gPay_ne]
  refine aj_icmp_le (q := 16) (tgt := 25) dX10_highest_13 rfl (by decide) (fun c13_1 => ?_) (fun c13_1 => ?_)
  · refine aj_aload_n (q := 26) (i := 0) dX10_highest_25 rfl rfl rfl ?_
    refine aj_getR (q := 29) fl_X10_26 dX10_highest_26 rfl lM_0 rfl ?_
    refine aj_iload_n (q := 30) (i := 2) dX10_highest_29 rfl rfl rfl ?_
    refine aj_iaload (q := 31) (f := 500) dX10_highest_30 rfl lM_5 rfl (k_in hk hk2 (by assumption)) ?_
    try simp (decide := true) only [sw_eq, sw_ne, ne_eq, Nat.reduceEqDiff, not_false_eq_true, nI_pred, nI_1, gPay_ne, c13_1]
    refine aj_iadd (q := 32) dX10_highest_31 rfl ?_
    try simp (decide := true) only [sw_eq, sw_ne, ne_eq, Nat.reduceEqDiff, not_false_eq_true, nI_pred, nI_1, gPay_ne, c13_1]
    refine aj_ireturn dX10_highest_32 rfl ?_
    rw [hOf_in hs, hOf_in ht] at hQ
    first | (rw [imax_le (by assumption)] at hQ; exact hQ) | (rw [imax_gt (by assumption)] at hQ; exact hQ)
  · refine aj_aload_n (q := 17) (i := 0) dX10_highest_16 rfl rfl rfl ?_
    refine aj_getR (q := 20) fl_X10_26 dX10_highest_17 rfl lM_0 rfl ?_
    refine aj_iload_n (q := 21) (i := 1) dX10_highest_20 rfl rfl rfl ?_
    refine aj_iaload (q := 22) (f := 500) dX10_highest_21 rfl lM_5 rfl (k_in hk hk2 (by assumption)) ?_
    try simp (decide := true) only [sw_eq, sw_ne, ne_eq, Nat.reduceEqDiff, not_false_eq_true, nI_pred, nI_1, gPay_ne, c13_1]
    refine aj_goto (tgt := 31) dX10_highest_22 (by decide) ?_
    refine aj_iadd (q := 32) dX10_highest_31 rfl ?_
    try simp (decide := true) only [sw_eq, sw_ne, ne_eq, Nat.reduceEqDiff, not_false_eq_true, nI_pred, nI_1, gPay_ne, c13_1]
    refine aj_ireturn dX10_highest_32 rfl ?_
    rw [hOf_in hs, hOf_in ht] at hQ
    first | (rw [imax_le (by assumption)] at hQ; exact hQ) | (rw [imax_gt (by assumption)] at hQ; exact hQ)
theorem band2 {a b : Bool} (h : (a && b) = true) : a = true ∧ b = true := by simpa using h
theorem fit_2 {S : Sx} {t a b c : Int32} (hf : oFit S t a b c = true) : (t = 12 → inb a (S 1706 0) = true ∧ inb b (S 1706 0) = true) ∧ (t = 13 → inb b (S 1706 0) = true ∧ inb c (S 1706 0) = true) ∧ (t = 14 → inb b (S 1706 0) = true) ∧ (t = 18 → inb a (S 1706 0) = true ∧ inb c (S 1706 0) = true) ∧ (t = 19 → inb a (S 1706 0) = true ∧ inb b (S 1706 0) = true) ∧ (t = 20 → inb b (S 1706 0) = true) := by
  refine ⟨?_, ?_, ?_, ?_, ?_, ?_⟩ <;> rintro rfl <;> simp (decide := true) only [oFit, ↓reduceIte, Bool.and_eq_true] at hf <;> simp only [hf, and_self]
theorem imax_self {x : Int32} : imax x x = x := by unfold imax; split <;> rfl
set_option maxRecDepth 4000 in
theorem sp_X10_heightOf {d : Nat} {S : Sx} {Q : Option Value → Sx → Prop} {t a b c : Int32} {k : Nat} (hk : S 1 0 = nI k) (hk2 : k ≤ 120) (hf : oFit (mP S) t a b c = true) (hQ : Q (some (.int (hWith (mP S) t a b c))) (S)) : CC (d + 1) kX10_heightOf layM [.ref 0, .int t, .int a, .int b, .int c] S Q := by
  refine cc_intro [some _, some _, some _, some _, some _] (by decide) (cc_cat (by rfl)) (Nat.le_of_ble_eq_true rfl) (cc_ls (by rfl)) ?_
  refine aj_iload_n (q := 1) (i := 1) dX10_heightOf_0 rfl rfl rfl ?_
  refine aj_tsn (fun x1 ex1 => ?_)
  by_cases e1_12 : x1 = 12
  · refine aj_tsIn (tgt := 52) (off := 51) dX10_heightOf_1 (by rw [e1_12]; decide) (by rw [e1_12]; decide) (by rw [e1_12]; rfl) (by decide) ?_
    refine aj_aload_n (q := 53) (i := 0) dX10_heightOf_52 rfl rfl rfl ?_
    refine aj_iload_n (q := 54) (i := 2) dX10_heightOf_53 rfl rfl rfl ?_
    refine aj_iload_n (q := 55) (i := 3) dX10_heightOf_54 rfl rfl rfl ?_
    refine aj_callV (q := 58) (As := [_, _]) cl_X10_94 mk_X10_highest dX10_heightOf_55 rfl lM_0 rfl rfl (Nat.le_of_ble_eq_true rfl) (sp_X10_highest hk hk2 (((fit_2 hf).1 (ex1 ▸ e1_12)).1) (((fit_2 hf).1 (ex1 ▸ e1_12)).2) ?_)
    refine aj_ireturn dX10_heightOf_58 rfl ?_
    skip; subst ex1
    first | contradiction | with_reducible exact hQ | (simp (decide := true) only [hWith, ↓reduceIte, imax_self, e1_12] at hQ; with_reducible exact hQ) | (simp (decide := true) only [hWith, ↓reduceIte, imax_self, e1_12] at hQ ⊢; with_reducible exact hQ)
  by_cases e1_13 : x1 = 13
  · refine aj_tsIn (tgt := 59) (off := 58) dX10_heightOf_1 (by rw [e1_13]; decide) (by rw [e1_13]; decide) (by rw [e1_13]; rfl) (by decide) ?_
    refine aj_aload_n (q := 60) (i := 0) dX10_heightOf_59 rfl rfl rfl ?_
    refine aj_iload_n (q := 61) (i := 3) dX10_heightOf_60 rfl rfl rfl ?_
    refine aj_iload (q := 63) (i := 4) dX10_heightOf_61 rfl rfl ?_
    refine aj_callV (q := 66) (As := [_, _]) cl_X10_94 mk_X10_highest dX10_heightOf_63 rfl lM_0 rfl rfl (Nat.le_of_ble_eq_true rfl) (sp_X10_highest hk hk2 (((fit_2 hf).2.1 (ex1 ▸ e1_13)).1) (((fit_2 hf).2.1 (ex1 ▸ e1_13)).2) ?_)
    refine aj_ireturn dX10_heightOf_66 rfl ?_
    skip; subst ex1
    first | contradiction | with_reducible exact hQ | (simp (decide := true) only [hWith, ↓reduceIte, imax_self, e1_13] at hQ; with_reducible exact hQ) | (simp (decide := true) only [hWith, ↓reduceIte, imax_self, e1_13] at hQ ⊢; with_reducible exact hQ)
  by_cases e1_14 : x1 = 14
  · refine aj_tsIn (tgt := 67) (off := 66) dX10_heightOf_1 (by rw [e1_14]; decide) (by rw [e1_14]; decide) (by rw [e1_14]; rfl) (by decide) ?_
    refine aj_aload_n (q := 68) (i := 0) dX10_heightOf_67 rfl rfl rfl ?_
    refine aj_iload_n (q := 69) (i := 3) dX10_heightOf_68 rfl rfl rfl ?_
    refine aj_iload_n (q := 70) (i := 3) dX10_heightOf_69 rfl rfl rfl ?_
    refine aj_callV (q := 73) (As := [_, _]) cl_X10_94 mk_X10_highest dX10_heightOf_70 rfl lM_0 rfl rfl (Nat.le_of_ble_eq_true rfl) (sp_X10_highest hk hk2 (((fit_2 hf).2.2.1 (ex1 ▸ e1_14))) (((fit_2 hf).2.2.1 (ex1 ▸ e1_14))) ?_)
    refine aj_ireturn dX10_heightOf_73 rfl ?_
    skip; subst ex1
    first | contradiction | with_reducible exact hQ | (simp (decide := true) only [hWith, ↓reduceIte, imax_self, e1_14] at hQ; with_reducible exact hQ) | (simp (decide := true) only [hWith, ↓reduceIte, imax_self, e1_14] at hQ ⊢; with_reducible exact hQ)
  by_cases e1_18 : x1 = 18
  · refine aj_tsIn (tgt := 74) (off := 73) dX10_heightOf_1 (by rw [e1_18]; decide) (by rw [e1_18]; decide) (by rw [e1_18]; rfl) (by decide) ?_
    refine aj_aload_n (q := 75) (i := 0) dX10_heightOf_74 rfl rfl rfl ?_
    refine aj_iload_n (q := 76) (i := 2) dX10_heightOf_75 rfl rfl rfl ?_
    refine aj_iload (q := 78) (i := 4) dX10_heightOf_76 rfl rfl ?_
    refine aj_callV (q := 81) (As := [_, _]) cl_X10_94 mk_X10_highest dX10_heightOf_78 rfl lM_0 rfl rfl (Nat.le_of_ble_eq_true rfl) (sp_X10_highest hk hk2 (((fit_2 hf).2.2.2.1 (ex1 ▸ e1_18)).1) (((fit_2 hf).2.2.2.1 (ex1 ▸ e1_18)).2) ?_)
    refine aj_ireturn dX10_heightOf_81 rfl ?_
    skip; subst ex1
    first | contradiction | with_reducible exact hQ | (simp (decide := true) only [hWith, ↓reduceIte, imax_self, e1_18] at hQ; with_reducible exact hQ) | (simp (decide := true) only [hWith, ↓reduceIte, imax_self, e1_18] at hQ ⊢; with_reducible exact hQ)
  by_cases e1_19 : x1 = 19
  · refine aj_tsIn (tgt := 82) (off := 81) dX10_heightOf_1 (by rw [e1_19]; decide) (by rw [e1_19]; decide) (by rw [e1_19]; rfl) (by decide) ?_
    refine aj_aload_n (q := 83) (i := 0) dX10_heightOf_82 rfl rfl rfl ?_
    refine aj_iload_n (q := 84) (i := 2) dX10_heightOf_83 rfl rfl rfl ?_
    refine aj_iload_n (q := 85) (i := 3) dX10_heightOf_84 rfl rfl rfl ?_
    refine aj_callV (q := 88) (As := [_, _]) cl_X10_94 mk_X10_highest dX10_heightOf_85 rfl lM_0 rfl rfl (Nat.le_of_ble_eq_true rfl) (sp_X10_highest hk hk2 (((fit_2 hf).2.2.2.2.1 (ex1 ▸ e1_19)).1) (((fit_2 hf).2.2.2.2.1 (ex1 ▸ e1_19)).2) ?_)
    refine aj_ireturn dX10_heightOf_88 rfl ?_
    skip; subst ex1
    first | contradiction | with_reducible exact hQ | (simp (decide := true) only [hWith, ↓reduceIte, imax_self, e1_19] at hQ; with_reducible exact hQ) | (simp (decide := true) only [hWith, ↓reduceIte, imax_self, e1_19] at hQ ⊢; with_reducible exact hQ)
  by_cases e1_20 : x1 = 20
  · refine aj_tsIn (tgt := 89) (off := 88) dX10_heightOf_1 (by rw [e1_20]; decide) (by rw [e1_20]; decide) (by rw [e1_20]; rfl) (by decide) ?_
    refine aj_aload_n (q := 90) (i := 0) dX10_heightOf_89 rfl rfl rfl ?_
    refine aj_iload_n (q := 91) (i := 3) dX10_heightOf_90 rfl rfl rfl ?_
    refine aj_iload_n (q := 92) (i := 3) dX10_heightOf_91 rfl rfl rfl ?_
    refine aj_callV (q := 95) (As := [_, _]) cl_X10_94 mk_X10_highest dX10_heightOf_92 rfl lM_0 rfl rfl (Nat.le_of_ble_eq_true rfl) (sp_X10_highest hk hk2 (((fit_2 hf).2.2.2.2.2 (ex1 ▸ e1_20))) (((fit_2 hf).2.2.2.2.2 (ex1 ▸ e1_20))) ?_)
    refine aj_ireturn dX10_heightOf_95 rfl ?_
    skip; subst ex1
    first | contradiction | with_reducible exact hQ | (simp (decide := true) only [hWith, ↓reduceIte, imax_self, e1_20] at hQ; with_reducible exact hQ) | (simp (decide := true) only [hWith, ↓reduceIte, imax_self, e1_20] at hQ ⊢; with_reducible exact hQ)
  by_cases e1_15 : x1 = 15
  · refine aj_tsIn (tgt := 96) (off := 95) dX10_heightOf_1 (by rw [e1_15]; decide) (by rw [e1_15]; decide) (by rw [e1_15]; rfl) (by decide) ?_
    refine aj_iconst (q := 97) (v := 1) dX10_heightOf_96 rfl (by decide) ?_
    refine aj_ireturn dX10_heightOf_97 rfl ?_
    skip; subst ex1
    first | contradiction | with_reducible exact hQ | (simp (decide := true) only [hWith, ↓reduceIte, imax_self, e1_15] at hQ; with_reducible exact hQ) | (simp (decide := true) only [hWith, ↓reduceIte, imax_self, e1_15] at hQ ⊢; with_reducible exact hQ)
  by_cases e1_16 : x1 = 16
  · refine aj_tsIn (tgt := 96) (off := 95) dX10_heightOf_1 (by rw [e1_16]; decide) (by rw [e1_16]; decide) (by rw [e1_16]; rfl) (by decide) ?_
    refine aj_iconst (q := 97) (v := 1) dX10_heightOf_96 rfl (by decide) ?_
    refine aj_ireturn dX10_heightOf_97 rfl ?_
    skip; subst ex1
    first | contradiction | with_reducible exact hQ | (simp (decide := true) only [hWith, ↓reduceIte, imax_self, e1_16] at hQ; with_reducible exact hQ) | (simp (decide := true) only [hWith, ↓reduceIte, imax_self, e1_16] at hQ ⊢; with_reducible exact hQ)
  by_cases e1_17 : x1 = 17
  · refine aj_tsIn (tgt := 96) (off := 95) dX10_heightOf_1 (by rw [e1_17]; decide) (by rw [e1_17]; decide) (by rw [e1_17]; rfl) (by decide) ?_
    refine aj_iconst (q := 97) (v := 1) dX10_heightOf_96 rfl (by decide) ?_
    refine aj_ireturn dX10_heightOf_97 rfl ?_
    skip; subst ex1
    first | contradiction | with_reducible exact hQ | (simp (decide := true) only [hWith, ↓reduceIte, imax_self, e1_17] at hQ; with_reducible exact hQ) | (simp (decide := true) only [hWith, ↓reduceIte, imax_self, e1_17] at hQ ⊢; with_reducible exact hQ)
  refine aj_tsOut (tgt := 96) dX10_heightOf_1 (by have := And.intro trivial trivial; have z0 := lv_neT (a := 12) e1_12 rfl; have z1 := lv_neT (a := 13) e1_13 rfl; have z2 := lv_neT (a := 14) e1_14 rfl; have z3 := lv_neT (a := 15) e1_15 rfl; have z4 := lv_neT (a := 16) e1_16 rfl; have z5 := lv_neT (a := 17) e1_17 rfl; have z6 := lv_neT (a := 18) e1_18 rfl; have z7 := lv_neT (a := 19) e1_19 rfl; have z8 := lv_neT (a := 20) e1_20 rfl; omega) (by decide) ?_
  refine aj_iconst (q := 97) (v := 1) dX10_heightOf_96 rfl (by decide) ?_
  refine aj_ireturn dX10_heightOf_97 rfl ?_
  skip; subst ex1
  first | contradiction | with_reducible exact hQ | (simp (decide := true) only [hWith, ↓reduceIte, imax_self, e1_12, e1_13, e1_14, e1_15, e1_16, e1_17, e1_18, e1_19, e1_20] at hQ; with_reducible exact hQ) | (simp (decide := true) only [hWith, ↓reduceIte, imax_self, e1_12, e1_13, e1_14, e1_15, e1_16, e1_17, e1_18, e1_19, e1_20] at hQ ⊢; with_reducible exact hQ)
theorem sp_isRight0 {d : Nat} {S : Sx} {Q : Option Value → Sx → Prop} {t a b c : Int32} (hQ : Q (some (.int (bi (oFit (mP S) t a b c)))) (sw S 0 0 0)) : CC (d + 2) kX10_isRight layM [.ref 0, .int t, .int a, .int b, .int c] (sw S 0 0 0) Q := sp_X10_isRight (by rw [mP_0]; exact hQ)
theorem sp_heightOf0 {d : Nat} {S : Sx} {Q : Option Value → Sx → Prop} {t a b c : Int32} {k : Nat} (hk : S 1 0 = nI k) (hk2 : k ≤ 120) (hf : oFit (mP S) t a b c = true) (hQ : Q (some (.int (hWith (mP S) t a b c))) (sw S 0 0 0)) : CC (d + 1) kX10_heightOf layM [.ref 0, .int t, .int a, .int b, .int c] (sw S 0 0 0) Q := sp_X10_heightOf (k := k) hk hk2 (by rw [mP_0]; exact hf) (by rw [mP_0]; exact hQ)
def gAdd4M (M : Sx) (k : Nat) (t a b c : Int32) : Sx := sw (sw (sw (sw (sw M 0 0 0) 100 k t) 200 k a) 300 k b) 400 k c
theorem mP_4 {M : Sx} {k : Nat} {t a b c : Int32} : mP (gAdd4M M k t a b c) = mP M := by
  rw [gAdd4M, mP_w (by omega), mP_w (by omega), mP_w (by omega), mP_w (by omega), mP_0]
theorem sp_heightOf4 {d : Nat} {S : Sx} {Q : Option Value → Sx → Prop} {t a b c : Int32} {k : Nat} (hk : S 1 0 = nI k) (hk2 : k ≤ 120) (hf : oFit (mP S) t a b c = true) (hQ : Q (some (.int (hWith (mP S) t a b c))) (gAdd4M S k t a b c)) : CC (d + 1) kX10_heightOf layM [.ref 0, .int t, .int a, .int b, .int c] (gAdd4M S k t a b c) Q := sp_X10_heightOf (k := k) hk hk2 (by rw [mP_4]; exact hf) (by rw [mP_4]; exact hQ)
def gAddM (M : Sx) (k : Nat) (t a b c : Int32) : Sx := sw (sw (gAdd4M M k t a b c) 500 k (hWith (mP M) t a b c)) 1 0 (nI (k + 1))
theorem takes_1 {S : Sx} {t a b c : Int32} (h : gTakes S t a b c = true) : oFit S t a b c = true ∧ ¬ 16 < hWith S t a b c ∧ ¬ t < 0 ∧ ¬ 21 < t := by
  have hf : oFit S t a b c = true := by
    cases q : oFit S t a b c with
    | true => rfl
    | false => simp [gTakes, q] at h
  refine ⟨hf, fun q => ?_, fun q => ?_, fun q => ?_⟩
  · simp [gTakes, q] at h
  · rw [oFit_out (Or.inl q)] at hf; cases hf
  · rw [oFit_out (Or.inr q)] at hf; cases hf
theorem sp_X10_make {d : Nat} {S : Sx} {Q : Option Value → Sx → Prop} {t a b c : Int32} {k : Nat} (hk : S 1 0 = nI k) (hk3 : k < 120) (hT : gTakes (mP S) t a b c = true) (hQ : Q (some (.int (nI k))) (gAddM S k t a b c)) : CC (d + 3) kX10_make layM [.ref 0, .int t, .int a, .int b, .int c] S Q := by
  have ⟨hf, hh, ht0, ht1⟩ := takes_1 hT
  have hk2 : k ≤ 120 := by omega
  refine cc_intro [some _, some _, some _, some _, some _] (by decide) (cc_cat (by rfl)) (Nat.le_of_ble_eq_true rfl) (cc_ls (by rfl)) ?_
  refine aj_aload_n (q := 1) (i := 0) dX10_make_0 rfl rfl rfl ?_
  refine aj_iconst (q := 2) (v := 0) dX10_make_1 rfl (by decide) ?_
  refine aj_putI (q := 5) (f := 0) okM fp_X10_1 dX10_make_2 rfl lM_0 rfl rfl ?_
  refine aj_iload_n (q := 6) (i := 1) dX10_make_5 rfl rfl rfl ?_
  refine aj_if_lt (q := 9) (tgt := 41) dX10_make_6 rfl (by decide) (fun c => absurd c ht0) (fun _ => ?_)
  refine aj_iload_n (q := 10) (i := 1) dX10_make_9 rfl rfl rfl ?_
  refine aj_bipush (q := 12) (v := 21) dX10_make_10 rfl (by decide) ?_
  refine aj_icmp_gt (q := 15) (tgt := 41) dX10_make_12 rfl (by decide) (fun c => absurd c ht1) (fun _ => ?_)
  refine aj_aload_n (q := 16) (i := 0) dX10_make_15 rfl rfl rfl ?_
  refine aj_iload_n (q := 17) (i := 1) dX10_make_16 rfl rfl rfl ?_
  refine aj_iload_n (q := 18) (i := 2) dX10_make_17 rfl rfl rfl ?_
  refine aj_iload_n (q := 19) (i := 3) dX10_make_18 rfl rfl rfl ?_
  refine aj_iload (q := 21) (i := 4) dX10_make_19 rfl rfl ?_
  refine aj_callV (q := 24) (As := [_, _, _, _]) cl_X10_98 mk_X10_isRight dX10_make_21 rfl lM_0 rfl rfl (Nat.le_of_ble_eq_true rfl) (sp_isRight0 ?_)
  refine aj_ifB_eq (q := 27) (tgt := 41) dX10_make_24 rfl (by decide) (fun c => absurd (hf.symm.trans c) (by decide)) (fun _ => ?_)
  refine aj_aload_n (q := 28) (i := 0) dX10_make_27 rfl rfl rfl ?_
  refine aj_iload_n (q := 29) (i := 1) dX10_make_28 rfl rfl rfl ?_
  refine aj_iload_n (q := 30) (i := 2) dX10_make_29 rfl rfl rfl ?_
  refine aj_iload_n (q := 31) (i := 3) dX10_make_30 rfl rfl rfl ?_
  refine aj_iload (q := 33) (i := 4) dX10_make_31 rfl rfl ?_
  refine aj_callV (q := 36) (As := [_, _, _, _]) cl_X10_102 mk_X10_heightOf dX10_make_33 rfl lM_0 rfl rfl (Nat.le_of_ble_eq_true rfl) (sp_heightOf0 hk hk2 (by assumption) ?_)
  refine aj_bipush (q := 38) (v := 16) dX10_make_36 rfl (by decide) ?_
  refine aj_icmp_le (q := 41) (tgt := 44) dX10_make_38 rfl (by decide) (fun _ => ?_) (fun c => absurd (Int32.not_lt.mp hh) c)
  refine aj_aload_n (q := 45) (i := 0) dX10_make_44 rfl rfl rfl ?_
  refine aj_getI (q := 48) (f := 1) fl_X10_83 dX10_make_45 rfl lM_0 rfl rfl ?_
  try simp (decide := true) only [sw_eq, sw_ne, ne_eq, Nat.reduceEqDiff, not_false_eq_true, nI_pred, nI_1, gPay_ne, hk, cl k]
  refine aj_bipush (q := 50) (v := 120) dX10_make_48 rfl (by decide) ?_
  refine aj_icmp_ne (q := 53) (tgt := 56) dX10_make_50 rfl (by decide) (fun _ => ?_) (fun c => absurd (show nI k = nI 120 from c) (fun q => by have := congrArg Int32.toNatClampNeg q; rw [cl k, cl 120] at this; omega))
  refine aj_aload_n (q := 57) (i := 0) dX10_make_56 rfl rfl rfl ?_
  refine aj_getR (q := 60) fl_X10_13 dX10_make_57 rfl lM_0 rfl ?_
  refine aj_aload_n (q := 61) (i := 0) dX10_make_60 rfl rfl rfl ?_
  refine aj_getI (q := 64) (f := 1) fl_X10_83 dX10_make_61 rfl lM_0 rfl rfl ?_
  try simp (decide := true) only [sw_eq, sw_ne, ne_eq, Nat.reduceEqDiff, not_false_eq_true, nI_pred, nI_1, gPay_ne, hk, cl k]
  refine aj_iload_n (q := 65) (i := 1) dX10_make_64 rfl rfl rfl ?_
  refine aj_iastore (q := 66) (f := 100) okM dX10_make_65 rfl lM_1 rfl (vp_in_nI (by omega) (by omega)) ?_
  refine aj_aload_n (q := 67) (i := 0) dX10_make_66 rfl rfl rfl ?_
  refine aj_getR (q := 70) fl_X10_17 dX10_make_67 rfl lM_0 rfl ?_
  refine aj_aload_n (q := 71) (i := 0) dX10_make_70 rfl rfl rfl ?_
  refine aj_getI (q := 74) (f := 1) fl_X10_83 dX10_make_71 rfl lM_0 rfl rfl ?_
  try simp (decide := true) only [sw_eq, sw_ne, ne_eq, Nat.reduceEqDiff, not_false_eq_true, nI_pred, nI_1, gPay_ne, hk, cl k]
  refine aj_iload_n (q := 75) (i := 2) dX10_make_74 rfl rfl rfl ?_
  refine aj_iastore (q := 76) (f := 200) okM dX10_make_75 rfl lM_2 rfl (vp_in_nI (by omega) (by omega)) ?_
  refine aj_aload_n (q := 77) (i := 0) dX10_make_76 rfl rfl rfl ?_
  refine aj_getR (q := 80) fl_X10_20 dX10_make_77 rfl lM_0 rfl ?_
  refine aj_aload_n (q := 81) (i := 0) dX10_make_80 rfl rfl rfl ?_
  refine aj_getI (q := 84) (f := 1) fl_X10_83 dX10_make_81 rfl lM_0 rfl rfl ?_
  try simp (decide := true) only [sw_eq, sw_ne, ne_eq, Nat.reduceEqDiff, not_false_eq_true, nI_pred, nI_1, gPay_ne, hk, cl k]
  refine aj_iload_n (q := 85) (i := 3) dX10_make_84 rfl rfl rfl ?_
  refine aj_iastore (q := 86) (f := 300) okM dX10_make_85 rfl lM_3 rfl (vp_in_nI (by omega) (by omega)) ?_
  refine aj_aload_n (q := 87) (i := 0) dX10_make_86 rfl rfl rfl ?_
  refine aj_getR (q := 90) fl_X10_23 dX10_make_87 rfl lM_0 rfl ?_
  refine aj_aload_n (q := 91) (i := 0) dX10_make_90 rfl rfl rfl ?_
  refine aj_getI (q := 94) (f := 1) fl_X10_83 dX10_make_91 rfl lM_0 rfl rfl ?_
  try simp (decide := true) only [sw_eq, sw_ne, ne_eq, Nat.reduceEqDiff, not_false_eq_true, nI_pred, nI_1, gPay_ne, hk, cl k]
  refine aj_iload (q := 96) (i := 4) dX10_make_94 rfl rfl ?_
  refine aj_iastore (q := 97) (f := 400) okM dX10_make_96 rfl lM_4 rfl (vp_in_nI (by omega) (by omega)) ?_
  refine aj_aload_n (q := 98) (i := 0) dX10_make_97 rfl rfl rfl ?_
  refine aj_getR (q := 101) fl_X10_26 dX10_make_98 rfl lM_0 rfl ?_
  refine aj_aload_n (q := 102) (i := 0) dX10_make_101 rfl rfl rfl ?_
  refine aj_getI (q := 105) (f := 1) fl_X10_83 dX10_make_102 rfl lM_0 rfl rfl ?_
  try simp (decide := true) only [sw_eq, sw_ne, ne_eq, Nat.reduceEqDiff, not_false_eq_true, nI_pred, nI_1, gPay_ne, hk, cl k]
  show AJ _ _ _ _ _ _ (gAdd4M S k t a b c) _
  refine aj_aload_n (q := 106) (i := 0) dX10_make_105 rfl rfl rfl ?_
  refine aj_iload_n (q := 107) (i := 1) dX10_make_106 rfl rfl rfl ?_
  refine aj_iload_n (q := 108) (i := 2) dX10_make_107 rfl rfl rfl ?_
  refine aj_iload_n (q := 109) (i := 3) dX10_make_108 rfl rfl rfl ?_
  refine aj_iload (q := 111) (i := 4) dX10_make_109 rfl rfl ?_
  refine aj_callV (q := 114) (As := [_, _, _, _]) cl_X10_102 mk_X10_heightOf dX10_make_111 rfl lM_0 rfl rfl (Nat.le_of_ble_eq_true rfl) (sp_heightOf4 hk hk2 hf ?_)
  refine aj_iastore (q := 115) (f := 500) okM dX10_make_114 rfl lM_5 rfl (vp_in_nI (by omega) (by omega)) ?_
  refine aj_aload_n (q := 116) (i := 0) dX10_make_115 rfl rfl rfl ?_
  refine aj_dup (q := 117) dX10_make_116 rfl rfl ?_
  refine aj_getI (q := 120) (f := 1) fl_X10_83 dX10_make_117 rfl lM_0 rfl rfl ?_
  try simp (decide := true) only [sw_eq, sw_ne, ne_eq, Nat.reduceEqDiff, not_false_eq_true, nI_pred, nI_1, gPay_ne, hk, cl k]
  refine aj_iconst (q := 121) (v := 1) dX10_make_120 rfl (by decide) ?_
  refine aj_iadd (q := 122) dX10_make_121 rfl ?_
  try simp (decide := true) only [sw_eq, sw_ne, ne_eq, Nat.reduceEqDiff, not_false_eq_true, nI_pred, nI_1, gPay_ne, hk, cl k]
  refine aj_putI (q := 125) (f := 1) okM fp_X10_83 dX10_make_122 rfl lM_0 rfl rfl ?_
  refine aj_aload_n (q := 126) (i := 0) dX10_make_125 rfl rfl rfl ?_
  refine aj_getI (q := 129) (f := 1) fl_X10_83 dX10_make_126 rfl lM_0 rfl rfl ?_
  try simp (decide := true) only [sw_eq, sw_ne, ne_eq, Nat.reduceEqDiff, not_false_eq_true, nI_pred, nI_1, gPay_ne, hk, cl k]
  refine aj_iconst (q := 130) (v := 1) dX10_make_129 rfl (by decide) ?_
  refine aj_isub (q := 131) dX10_make_130 rfl ?_
  try simp (decide := true) only [sw_eq, sw_ne, ne_eq, Nat.reduceEqDiff, not_false_eq_true, nI_pred, nI_1, gPay_ne, hk, cl k]
  refine aj_ireturn dX10_make_131 rfl ?_
  have e9 : gAdd4M S k t a b c 1 0 = nI k := hk
  simp only [e9, nI_1, nI_pred]
  exact hQ
theorem sp_X10_make_full {d : Nat} {S : Sx} {Q : Option Value → Sx → Prop} {t a b c : Int32}  (hk : S 1 0 = nI 120) (hT : gTakes (mP S) t a b c = true) (hQ : Q (some (.int (-3))) (sw S 0 0 0)) : CC (d + 3) kX10_make layM [.ref 0, .int t, .int a, .int b, .int c] S Q := by
  have ⟨hf, hh, ht0, ht1⟩ := takes_1 hT
  have hk2 : 120 ≤ 120 := Nat.le_refl _
  refine cc_intro [some _, some _, some _, some _, some _] (by decide) (cc_cat (by rfl)) (Nat.le_of_ble_eq_true rfl) (cc_ls (by rfl)) ?_
  refine aj_aload_n (q := 1) (i := 0) dX10_make_0 rfl rfl rfl ?_
  refine aj_iconst (q := 2) (v := 0) dX10_make_1 rfl (by decide) ?_
  refine aj_putI (q := 5) (f := 0) okM fp_X10_1 dX10_make_2 rfl lM_0 rfl rfl ?_
  refine aj_iload_n (q := 6) (i := 1) dX10_make_5 rfl rfl rfl ?_
  refine aj_if_lt (q := 9) (tgt := 41) dX10_make_6 rfl (by decide) (fun c => absurd c ht0) (fun _ => ?_)
  refine aj_iload_n (q := 10) (i := 1) dX10_make_9 rfl rfl rfl ?_
  refine aj_bipush (q := 12) (v := 21) dX10_make_10 rfl (by decide) ?_
  refine aj_icmp_gt (q := 15) (tgt := 41) dX10_make_12 rfl (by decide) (fun c => absurd c ht1) (fun _ => ?_)
  refine aj_aload_n (q := 16) (i := 0) dX10_make_15 rfl rfl rfl ?_
  refine aj_iload_n (q := 17) (i := 1) dX10_make_16 rfl rfl rfl ?_
  refine aj_iload_n (q := 18) (i := 2) dX10_make_17 rfl rfl rfl ?_
  refine aj_iload_n (q := 19) (i := 3) dX10_make_18 rfl rfl rfl ?_
  refine aj_iload (q := 21) (i := 4) dX10_make_19 rfl rfl ?_
  refine aj_callV (q := 24) (As := [_, _, _, _]) cl_X10_98 mk_X10_isRight dX10_make_21 rfl lM_0 rfl rfl (Nat.le_of_ble_eq_true rfl) (sp_isRight0 ?_)
  refine aj_ifB_eq (q := 27) (tgt := 41) dX10_make_24 rfl (by decide) (fun c => absurd (hf.symm.trans c) (by decide)) (fun _ => ?_)
  refine aj_aload_n (q := 28) (i := 0) dX10_make_27 rfl rfl rfl ?_
  refine aj_iload_n (q := 29) (i := 1) dX10_make_28 rfl rfl rfl ?_
  refine aj_iload_n (q := 30) (i := 2) dX10_make_29 rfl rfl rfl ?_
  refine aj_iload_n (q := 31) (i := 3) dX10_make_30 rfl rfl rfl ?_
  refine aj_iload (q := 33) (i := 4) dX10_make_31 rfl rfl ?_
  refine aj_callV (q := 36) (As := [_, _, _, _]) cl_X10_102 mk_X10_heightOf dX10_make_33 rfl lM_0 rfl rfl (Nat.le_of_ble_eq_true rfl) (sp_heightOf0 hk hk2 (by assumption) ?_)
  refine aj_bipush (q := 38) (v := 16) dX10_make_36 rfl (by decide) ?_
  refine aj_icmp_le (q := 41) (tgt := 44) dX10_make_38 rfl (by decide) (fun _ => ?_) (fun c => absurd (Int32.not_lt.mp hh) c)
  refine aj_aload_n (q := 45) (i := 0) dX10_make_44 rfl rfl rfl ?_
  refine aj_getI (q := 48) (f := 1) fl_X10_83 dX10_make_45 rfl lM_0 rfl rfl ?_
  try simp (decide := true) only [sw_eq, sw_ne, ne_eq, Nat.reduceEqDiff, not_false_eq_true, nI_pred, nI_1, gPay_ne, hk]
  refine aj_bipush (q := 50) (v := 120) dX10_make_48 rfl (by decide) ?_
  refine aj_icmp_ne (q := 53) (tgt := 56) dX10_make_50 rfl (by decide) (fun c => absurd (show nI 120 = 120 by decide) c) (fun _ => ?_)
  refine aj_bipush (q := 55) (v := (-3)) dX10_make_53 rfl (by decide) ?_
  refine aj_ireturn dX10_make_55 rfl ?_
  exact hQ
theorem sp_X10_make_no {d : Nat} {S : Sx} {Q : Option Value → Sx → Prop} {t a b c : Int32} {k : Nat} (hk : S 1 0 = nI k) (hk2 : k ≤ 120) (hT : gTakes (mP S) t a b c = false) (hQ : Q (some (.int (-2))) (sw S 0 0 0)) : CC (d + 3) kX10_make layM [.ref 0, .int t, .int a, .int b, .int c] S Q := by
  refine cc_intro [some _, some _, some _, some _, some _] (by decide) (cc_cat (by rfl)) (Nat.le_of_ble_eq_true rfl) (cc_ls (by rfl)) ?_
  refine aj_aload_n (q := 1) (i := 0) dX10_make_0 rfl rfl rfl ?_
  refine aj_iconst (q := 2) (v := 0) dX10_make_1 rfl (by decide) ?_
  refine aj_putI (q := 5) (f := 0) okM fp_X10_1 dX10_make_2 rfl lM_0 rfl rfl ?_
  refine aj_iload_n (q := 6) (i := 1) dX10_make_5 rfl rfl rfl ?_
  refine aj_if_lt (q := 9) (tgt := 41) dX10_make_6 rfl (by decide) (fun c6_1 => ?_) (fun c6_1 => ?_)
  · refine aj_bipush (q := 43) (v := (-2)) dX10_make_41 rfl (by decide) ?_
    refine aj_ireturn dX10_make_43 rfl ?_
    exact hQ
  · refine aj_iload_n (q := 10) (i := 1) dX10_make_9 rfl rfl rfl ?_
    refine aj_bipush (q := 12) (v := 21) dX10_make_10 rfl (by decide) ?_
    refine aj_icmp_gt (q := 15) (tgt := 41) dX10_make_12 rfl (by decide) (fun c12_2 => ?_) (fun c12_2 => ?_)
    · refine aj_bipush (q := 43) (v := (-2)) dX10_make_41 rfl (by decide) ?_
      refine aj_ireturn dX10_make_43 rfl ?_
      exact hQ
    · refine aj_aload_n (q := 16) (i := 0) dX10_make_15 rfl rfl rfl ?_
      refine aj_iload_n (q := 17) (i := 1) dX10_make_16 rfl rfl rfl ?_
      refine aj_iload_n (q := 18) (i := 2) dX10_make_17 rfl rfl rfl ?_
      refine aj_iload_n (q := 19) (i := 3) dX10_make_18 rfl rfl rfl ?_
      refine aj_iload (q := 21) (i := 4) dX10_make_19 rfl rfl ?_
      refine aj_callV (q := 24) (As := [_, _, _, _]) cl_X10_98 mk_X10_isRight dX10_make_21 rfl lM_0 rfl rfl (Nat.le_of_ble_eq_true rfl) (sp_isRight0 ?_)
      refine aj_ifB_eq (q := 27) (tgt := 41) dX10_make_24 rfl (by decide) (fun c24_3 => ?_) (fun c24_3 => ?_)
      · refine aj_bipush (q := 43) (v := (-2)) dX10_make_41 rfl (by decide) ?_
        refine aj_ireturn dX10_make_43 rfl ?_
        exact hQ
      · refine aj_aload_n (q := 28) (i := 0) dX10_make_27 rfl rfl rfl ?_
        refine aj_iload_n (q := 29) (i := 1) dX10_make_28 rfl rfl rfl ?_
        refine aj_iload_n (q := 30) (i := 2) dX10_make_29 rfl rfl rfl ?_
        refine aj_iload_n (q := 31) (i := 3) dX10_make_30 rfl rfl rfl ?_
        refine aj_iload (q := 33) (i := 4) dX10_make_31 rfl rfl ?_
        refine aj_callV (q := 36) (As := [_, _, _, _]) cl_X10_102 mk_X10_heightOf dX10_make_33 rfl lM_0 rfl rfl (Nat.le_of_ble_eq_true rfl) (sp_heightOf0 hk hk2 (by assumption) ?_)
        refine aj_bipush (q := 38) (v := 16) dX10_make_36 rfl (by decide) ?_
        refine aj_icmp_le (q := 41) (tgt := 44) dX10_make_38 rfl (by decide) (fun c38_4 => ?_) (fun c38_4 => ?_)
        · exact absurd hT (by rw [gTakes, if_pos (by assumption), if_neg (Int32.not_lt.mpr (by assumption))]; decide)
        · refine aj_bipush (q := 43) (v := (-2)) dX10_make_41 rfl (by decide) ?_
          refine aj_ireturn dX10_make_43 rfl ?_
          exact hQ
theorem sp_isRun0 {d : Nat} {S : Sx} {Q : Option Value → Sx → Prop} {m b : Int32} (hQ : Q (some (.int (bi (gIsRun S m b)))) (sw S 0 0 0)) : CC (d + 1) kX10_isRun layM [.ref 0, .int m, .int b] (sw S 0 0 0) Q := sp_X10_isRun hQ
theorem sp_X10_run {d : Nat} {S : Sx} {Q : Option Value → Sx → Prop} {m x b : Int32} {M1 : Sx} {e : Int32} {j : Nat} (hr : gIsRun S m b = true) (hm : vp_in m 8) (hMR : MR j (gStart (sw S 0 0 0) m x b) M1) (hend : M1 30 0 ≤ 0) (he : M1 37 0 = e) (hin : vp_in e 4) (hQ : Q (some (.int (e))) (gRunE M1 e)) : CC (d + 7) kX10_run layM [.ref 0, .int m, .int x, .int b] S Q := by
  refine cc_intro [some _, some _, some _, some _] (by decide) (cc_cat (by rfl)) (Nat.le_of_ble_eq_true rfl) (cc_ls (by rfl)) ?_
  refine aj_aload_n (q := 1) (i := 0) dX10_run_0 rfl rfl rfl ?_
  refine aj_iconst (q := 2) (v := 0) dX10_run_1 rfl (by decide) ?_
  refine aj_putI (q := 5) (f := 0) okM fp_X10_1 dX10_run_2 rfl lM_0 rfl rfl ?_
  refine aj_aload_n (q := 6) (i := 0) dX10_run_5 rfl rfl rfl ?_
  refine aj_iload_n (q := 7) (i := 1) dX10_run_6 rfl rfl rfl ?_
  refine aj_iload_n (q := 8) (i := 3) dX10_run_7 rfl rfl rfl ?_
  refine aj_callV (q := 11) (As := [_, _]) cl_X10_219 mk_X10_isRun dX10_run_8 rfl lM_0 rfl rfl (Nat.le_of_ble_eq_true rfl) (sp_isRun0 ?_)
  refine aj_ifB_eq (q := 14) (tgt := 24) dX10_run_11 rfl (by decide) (fun c => absurd (hr.symm.trans c) (by decide)) (fun _ => ?_)
  refine aj_aload_n (q := 15) (i := 0) dX10_run_14 rfl rfl rfl ?_
  refine aj_iload_n (q := 16) (i := 1) dX10_run_15 rfl rfl rfl ?_
  refine aj_iload_n (q := 17) (i := 2) dX10_run_16 rfl rfl rfl ?_
  refine aj_iload_n (q := 18) (i := 3) dX10_run_17 rfl rfl rfl ?_
  refine aj_callV (q := 21) (As := [_, _, _]) cl_X10_222 mk_X10_runs dX10_run_18 rfl lM_0 rfl rfl (Nat.le_of_ble_eq_true rfl) (sp_X10_runs hm hMR hend he hin ?_)
  refine aj_goto (tgt := 26) dX10_run_21 (by decide) ?_
  refine aj_ireturn dX10_run_26 rfl ?_
  exact hQ
theorem sp_X10_run_no {d : Nat} {S : Sx} {Q : Option Value → Sx → Prop} {m x b : Int32}  (hr : gIsRun S m b = false) (hQ : Q (some (.int (-2))) (sw S 0 0 0)) : CC (d + 7) kX10_run layM [.ref 0, .int m, .int x, .int b] S Q := by
  refine cc_intro [some _, some _, some _, some _] (by decide) (cc_cat (by rfl)) (Nat.le_of_ble_eq_true rfl) (cc_ls (by rfl)) ?_
  refine aj_aload_n (q := 1) (i := 0) dX10_run_0 rfl rfl rfl ?_
  refine aj_iconst (q := 2) (v := 0) dX10_run_1 rfl (by decide) ?_
  refine aj_putI (q := 5) (f := 0) okM fp_X10_1 dX10_run_2 rfl lM_0 rfl rfl ?_
  refine aj_aload_n (q := 6) (i := 0) dX10_run_5 rfl rfl rfl ?_
  refine aj_iload_n (q := 7) (i := 1) dX10_run_6 rfl rfl rfl ?_
  refine aj_iload_n (q := 8) (i := 3) dX10_run_7 rfl rfl rfl ?_
  refine aj_callV (q := 11) (As := [_, _]) cl_X10_219 mk_X10_isRun dX10_run_8 rfl lM_0 rfl rfl (Nat.le_of_ble_eq_true rfl) (sp_isRun0 ?_)
  refine aj_ifB_eq (q := 14) (tgt := 24) dX10_run_11 rfl (by decide) (fun _ => ?_) (fun c => absurd (hr.symm.trans c) (by decide))
  refine aj_bipush (q := 26) (v := (-2)) dX10_run_24 rfl (by decide) ?_
  refine aj_ireturn dX10_run_26 rfl ?_
  exact hQ
