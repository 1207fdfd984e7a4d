def rf (S : Sx) (f i n : Nat) (v : Int32) : Sx := fun g j => if g = f ∧ i ≤ j ∧ j < n then v else S g j
theorem rf_z {S : Sx} {f n : Nat} {v : Int32} : rf S f n n v = S := by
  funext g j
  unfold rf
  rw [if_neg (by omega)]
theorem rf_s {S : Sx} {f i n : Nat} {v : Int32} (h : i < n) : rf (sw S f i v) f (i + 1) n v = rf S f i n v := by
  funext g j
  unfold rf sw
  by_cases h1 : g = f
  · by_cases h2 : j = i
    · rw [if_neg (by omega), if_pos h1, if_pos h2, if_pos (by omega)]
    · by_cases h3 : i + 1 ≤ j ∧ j < n
      · rw [if_pos ⟨h1, h3⟩, if_pos ⟨h1, by omega, h3.2⟩]
      · rw [if_neg (by omega), if_pos h1, if_neg h2, if_neg (by omega)]
  · rw [if_neg (by omega), if_neg h1, if_neg (by omega)]
theorem rf_0 {S : Sx} {f n : Nat} {v : Int32} : rf S f 0 n v = fil S f n v := by
  funext g j
  simp [rf, fil]
theorem rf_sw {S : Sx} {f g i j n : Nat} {v x : Int32} (h : g ≠ f) : rf (sw S g j x) f i n v = sw (rf S f i n v) g j x := by
  funext a b
  simp only [rf, sw]
  by_cases h1 : a = f
  · subst h1
    simp [Ne.symm h]
  · simp [h1]
theorem reset_1 {d : Nat} {a b : Value} {Q : Option Value → Sx → Prop} : ∀ (t i : Nat) (S : Sx), i + t = 8 → AJ d kX10_reset layM 21 [some (.ref 0), some a, some b, some (.int (nI 8))] [] (rf S 700 i 8 (0)) Q → AJ d kX10_reset layM 2 [some (.ref 0), some a, some b, some (.int (nI i))] [] S Q := by
  intro t
  induction t with
  | zero =>
    intro i S hi h
    obtain rfl : i = 8 := by omega
    refine aj_iload_n (q := 3) (i := 3) dX10_reset_2 rfl rfl rfl ?_
    refine aj_bipush (q := 5) (v := 8) dX10_reset_3 rfl (by decide) ?_
    refine aj_icmp_ge (q := 8) (tgt := 21) dX10_reset_5 rfl (by decide) (fun _ => ?_) (fun c => absurd (show (8 : Int32) ≤ nI 8 by decide) c)
    simp only [rf_z] at h
    exact h
  | succ t ih =>
    intro i S hi h
    refine aj_iload_n (q := 3) (i := 3) dX10_reset_2 rfl rfl rfl ?_
    refine aj_bipush (q := 5) (v := 8) dX10_reset_3 rfl (by decide) ?_
    refine aj_icmp_ge (q := 8) (tgt := 21) dX10_reset_5 rfl (by decide) (fun c => absurd (show nI 8 ≤ nI i from c) (nI_ge (by omega) (by omega))) (fun _ => ?_)
    refine aj_aload_n (q := 9) (i := 0) dX10_reset_8 rfl rfl rfl ?_
    refine aj_getR (q := 12) fl_X10_32 dX10_reset_9 rfl lM_0 rfl ?_
    refine aj_iload_n (q := 13) (i := 3) dX10_reset_12 rfl rfl rfl ?_
    refine aj_iconst (q := 14) (v := 0) dX10_reset_13 rfl (by decide) ?_
    refine aj_iastore (q := 15) (f := 700) okM dX10_reset_14 rfl lM_7 rfl (vp_in_nI (by omega) (by omega)) ?_
    refine aj_iinc (q := 18) (i := 3) (ls' := [_, _, _, _]) dX10_reset_15 rfl rfl (nI_1 i) (by decide) rfl ?_
    refine aj_goto (tgt := 2) dX10_reset_18 (by decide) ?_
    refine ih (i + 1) _ (by omega) ?_
    rw [cl i, rf_s (by omega)]
    exact h
theorem reset_2 {d : Nat} {a b : Value} {Q : Option Value → Sx → Prop} : ∀ (t i : Nat) (S : Sx), i + t = 4 → AJ d kX10_reset layM 48 [some (.ref 0), some a, some b, some (.int (nI 4))] [] (rf (rf S 800 i 4 (-1)) 900 i 4 (0)) Q → AJ d kX10_reset layM 23 [some (.ref 0), some a, some b, some (.int (nI i))] [] S Q := by
  intro t
  induction t with
  | zero =>
    intro i S hi h
    obtain rfl : i = 4 := by omega
    refine aj_iload_n (q := 24) (i := 3) dX10_reset_23 rfl rfl rfl ?_
    refine aj_iconst (q := 25) (v := 4) dX10_reset_24 rfl (by decide) ?_
    refine aj_icmp_ge (q := 28) (tgt := 48) dX10_reset_25 rfl (by decide) (fun _ => ?_) (fun c => absurd (show (4 : Int32) ≤ nI 4 by decide) c)
    simp only [rf_z] at h
    exact h
  | succ t ih =>
    intro i S hi h
    refine aj_iload_n (q := 24) (i := 3) dX10_reset_23 rfl rfl rfl ?_
    refine aj_iconst (q := 25) (v := 4) dX10_reset_24 rfl (by decide) ?_
    refine aj_icmp_ge (q := 28) (tgt := 48) dX10_reset_25 rfl (by decide) (fun c => absurd (show nI 4 ≤ nI i from c) (nI_ge (by omega) (by omega))) (fun _ => ?_)
    refine aj_aload_n (q := 29) (i := 0) dX10_reset_28 rfl rfl rfl ?_
    refine aj_getR (q := 32) fl_X10_35 dX10_reset_29 rfl lM_0 rfl ?_
    refine aj_iload_n (q := 33) (i := 3) dX10_reset_32 rfl rfl rfl ?_
    refine aj_iconst (q := 34) (v := (-1)) dX10_reset_33 rfl (by decide) ?_
    refine aj_iastore (q := 35) (f := 800) okM dX10_reset_34 rfl lM_8 rfl (vp_in_nI (by omega) (by omega)) ?_
    refine aj_aload_n (q := 36) (i := 0) dX10_reset_35 rfl rfl rfl ?_
    refine aj_getR (q := 39) fl_X10_38 dX10_reset_36 rfl lM_0 rfl ?_
    refine aj_iload_n (q := 40) (i := 3) dX10_reset_39 rfl rfl rfl ?_
    refine aj_iconst (q := 41) (v := 0) dX10_reset_40 rfl (by decide) ?_
    refine aj_iastore (q := 42) (f := 900) okM dX10_reset_41 rfl lM_9 rfl (vp_in_nI (by omega) (by omega)) ?_
    refine aj_iinc (q := 45) (i := 3) (ls' := [_, _, _, _]) dX10_reset_42 rfl rfl (nI_1 i) (by decide) rfl ?_
    refine aj_goto (tgt := 23) dX10_reset_45 (by decide) ?_
    refine ih (i + 1) _ (by omega) ?_
    rw [cl i, rf_sw (by decide), rf_s (by omega), rf_s (by omega)]
    exact h
theorem reset_3 {d : Nat} {a b : Value} {Q : Option Value → Sx → Prop} : ∀ (t i : Nat) (S : Sx), i + t = 5 → AJ d kX10_reset layM 68 [some (.ref 0), some a, some b, some (.int (nI 5))] [] (rf S 1300 i 5 (0)) Q → AJ d kX10_reset layM 50 [some (.ref 0), some a, some b, some (.int (nI i))] [] S Q := by
  intro t
  induction t with
  | zero =>
    intro i S hi h
    obtain rfl : i = 5 := by omega
    refine aj_iload_n (q := 51) (i := 3) dX10_reset_50 rfl rfl rfl ?_
    refine aj_iconst (q := 52) (v := 5) dX10_reset_51 rfl (by decide) ?_
    refine aj_icmp_ge (q := 55) (tgt := 68) dX10_reset_52 rfl (by decide) (fun _ => ?_) (fun c => absurd (show (5 : Int32) ≤ nI 5 by decide) c)
    simp only [rf_z] at h
    exact h
  | succ t ih =>
    intro i S hi h
    refine aj_iload_n (q := 51) (i := 3) dX10_reset_50 rfl rfl rfl ?_
    refine aj_iconst (q := 52) (v := 5) dX10_reset_51 rfl (by decide) ?_
    refine aj_icmp_ge (q := 55) (tgt := 68) dX10_reset_52 rfl (by decide) (fun c => absurd (show nI 5 ≤ nI i from c) (nI_ge (by omega) (by omega))) (fun _ => ?_)
    refine aj_aload_n (q := 56) (i := 0) dX10_reset_55 rfl rfl rfl ?_
    refine aj_getR (q := 59) fl_X10_50 dX10_reset_56 rfl lM_0 rfl ?_
    refine aj_iload_n (q := 60) (i := 3) dX10_reset_59 rfl rfl rfl ?_
    refine aj_iconst (q := 61) (v := 0) dX10_reset_60 rfl (by decide) ?_
    refine aj_iastore (q := 62) (f := 1300) okM dX10_reset_61 rfl lM_13 rfl (vp_in_nI (by omega) (by omega)) ?_
    refine aj_iinc (q := 65) (i := 3) (ls' := [_, _, _, _]) dX10_reset_62 rfl rfl (nI_1 i) (by decide) rfl ?_
    refine aj_goto (tgt := 50) dX10_reset_65 (by decide) ?_
    refine ih (i + 1) _ (by omega) ?_
    rw [cl i, rf_s (by omega)]
    exact h
def gRes0 (S : Sx) : Sx := fil (fil (fil (fil S 700 8 0) 800 4 (-1)) 900 4 0) 1300 5 0
def gReset (S : Sx) (x b : Int32) : Sx := sw (sw (sw (sw (sw (sw (sw (sw (sw (sw (sw (sw (sw (sw (sw (sw (gRes0 S) 700 0 x) 11 0 0) 14 0 0) 16 0 b) 17 0 40) 18 0 0) 19 0 0) 21 0 0) 23 0 0) 24 0 0) 25 0 0) 27 0 0) 28 0 0) 30 0 0) 36 0 0) 38 0 (-1)
theorem reset_4 {d : Nat} {x b : Int32} {z : Option Value} {S : Sx} {Q : Option Value → Sx → Prop} (hQ : Q none (gReset S x b)) : AJ d kX10_reset layM 68 [some (.ref 0), some (.int x), some (.int b), z] [] (gRes0 S) Q := by
  refine aj_aload_n (q := 69) (i := 0) dX10_reset_68 rfl rfl rfl ?_
  refine aj_getR (q := 72) fl_X10_32 dX10_reset_69 rfl lM_0 rfl ?_
  refine aj_iconst (q := 73) (v := 0) dX10_reset_72 rfl (by decide) ?_
  refine aj_iload_n (q := 74) (i := 1) dX10_reset_73 rfl rfl rfl ?_
  refine aj_iastore (q := 75) (f := 700) okM dX10_reset_74 rfl lM_7 rfl (vp_in_iff.mpr (by decide)) ?_
  refine aj_aload_n (q := 76) (i := 0) dX10_reset_75 rfl rfl rfl ?_
  refine aj_iconst (q := 77) (v := 0) dX10_reset_76 rfl (by decide) ?_
  refine aj_putI (q := 80) (f := 11) okM fp_X10_156 dX10_reset_77 rfl lM_0 rfl rfl ?_
  refine aj_aload_n (q := 81) (i := 0) dX10_reset_80 rfl rfl rfl ?_
  refine aj_iconst (q := 82) (v := 0) dX10_reset_81 rfl (by decide) ?_
  refine aj_putI (q := 85) (f := 14) okM fp_X10_159 dX10_reset_82 rfl lM_0 rfl rfl ?_
  refine aj_aload_n (q := 86) (i := 0) dX10_reset_85 rfl rfl rfl ?_
  refine aj_iload_n (q := 87) (i := 2) dX10_reset_86 rfl rfl rfl ?_
  refine aj_putI (q := 90) (f := 16) okM fp_X10_125 dX10_reset_87 rfl lM_0 rfl rfl ?_
  refine aj_aload_n (q := 91) (i := 0) dX10_reset_90 rfl rfl rfl ?_
  refine aj_bipush (q := 93) (v := 40) dX10_reset_91 rfl (by decide) ?_
  refine aj_putI (q := 96) (f := 17) okM fp_X10_128 dX10_reset_93 rfl lM_0 rfl rfl ?_
  refine aj_aload_n (q := 97) (i := 0) dX10_reset_96 rfl rfl rfl ?_
  refine aj_iconst (q := 98) (v := 0) dX10_reset_97 rfl (by decide) ?_
  refine aj_putI (q := 101) (f := 18) okM fp_X10_134 dX10_reset_98 rfl lM_0 rfl rfl ?_
  refine aj_aload_n (q := 102) (i := 0) dX10_reset_101 rfl rfl rfl ?_
  refine aj_iconst (q := 103) (v := 0) dX10_reset_102 rfl (by decide) ?_
  refine aj_putI (q := 106) (f := 19) okM fp_X10_137 dX10_reset_103 rfl lM_0 rfl rfl ?_
  refine aj_aload_n (q := 107) (i := 0) dX10_reset_106 rfl rfl rfl ?_
  refine aj_iconst (q := 108) (v := 0) dX10_reset_107 rfl (by decide) ?_
  refine aj_putI (q := 111) (f := 21) okM fp_X10_146 dX10_reset_108 rfl lM_0 rfl rfl ?_
  refine aj_aload_n (q := 112) (i := 0) dX10_reset_111 rfl rfl rfl ?_
  refine aj_iconst (q := 113) (v := 0) dX10_reset_112 rfl (by decide) ?_
  refine aj_putI (q := 116) (f := 23) okM fp_X10_168 dX10_reset_113 rfl lM_0 rfl rfl ?_
  refine aj_aload_n (q := 117) (i := 0) dX10_reset_116 rfl rfl rfl ?_
  refine aj_iconst (q := 118) (v := 0) dX10_reset_117 rfl (by decide) ?_
  refine aj_putI (q := 121) (f := 24) okM fp_X10_177 dX10_reset_118 rfl lM_0 rfl rfl ?_
  refine aj_aload_n (q := 122) (i := 0) dX10_reset_121 rfl rfl rfl ?_
  refine aj_iconst (q := 123) (v := 0) dX10_reset_122 rfl (by decide) ?_
  refine aj_putI (q := 126) (f := 25) okM fp_X10_183 dX10_reset_123 rfl lM_0 rfl rfl ?_
  refine aj_aload_n (q := 127) (i := 0) dX10_reset_126 rfl rfl rfl ?_
  refine aj_iconst (q := 128) (v := 0) dX10_reset_127 rfl (by decide) ?_
  refine aj_putI (q := 131) (f := 27) okM fp_X10_112 dX10_reset_128 rfl lM_0 rfl rfl ?_
  refine aj_aload_n (q := 132) (i := 0) dX10_reset_131 rfl rfl rfl ?_
  refine aj_iconst (q := 133) (v := 0) dX10_reset_132 rfl (by decide) ?_
  refine aj_putI (q := 136) (f := 28) okM fp_X10_115 dX10_reset_133 rfl lM_0 rfl rfl ?_
  refine aj_aload_n (q := 137) (i := 0) dX10_reset_136 rfl rfl rfl ?_
  refine aj_iconst (q := 138) (v := 0) dX10_reset_137 rfl (by decide) ?_
  refine aj_putI (q := 141) (f := 30) okM fp_X10_106 dX10_reset_138 rfl lM_0 rfl rfl ?_
  refine aj_aload_n (q := 142) (i := 0) dX10_reset_141 rfl rfl rfl ?_
  refine aj_iconst (q := 143) (v := 0) dX10_reset_142 rfl (by decide) ?_
  refine aj_putI (q := 146) (f := 36) okM fp_X10_143 dX10_reset_143 rfl lM_0 rfl rfl ?_
  refine aj_aload_n (q := 147) (i := 0) dX10_reset_146 rfl rfl rfl ?_
  refine aj_iconst (q := 148) (v := (-1)) dX10_reset_147 rfl (by decide) ?_
  refine aj_putI (q := 151) (f := 38) okM fp_X10_122 dX10_reset_148 rfl lM_0 rfl rfl ?_
  refine aj_return dX10_reset_151 rfl ?_
  exact hQ
theorem sp_X10_reset {d : Nat} {x b : Int32} {S : Sx} {Q : Option Value → Sx → Prop} (hQ : Q none (gReset S x b)) : CC d kX10_reset layM [.ref 0, .int x, .int b] S Q := by
  refine cc_intro [some _, some _, some _, none] (by decide) (cc_cat (by rfl)) (Nat.le_of_ble_eq_true rfl) (cc_ls (by rfl)) ?_
  refine aj_iconst (q := 1) (v := 0) dX10_reset_0 rfl (by decide) ?_
  refine aj_istore_n (q := 2) (i := 3) (ls' := [_, _, _, _]) dX10_reset_1 rfl rfl (by decide) rfl ?_
  refine reset_1 8 0 S (by omega) ?_
  refine aj_iconst (q := 22) (v := 0) dX10_reset_21 rfl (by decide) ?_
  refine aj_istore_n (q := 23) (i := 3) (ls' := [_, _, _, _]) dX10_reset_22 rfl rfl (by decide) rfl ?_
  refine reset_2 4 0 _ (by omega) ?_
  refine aj_iconst (q := 49) (v := 0) dX10_reset_48 rfl (by decide) ?_
  refine aj_istore_n (q := 50) (i := 3) (ls' := [_, _, _, _]) dX10_reset_49 rfl rfl (by decide) rfl ?_
  refine reset_3 5 0 _ (by omega) ?_
  simp only [rf_0]
  exact reset_4 hQ
def gIsRun (M : Sx) (m b : Int32) : Bool := if inb m 8 then (if M 600 m.toNatClampNeg = -1 then false else if b < 0 then false else if (160 : Int32) < b then false else true) else false
theorem sp_X10_isRun {d : Nat} {S : Sx} {Q : Option Value → Sx → Prop} {m b : Int32}   (hQ : Q (some (.int (bi (gIsRun S m b)))) (S)) : CC (d + 1) kX10_isRun layM [.ref 0, .int m, .int b] S Q := by
  refine cc_intro [some _, some _, some _] (by decide) (cc_cat (by rfl)) (Nat.le_of_ble_eq_true rfl) (cc_ls (by rfl)) ?_
  refine aj_iload_n (q := 1) (i := 1) dX10_isRun_0 rfl rfl rfl ?_
  refine aj_bipush (q := 3) (v := 8) dX10_isRun_1 rfl (by decide) ?_
  refine aj_callS (q := 6) (As := [_, _]) cl_X10_86 mk_X10_isIn dX10_isRun_3 rfl rfl (Nat.le_of_ble_eq_true rfl) (sp_X10_isIn ?_)
  refine aj_ifB_eq (q := 9) (tgt := 34) dX10_isRun_6 rfl (by decide) (fun c6_1 => ?_) (fun c6_1 => ?_)
  · refine aj_iconst (q := 35) (v := 0) dX10_isRun_34 rfl (by decide) ?_
    refine aj_zreturn dX10_isRun_35 rfl (by decide) ?_
    first | contradiction | with_reducible exact hQ | (simp (decide := true) only [↓reduceIte, Bool.false_eq_true, bi_t, bi_f, sw_eq, sw_ne, ne_eq, Nat.reduceEqDiff, not_false_eq_true, nI_pred, nI_1, gPay_ne, gIsRun, c6_1] at hQ ⊢; with_reducible exact hQ)
  · refine aj_aload_n (q := 10) (i := 0) dX10_isRun_9 rfl rfl rfl ?_
    refine aj_getR (q := 13) fl_X10_29 dX10_isRun_10 rfl lM_0 rfl ?_
    refine aj_iload_n (q := 14) (i := 1) dX10_isRun_13 rfl rfl rfl ?_
    refine aj_iaload (q := 15) (f := 600) dX10_isRun_14 rfl lM_6 rfl (vin (m := 8) (by decide) (by assumption)) ?_
    try simp (decide := true) only [sw_eq, sw_ne, ne_eq, Nat.reduceEqDiff, not_false_eq_true, nI_pred, nI_1, gPay_ne, c6_1]
    refine aj_iconst (q := 16) (v := (-1)) dX10_isRun_15 rfl (by decide) ?_
    refine aj_icmp_eq (q := 19) (tgt := 34) dX10_isRun_16 rfl (by decide) (fun c16_2 => ?_) (fun c16_2 => ?_)
    · refine aj_iconst (q := 35) (v := 0) dX10_isRun_34 rfl (by decide) ?_
      refine aj_zreturn dX10_isRun_35 rfl (by decide) ?_
      first | contradiction | with_reducible exact hQ | (simp (decide := true) only [↓reduceIte, Bool.false_eq_true, bi_t, bi_f, sw_eq, sw_ne, ne_eq, Nat.reduceEqDiff, not_false_eq_true, nI_pred, nI_1, gPay_ne, gIsRun, c6_1, c16_2] at hQ ⊢; with_reducible exact hQ)
    · refine aj_iload_n (q := 20) (i := 2) dX10_isRun_19 rfl rfl rfl ?_
      refine aj_if_lt (q := 23) (tgt := 34) dX10_isRun_20 rfl (by decide) (fun c20_3 => ?_) (fun c20_3 => ?_)
      · refine aj_iconst (q := 35) (v := 0) dX10_isRun_34 rfl (by decide) ?_
        refine aj_zreturn dX10_isRun_35 rfl (by decide) ?_
        first | contradiction | with_reducible exact hQ | (simp (decide := true) only [↓reduceIte, Bool.false_eq_true, bi_t, bi_f, sw_eq, sw_ne, ne_eq, Nat.reduceEqDiff, not_false_eq_true, nI_pred, nI_1, gPay_ne, gIsRun, c6_1, c16_2, c20_3] at hQ ⊢; with_reducible exact hQ)
      · refine aj_iload_n (q := 24) (i := 2) dX10_isRun_23 rfl rfl rfl ?_
        refine aj_sipush (q := 27) (v := 160) dX10_isRun_24 rfl (by decide) ?_
        refine aj_icmp_gt (q := 30) (tgt := 34) dX10_isRun_27 rfl (by decide) (fun c27_4 => ?_) (fun c27_4 => ?_)
        · refine aj_iconst (q := 35) (v := 0) dX10_isRun_34 rfl (by decide) ?_
          refine aj_zreturn dX10_isRun_35 rfl (by decide) ?_
          first | contradiction | with_reducible exact hQ | (simp (decide := true) only [↓reduceIte, Bool.false_eq_true, bi_t, bi_f, sw_eq, sw_ne, ne_eq, Nat.reduceEqDiff, not_false_eq_true, nI_pred, nI_1, gPay_ne, gIsRun, c6_1, c16_2, c20_3, c27_4] at hQ ⊢; with_reducible exact hQ)
        · refine aj_iconst (q := 31) (v := 1) dX10_isRun_30 rfl (by decide) ?_
          refine aj_goto (tgt := 35) dX10_isRun_31 (by decide) ?_
          refine aj_zreturn dX10_isRun_35 rfl (by decide) ?_
          first | contradiction | with_reducible exact hQ | (simp (decide := true) only [↓reduceIte, Bool.false_eq_true, bi_t, bi_f, sw_eq, sw_ne, ne_eq, Nat.reduceEqDiff, not_false_eq_true, nI_pred, nI_1, gPay_ne, gIsRun, c6_1, c16_2, c20_3, c27_4] at hQ ⊢; with_reducible exact hQ)
/-- the reference's loop -/
theorem runs_loop {d : Nat} {a b c : Value} {M' : Sx} {Q : Option Value → Sx → Prop} (hend : M' 30 0 ≤ 0) (hk : AJ (d + 6) kX10_runs layM 69 [some (.ref 0), some a, some b, some c] [] M' Q) : ∀ (j : Nat) (M : Sx), MR j M M' → AJ (d + 6) kX10_runs layM 40 [some (.ref 0), some a, some b, some c] [] M Q := by
  intro j
  induction j with
  | zero =>
    intro M h
    rw [MR] at h
    subst h
    refine aj_aload_n (q := 41) (i := 0) dX10_runs_40 rfl rfl rfl ?_
    refine aj_getI (q := 44) (f := 30) fl_X10_106 dX10_runs_41 rfl lM_0 rfl rfl ?_
    exact aj_if_le (q := 47) (tgt := 69) dX10_runs_44 rfl (by decide) (fun _ => hk) (fun c => absurd hend c)
  | succ j ih =>
    intro M h
    obtain ⟨M1, h1, h2, h3⟩ := h
    refine aj_aload_n (q := 41) (i := 0) dX10_runs_40 rfl rfl rfl ?_
    refine aj_getI (q := 44) (f := 30) fl_X10_106 dX10_runs_41 rfl lM_0 rfl rfl ?_
    refine aj_if_le (q := 47) (tgt := 69) dX10_runs_44 rfl (by decide) (fun c => absurd c h1) (fun _ => ?_)
    refine aj_aload_n (q := 48) (i := 0) dX10_runs_47 rfl rfl rfl ?_
    refine aj_getI (q := 51) (f := 37) fl_X10_109 dX10_runs_48 rfl lM_0 rfl rfl ?_
    refine aj_iconst (q := 52) (v := (-1)) dX10_runs_51 rfl (by decide) ?_
    refine aj_icmp_ne (q := 55) (tgt := 62) dX10_runs_52 rfl (by decide) (fun c52 => ?_) (fun c52 => ?_)
    · refine aj_aload_n (q := 63) (i := 0) dX10_runs_62 rfl rfl rfl ?_
      refine aj_callV (q := 66) (As := []) cl_X10_216 mk_X10_tell dX10_runs_63 rfl lM_0 rfl rfl (Nat.le_of_ble_eq_true rfl) ((h2 d _ ?_).2 c52)
      refine aj_goto (tgt := 40) dX10_runs_66 (by decide) ?_
      exact ih M1 h3
    · refine aj_aload_n (q := 56) (i := 0) dX10_runs_55 rfl rfl rfl ?_
      refine aj_callV (q := 59) (As := []) cl_X10_213 mk_X10_begin dX10_runs_56 rfl lM_0 rfl rfl (Nat.le_of_ble_eq_true rfl) ((h2 d _ ?_).1 c52)
      refine aj_goto (tgt := 40) dX10_runs_59 (by decide) ?_
      exact ih M1 h3
def gRunK (M : Sx) (e : Int32) : Int32 := if e = 2 then M 27 0 else 0
def gRunN (M : Sx) (e : Int32) : Int32 := if e = 2 then (if M 27 0 = 5 then M 28 0 else 0) else 0
def gRunE (M : Sx) (e : Int32) : Sx := sw (sw (sw (sw M 26 0 e) 27 0 (gRunK M e)) 28 0 (gRunN M e)) 1500 e.toNatClampNeg (M 1500 e.toNatClampNeg + 1)
theorem runs_end {d : Nat} {M : Sx} {e : Int32} {a b c : Value} {Q : Option Value → Sx → Prop} (he : M 37 0 = e) (hin : vp_in e 4) (hQ : Q (some (.int e)) (gRunE M e)) : AJ d kX10_runs layM 69 [some (.ref 0), some a, some b, some c] [] M Q := by
  refine aj_aload_n (q := 70) (i := 0) dX10_runs_69 rfl rfl rfl ?_
  refine aj_aload_n (q := 71) (i := 0) dX10_runs_70 rfl rfl rfl ?_
  refine aj_getI (q := 74) (f := 37) fl_X10_109 dX10_runs_71 rfl lM_0 rfl rfl ?_
  try simp only [sw_eq, sw_ne, ne_eq, Nat.reduceEqDiff, not_false_eq_true, he]
  refine aj_putI (q := 77) (f := 26) okM fp_X10_56 dX10_runs_74 rfl lM_0 rfl rfl ?_
  refine aj_aload_n (q := 78) (i := 0) dX10_runs_77 rfl rfl rfl ?_
  refine aj_aload_n (q := 79) (i := 0) dX10_runs_78 rfl rfl rfl ?_
  refine aj_getI (q := 82) (f := 26) fl_X10_56 dX10_runs_79 rfl lM_0 rfl rfl ?_
  try simp only [sw_eq, sw_ne, ne_eq, Nat.reduceEqDiff, not_false_eq_true, he]
  refine aj_iconst (q := 83) (v := 2) dX10_runs_82 rfl (by decide) ?_
  refine aj_icmp_ne (q := 86) (tgt := 93) dX10_runs_83 rfl (by decide) (fun c83_1 => ?_) (fun c83_1 => ?_)
  · refine aj_iconst (q := 94) (v := 0) dX10_runs_93 rfl (by decide) ?_
    refine aj_putI (q := 97) (f := 27) okM fp_X10_112 dX10_runs_94 rfl lM_0 rfl rfl ?_
    refine aj_aload_n (q := 98) (i := 0) dX10_runs_97 rfl rfl rfl ?_
    refine aj_aload_n (q := 99) (i := 0) dX10_runs_98 rfl rfl rfl ?_
    refine aj_getI (q := 102) (f := 26) fl_X10_56 dX10_runs_99 rfl lM_0 rfl rfl ?_
    try simp only [sw_eq, sw_ne, ne_eq, Nat.reduceEqDiff, not_false_eq_true, he]
    refine aj_iconst (q := 103) (v := 2) dX10_runs_102 rfl (by decide) ?_
    refine aj_icmp_ne (q := 106) (tgt := 121) dX10_runs_103 rfl (by decide) (fun c103_2 => ?_) (fun c103_2 => ?_)
    · refine aj_iconst (q := 122) (v := 0) dX10_runs_121 rfl (by decide) ?_
      refine aj_putI (q := 125) (f := 28) okM fp_X10_115 dX10_runs_122 rfl lM_0 rfl rfl ?_
      refine aj_aload_n (q := 126) (i := 0) dX10_runs_125 rfl rfl rfl ?_
      refine aj_getR (q := 129) fl_X10_59 dX10_runs_126 rfl lM_0 rfl ?_
      refine aj_aload_n (q := 130) (i := 0) dX10_runs_129 rfl rfl rfl ?_
      refine aj_getI (q := 133) (f := 26) fl_X10_56 dX10_runs_130 rfl lM_0 rfl rfl ?_
      try simp only [sw_eq, sw_ne, ne_eq, Nat.reduceEqDiff, not_false_eq_true, he]
      refine aj_dup2 (q := 134) dX10_runs_133 rfl rfl rfl ?_
      refine aj_iaload (q := 135) (f := 1500) dX10_runs_134 rfl lM_15 rfl hin ?_
      try simp only [sw_eq, sw_ne, ne_eq, Nat.reduceEqDiff, not_false_eq_true, he]
      refine aj_iconst (q := 136) (v := 1) dX10_runs_135 rfl (by decide) ?_
      refine aj_iadd (q := 137) dX10_runs_136 rfl ?_
      try simp only [sw_eq, sw_ne, ne_eq, Nat.reduceEqDiff, not_false_eq_true, he]
      refine aj_iastore (q := 138) (f := 1500) okM dX10_runs_137 rfl lM_15 rfl hin ?_
      refine aj_aload_n (q := 139) (i := 0) dX10_runs_138 rfl rfl rfl ?_
      refine aj_getI (q := 142) (f := 26) fl_X10_56 dX10_runs_139 rfl lM_0 rfl rfl ?_
      try simp only [sw_eq, sw_ne, ne_eq, Nat.reduceEqDiff, not_false_eq_true, he]
      refine aj_ireturn dX10_runs_142 rfl ?_
      first | contradiction | (simp (decide := true) only [gRunE, gRunK, gRunN, ↓reduceIte, sw_eq, sw_ne, ne_eq, Nat.reduceEqDiff, not_false_eq_true, he, c83_1, c103_2] at hQ ⊢; with_reducible exact hQ) | (subst_vars; simp_all)
    · refine aj_aload_n (q := 107) (i := 0) dX10_runs_106 rfl rfl rfl ?_
      refine aj_getI (q := 110) (f := 27) fl_X10_112 dX10_runs_107 rfl lM_0 rfl rfl ?_
      try simp only [sw_eq, sw_ne, ne_eq, Nat.reduceEqDiff, not_false_eq_true, he]
      refine aj_iconst (q := 111) (v := 5) dX10_runs_110 rfl (by decide) ?_
      refine aj_icmp_ne (q := 114) (tgt := 121) dX10_runs_111 rfl (by decide) (fun c111_3 => ?_) (fun c111_3 => ?_)
      · refine aj_iconst (q := 122) (v := 0) dX10_runs_121 rfl (by decide) ?_
        refine aj_putI (q := 125) (f := 28) okM fp_X10_115 dX10_runs_122 rfl lM_0 rfl rfl ?_
        refine aj_aload_n (q := 126) (i := 0) dX10_runs_125 rfl rfl rfl ?_
        refine aj_getR (q := 129) fl_X10_59 dX10_runs_126 rfl lM_0 rfl ?_
        refine aj_aload_n (q := 130) (i := 0) dX10_runs_129 rfl rfl rfl ?_
        refine aj_getI (q := 133) (f := 26) fl_X10_56 dX10_runs_130 rfl lM_0 rfl rfl ?_
        try simp only [sw_eq, sw_ne, ne_eq, Nat.reduceEqDiff, not_false_eq_true, he]
        refine aj_dup2 (q := 134) dX10_runs_133 rfl rfl rfl ?_
        refine aj_iaload (q := 135) (f := 1500) dX10_runs_134 rfl lM_15 rfl hin ?_
        try simp only [sw_eq, sw_ne, ne_eq, Nat.reduceEqDiff, not_false_eq_true, he]
        refine aj_iconst (q := 136) (v := 1) dX10_runs_135 rfl (by decide) ?_
        refine aj_iadd (q := 137) dX10_runs_136 rfl ?_
        try simp only [sw_eq, sw_ne, ne_eq, Nat.reduceEqDiff, not_false_eq_true, he]
        refine aj_iastore (q := 138) (f := 1500) okM dX10_runs_137 rfl lM_15 rfl hin ?_
        refine aj_aload_n (q := 139) (i := 0) dX10_runs_138 rfl rfl rfl ?_
        refine aj_getI (q := 142) (f := 26) fl_X10_56 dX10_runs_139 rfl lM_0 rfl rfl ?_
        try simp only [sw_eq, sw_ne, ne_eq, Nat.reduceEqDiff, not_false_eq_true, he]
        refine aj_ireturn dX10_runs_142 rfl ?_
        first | contradiction | (simp (decide := true) only [gRunE, gRunK, gRunN, ↓reduceIte, sw_eq, sw_ne, ne_eq, Nat.reduceEqDiff, not_false_eq_true, he, c83_1, c103_2, c111_3] at hQ ⊢; with_reducible exact hQ) | (subst_vars; simp_all)
      · refine aj_aload_n (q := 115) (i := 0) dX10_runs_114 rfl rfl rfl ?_
        refine aj_getI (q := 118) (f := 28) fl_X10_115 dX10_runs_115 rfl lM_0 rfl rfl ?_
        try simp only [sw_eq, sw_ne, ne_eq, Nat.reduceEqDiff, not_false_eq_true, he]
        refine aj_goto (tgt := 122) dX10_runs_118 (by decide) ?_
        refine aj_putI (q := 125) (f := 28) okM fp_X10_115 dX10_runs_122 rfl lM_0 rfl rfl ?_
        refine aj_aload_n (q := 126) (i := 0) dX10_runs_125 rfl rfl rfl ?_
        refine aj_getR (q := 129) fl_X10_59 dX10_runs_126 rfl lM_0 rfl ?_
        refine aj_aload_n (q := 130) (i := 0) dX10_runs_129 rfl rfl rfl ?_
        refine aj_getI (q := 133) (f := 26) fl_X10_56 dX10_runs_130 rfl lM_0 rfl rfl ?_
        try simp only [sw_eq, sw_ne, ne_eq, Nat.reduceEqDiff, not_false_eq_true, he]
        refine aj_dup2 (q := 134) dX10_runs_133 rfl rfl rfl ?_
        refine aj_iaload (q := 135) (f := 1500) dX10_runs_134 rfl lM_15 rfl hin ?_
        try simp only [sw_eq, sw_ne, ne_eq, Nat.reduceEqDiff, not_false_eq_true, he]
        refine aj_iconst (q := 136) (v := 1) dX10_runs_135 rfl (by decide) ?_
        refine aj_iadd (q := 137) dX10_runs_136 rfl ?_
        try simp only [sw_eq, sw_ne, ne_eq, Nat.reduceEqDiff, not_false_eq_true, he]
        refine aj_iastore (q := 138) (f := 1500) okM dX10_runs_137 rfl lM_15 rfl hin ?_
        refine aj_aload_n (q := 139) (i := 0) dX10_runs_138 rfl rfl rfl ?_
        refine aj_getI (q := 142) (f := 26) fl_X10_56 dX10_runs_139 rfl lM_0 rfl rfl ?_
        try simp only [sw_eq, sw_ne, ne_eq, Nat.reduceEqDiff, not_false_eq_true, he]
        refine aj_ireturn dX10_runs_142 rfl ?_
        first | contradiction | (simp (decide := true) only [gRunE, gRunK, gRunN, ↓reduceIte, sw_eq, sw_ne, ne_eq, Nat.reduceEqDiff, not_false_eq_true, he, c83_1, c103_2, c111_3] at hQ ⊢; with_reducible exact hQ) | (subst_vars; simp_all)
  · refine aj_aload_n (q := 87) (i := 0) dX10_runs_86 rfl rfl rfl ?_
    refine aj_getI (q := 90) (f := 27) fl_X10_112 dX10_runs_87 rfl lM_0 rfl rfl ?_
    try simp only [sw_eq, sw_ne, ne_eq, Nat.reduceEqDiff, not_false_eq_true, he]
    refine aj_goto (tgt := 94) dX10_runs_90 (by decide) ?_
    refine aj_putI (q := 97) (f := 27) okM fp_X10_112 dX10_runs_94 rfl lM_0 rfl rfl ?_
    refine aj_aload_n (q := 98) (i := 0) dX10_runs_97 rfl rfl rfl ?_
    refine aj_aload_n (q := 99) (i := 0) dX10_runs_98 rfl rfl rfl ?_
    refine aj_getI (q := 102) (f := 26) fl_X10_56 dX10_runs_99 rfl lM_0 rfl rfl ?_
    try simp only [sw_eq, sw_ne, ne_eq, Nat.reduceEqDiff, not_false_eq_true, he]
    refine aj_iconst (q := 103) (v := 2) dX10_runs_102 rfl (by decide) ?_
    refine aj_icmp_ne (q := 106) (tgt := 121) dX10_runs_103 rfl (by decide) (fun c103_4 => ?_) (fun c103_4 => ?_)
    · refine aj_iconst (q := 122) (v := 0) dX10_runs_121 rfl (by decide) ?_
      refine aj_putI (q := 125) (f := 28) okM fp_X10_115 dX10_runs_122 rfl lM_0 rfl rfl ?_
      refine aj_aload_n (q := 126) (i := 0) dX10_runs_125 rfl rfl rfl ?_
      refine aj_getR (q := 129) fl_X10_59 dX10_runs_126 rfl lM_0 rfl ?_
      refine aj_aload_n (q := 130) (i := 0) dX10_runs_129 rfl rfl rfl ?_
      refine aj_getI (q := 133) (f := 26) fl_X10_56 dX10_runs_130 rfl lM_0 rfl rfl ?_
      try simp only [sw_eq, sw_ne, ne_eq, Nat.reduceEqDiff, not_false_eq_true, he]
      refine aj_dup2 (q := 134) dX10_runs_133 rfl rfl rfl ?_
      refine aj_iaload (q := 135) (f := 1500) dX10_runs_134 rfl lM_15 rfl hin ?_
      try simp only [sw_eq, sw_ne, ne_eq, Nat.reduceEqDiff, not_false_eq_true, he]
      refine aj_iconst (q := 136) (v := 1) dX10_runs_135 rfl (by decide) ?_
      refine aj_iadd (q := 137) dX10_runs_136 rfl ?_
      try simp only [sw_eq, sw_ne, ne_eq, Nat.reduceEqDiff, not_false_eq_true, he]
      refine aj_iastore (q := 138) (f := 1500) okM dX10_runs_137 rfl lM_15 rfl hin ?_
      refine aj_aload_n (q := 139) (i := 0) dX10_runs_138 rfl rfl rfl ?_
      refine aj_getI (q := 142) (f := 26) fl_X10_56 dX10_runs_139 rfl lM_0 rfl rfl ?_
      try simp only [sw_eq, sw_ne, ne_eq, Nat.reduceEqDiff, not_false_eq_true, he]
      refine aj_ireturn dX10_runs_142 rfl ?_
      first | contradiction | (simp (decide := true) only [gRunE, gRunK, gRunN, ↓reduceIte, sw_eq, sw_ne, ne_eq, Nat.reduceEqDiff, not_false_eq_true, he, c83_1, c103_4] at hQ ⊢; with_reducible exact hQ) | (subst_vars; simp_all)
    · refine aj_aload_n (q := 107) (i := 0) dX10_runs_106 rfl rfl rfl ?_
      refine aj_getI (q := 110) (f := 27) fl_X10_112 dX10_runs_107 rfl lM_0 rfl rfl ?_
      try simp only [sw_eq, sw_ne, ne_eq, Nat.reduceEqDiff, not_false_eq_true, he]
      refine aj_iconst (q := 111) (v := 5) dX10_runs_110 rfl (by decide) ?_
      refine aj_icmp_ne (q := 114) (tgt := 121) dX10_runs_111 rfl (by decide) (fun c111_5 => ?_) (fun c111_5 => ?_)
      · refine aj_iconst (q := 122) (v := 0) dX10_runs_121 rfl (by decide) ?_
        refine aj_putI (q := 125) (f := 28) okM fp_X10_115 dX10_runs_122 rfl lM_0 rfl rfl ?_
        refine aj_aload_n (q := 126) (i := 0) dX10_runs_125 rfl rfl rfl ?_
        refine aj_getR (q := 129) fl_X10_59 dX10_runs_126 rfl lM_0 rfl ?_
        refine aj_aload_n (q := 130) (i := 0) dX10_runs_129 rfl rfl rfl ?_
        refine aj_getI (q := 133) (f := 26) fl_X10_56 dX10_runs_130 rfl lM_0 rfl rfl ?_
        try simp only [sw_eq, sw_ne, ne_eq, Nat.reduceEqDiff, not_false_eq_true, he]
        refine aj_dup2 (q := 134) dX10_runs_133 rfl rfl rfl ?_
        refine aj_iaload (q := 135) (f := 1500) dX10_runs_134 rfl lM_15 rfl hin ?_
        try simp only [sw_eq, sw_ne, ne_eq, Nat.reduceEqDiff, not_false_eq_true, he]
        refine aj_iconst (q := 136) (v := 1) dX10_runs_135 rfl (by decide) ?_
        refine aj_iadd (q := 137) dX10_runs_136 rfl ?_
        try simp only [sw_eq, sw_ne, ne_eq, Nat.reduceEqDiff, not_false_eq_true, he]
        refine aj_iastore (q := 138) (f := 1500) okM dX10_runs_137 rfl lM_15 rfl hin ?_
        refine aj_aload_n (q := 139) (i := 0) dX10_runs_138 rfl rfl rfl ?_
        refine aj_getI (q := 142) (f := 26) fl_X10_56 dX10_runs_139 rfl lM_0 rfl rfl ?_
        try simp only [sw_eq, sw_ne, ne_eq, Nat.reduceEqDiff, not_false_eq_true, he]
        refine aj_ireturn dX10_runs_142 rfl ?_
        first | contradiction | (simp (decide := true) only [gRunE, gRunK, gRunN, ↓reduceIte, sw_eq, sw_ne, ne_eq, Nat.reduceEqDiff, not_false_eq_true, he, c83_1, c103_4, c111_5] at hQ ⊢; with_reducible exact hQ) | (subst_vars; simp_all)
      · refine aj_aload_n (q := 115) (i := 0) dX10_runs_114 rfl rfl rfl ?_
        refine aj_getI (q := 118) (f := 28) fl_X10_115 dX10_runs_115 rfl lM_0 rfl rfl ?_
        try simp only [sw_eq, sw_ne, ne_eq, Nat.reduceEqDiff, not_false_eq_true, he]
        refine aj_goto (tgt := 122) dX10_runs_118 (by decide) ?_
        refine aj_putI (q := 125) (f := 28) okM fp_X10_115 dX10_runs_122 rfl lM_0 rfl rfl ?_
        refine aj_aload_n (q := 126) (i := 0) dX10_runs_125 rfl rfl rfl ?_
        refine aj_getR (q := 129) fl_X10_59 dX10_runs_126 rfl lM_0 rfl ?_
        refine aj_aload_n (q := 130) (i := 0) dX10_runs_129 rfl rfl rfl ?_
        refine aj_getI (q := 133) (f := 26) fl_X10_56 dX10_runs_130 rfl lM_0 rfl rfl ?_
        try simp only [sw_eq, sw_ne, ne_eq, Nat.reduceEqDiff, not_false_eq_true, he]
        refine aj_dup2 (q := 134) dX10_runs_133 rfl rfl rfl ?_
        refine aj_iaload (q := 135) (f := 1500) dX10_runs_134 rfl lM_15 rfl hin ?_
        try simp only [sw_eq, sw_ne, ne_eq, Nat.reduceEqDiff, not_false_eq_true, he]
        refine aj_iconst (q := 136) (v := 1) dX10_runs_135 rfl (by decide) ?_
        refine aj_iadd (q := 137) dX10_runs_136 rfl ?_
        try simp only [sw_eq, sw_ne, ne_eq, Nat.reduceEqDiff, not_false_eq_true, he]
        refine aj_iastore (q := 138) (f := 1500) okM dX10_runs_137 rfl lM_15 rfl hin ?_
        refine aj_aload_n (q := 139) (i := 0) dX10_runs_138 rfl rfl rfl ?_
        refine aj_getI (q := 142) (f := 26) fl_X10_56 dX10_runs_139 rfl lM_0 rfl rfl ?_
        try simp only [sw_eq, sw_ne, ne_eq, Nat.reduceEqDiff, not_false_eq_true, he]
        refine aj_ireturn dX10_runs_142 rfl ?_
        first | contradiction | (simp (decide := true) only [gRunE, gRunK, gRunN, ↓reduceIte, sw_eq, sw_ne, ne_eq, Nat.reduceEqDiff, not_false_eq_true, he, c83_1, c103_4, c111_5] at hQ ⊢; with_reducible exact hQ) | (subst_vars; simp_all)
def gStart (M : Sx) (m x b : Int32) : Sx := if gPayB (sw (gReset M x b) 37 0 (-1)) 2 then gPush (sw (sw (gPayS (sw (gReset M x b) 37 0 (-1)) 1 2) 36 0 1) 24 0 1) 0 (M 600 m.toNatClampNeg) else gPayS (sw (gReset M x b) 37 0 (-1)) 1 2
theorem df_gReset {M : Sx} {x b : Int32} : Df [38, 36, 30, 28, 27, 25, 24, 23, 21, 19, 18, 17, 16, 14, 11, 700, 800, 900, 1300] M (gReset M x b) := by
  have h0 : Df [700, 800, 900, 1300] M (gRes0 M) := fun f hf i => by
    simp at hf
    rw [gRes0, fil_ne (by omega), fil_ne (by omega), fil_ne (by omega), fil_ne (by omega)]
  exact ((((((((((((((((h0.to 700 0 x).to 11 0 0).to 14 0 0).to 16 0 b).to 17 0 40).to 18 0 0).to 19 0 0).to 21 0 0).to 23 0 0).to 24 0 0).to 25 0 0).to 27 0 0).to 28 0 0).to 30 0 0).to 36 0 0).to 38 0 (-1)).mono rfl
theorem sp_X10_runs {d : Nat} {M M' : Sx} {m x b e : Int32} {j : Nat} {Q : Option Value → Sx → Prop} (hm : vp_in m 8) (hMR : MR j (gStart M m x b) M') (hend : M' 30 0 ≤ 0) (he : M' 37 0 = e) (hin : vp_in e 4) (hQ : Q (some (.int e)) (gRunE M' e)) : CC (d + 6) kX10_runs layM [.ref 0, .int m, .int x, .int b] M Q := by
  have hkk := runs_loop (d := d) (a := .int m) (b := .int x) (c := .int b) hend (runs_end he hin hQ) j
  have h30 : sw (gReset M x b) 37 0 (-1) 30 0 = nI 0 := by rw [sw_ne (by decide)]; rfl
  have h600 : ∀ i, sw (gReset M x b) 37 0 (-1) 600 i = M 600 i := fun i => by rw [sw_ne (by decide), df_gReset.at 600 i rfl]
  refine cc_intro [some _, some _, some _, some _] (by decide) (cc_cat (by rfl)) (Nat.le_of_ble_eq_true rfl) (cc_ls (by rfl)) ?_
  refine aj_aload_n (q := 1) (i := 0) dX10_runs_0 rfl rfl rfl ?_
  refine aj_iload_n (q := 2) (i := 2) dX10_runs_1 rfl rfl rfl ?_
  refine aj_iload_n (q := 3) (i := 3) dX10_runs_2 rfl rfl rfl ?_
  refine aj_callV (q := 6) (As := [_, _]) cl_X10_210 mk_X10_reset dX10_runs_3 rfl lM_0 rfl rfl (Nat.le_of_ble_eq_true rfl) (sp_X10_reset ?_)
  refine aj_aload_n (q := 7) (i := 0) dX10_runs_6 rfl rfl rfl ?_
  refine aj_iconst (q := 8) (v := (-1)) dX10_runs_7 rfl (by decide) ?_
  refine aj_putI (q := 11) (f := 37) okM fp_X10_109 dX10_runs_8 rfl lM_0 rfl rfl ?_
  refine aj_aload_n (q := 12) (i := 0) dX10_runs_11 rfl rfl rfl ?_
  refine aj_iconst (q := 13) (v := 1) dX10_runs_12 rfl (by decide) ?_
  refine aj_iconst (q := 14) (v := 2) dX10_runs_13 rfl (by decide) ?_
  refine aj_callV (q := 17) (As := [_, _]) cl_X10_153 mk_X10_pays dX10_runs_14 rfl lM_0 rfl rfl (Nat.le_of_ble_eq_true rfl) (sp_X10_pays (vp_in_iff.mpr (by decide)) (Or.inl rfl) ?_)
  refine aj_ifB_eq (q := 20) (tgt := 40) dX10_runs_17 rfl (by decide) (fun c17_1 => ?_) (fun c17_1 => ?_)
  · refine hkk _ ?_
    rw [gStart] at hMR
    first | (rw [if_pos (by assumption)] at hMR; exact hMR) | (rw [if_neg (by rw [show gPayB _ _ = false by assumption]; decide)] at hMR; exact hMR)
  · refine aj_aload_n (q := 21) (i := 0) dX10_runs_20 rfl rfl rfl ?_
    refine aj_iconst (q := 22) (v := 1) dX10_runs_21 rfl (by decide) ?_
    refine aj_putI (q := 25) (f := 36) okM fp_X10_143 dX10_runs_22 rfl lM_0 rfl rfl ?_
    refine aj_aload_n (q := 26) (i := 0) dX10_runs_25 rfl rfl rfl ?_
    refine aj_iconst (q := 27) (v := 1) dX10_runs_26 rfl (by decide) ?_
    refine aj_putI (q := 30) (f := 24) okM fp_X10_177 dX10_runs_27 rfl lM_0 rfl rfl ?_
    refine aj_aload_n (q := 31) (i := 0) dX10_runs_30 rfl rfl rfl ?_
    refine aj_aload_n (q := 32) (i := 0) dX10_runs_31 rfl rfl rfl ?_
    refine aj_getR (q := 35) fl_X10_29 dX10_runs_32 rfl lM_0 rfl ?_
    refine aj_iload_n (q := 36) (i := 1) dX10_runs_35 rfl rfl rfl ?_
    refine aj_iaload (q := 37) (f := 600) dX10_runs_36 rfl lM_6 rfl hm ?_
    try simp (decide := true) only [sw_eq, sw_ne, gPay_ne, h600, ne_eq, Nat.reduceEqDiff, not_false_eq_true, c17_1]
    refine aj_callV (q := 40) (As := [_]) cl_X10_180 mk_X10_push dX10_runs_37 rfl lM_0 rfl rfl (Nat.le_of_ble_eq_true rfl) (sp_X10_push (n := 0) (by simp (decide := true) only [sw_eq, sw_ne, gPay_ne, ne_eq, Nat.reduceEqDiff, not_false_eq_true, c17_1]; rfl) (by omega) ?_)
    refine hkk _ ?_
    rw [gStart] at hMR
    first | (rw [if_pos (by assumption)] at hMR; exact hMR) | (rw [if_neg (by rw [show gPayB _ _ = false by assumption]; decide)] at hMR; exact hMR)
