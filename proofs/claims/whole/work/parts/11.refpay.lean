def FrOk (S : Sx) (i : Nat) : Prop := ∃ s : Nat, S 1600 i = nI s ∧ s < 120 ∧ (S 100 s = 20 → vp_in (S 200 s) 4)
def gDrain (r : Nat) : Nat → Sx → Sx
  | 0, S => S
  | n + 1, S => gDrain r n (gLeave (sw S 30 0 (nI (r + n))) (r + n) (S 1600 (r + n)).toNatClampNeg)
theorem gLv1_ne {S : Sx} {i s f j : Nat} (h : f ≠ 900) : gLv1 S i s f j = S f j := by
  unfold gLv1
  split
  · split
    · exact sw_ne h
    · rfl
  · rfl
theorem gLv2_ne {S : Sx} {i s f j : Nat} (h : f ≠ 36) : gLv2 S i s f j = S f j := by
  unfold gLv2
  split
  · split
    · exact sw_ne h
    · rfl
  · rfl
theorem gLeave_ne {S : Sx} {i s f j : Nat} (h : f ≠ 900) (h2 : f ≠ 36) : gLeave S i s f j = S f j := by
  unfold gLeave
  rw [gLv2_ne h2, gLv1_ne h]
theorem drain_loop {d r : Nat} {Q : Option Value → Sx → Prop} : ∀ (n : Nat) (S : Sx), r + n ≤ 180 → S 30 0 = nI (r + n) → S 38 0 = nI r → (∀ i, r ≤ i → i < r + n → FrOk S i) → Q none (sw (sw (gDrain r n S) 38 0 (-1)) 37 0 3) → AJ (d + 1) kX10_endReserve layM 0 [some (.ref 0)] [] S Q := by
  intro n
  induction n with
  | zero =>
    intro S hb hn hr hf hQ
    refine aj_aload_n (q := 1) (i := 0) dX10_endReserve_0 rfl rfl rfl ?_
    refine aj_getI (q := 4) (f := 30) fl_X10_106 dX10_endReserve_1 rfl lM_0 rfl rfl ?_
    try simp only [hn, hr]
    refine aj_aload_n (q := 5) (i := 0) dX10_endReserve_4 rfl rfl rfl ?_
    refine aj_getI (q := 8) (f := 38) fl_X10_122 dX10_endReserve_5 rfl lM_0 rfl rfl ?_
    try simp only [hn, hr]
    refine aj_icmp_le (q := 11) (tgt := 32) dX10_endReserve_8 rfl (by decide) (fun c8_1 => ?_) (fun c8_1 => ?_)
    · refine aj_aload_n (q := 33) (i := 0) dX10_endReserve_32 rfl rfl rfl ?_
      refine aj_iconst (q := 34) (v := (-1)) dX10_endReserve_33 rfl (by decide) ?_
      refine aj_putI (q := 37) (f := 38) okM fp_X10_122 dX10_endReserve_34 rfl lM_0 rfl rfl ?_
      refine aj_aload_n (q := 38) (i := 0) dX10_endReserve_37 rfl rfl rfl ?_
      refine aj_iconst (q := 39) (v := 3) dX10_endReserve_38 rfl (by decide) ?_
      refine aj_putI (q := 42) (f := 37) okM fp_X10_109 dX10_endReserve_39 rfl lM_0 rfl rfl ?_
      refine aj_return dX10_endReserve_42 rfl ?_
      exact hQ
    · exact absurd (nI_le (by omega) (by omega)) c8_1
  | succ n ih =>
    intro S hb hn hr hf hQ
    have hn : S 30 0 = nI (r + n + 1) := hn
    obtain ⟨s, h1, h2, h3⟩ := hf (r + n) (by omega) (by omega)
    refine aj_aload_n (q := 1) (i := 0) dX10_endReserve_0 rfl rfl rfl ?_
    refine aj_getI (q := 4) (f := 30) fl_X10_106 dX10_endReserve_1 rfl lM_0 rfl rfl ?_
    try simp only [sw_eq, sw_ne, ne_eq, Nat.reduceEqDiff, not_false_eq_true, nI_pred, hn, hr, (nI_pred (r + n) : nI (r + n + 1) - 1 = nI (r + n))]
    refine aj_aload_n (q := 5) (i := 0) dX10_endReserve_4 rfl rfl rfl ?_
    refine aj_getI (q := 8) (f := 38) fl_X10_122 dX10_endReserve_5 rfl lM_0 rfl rfl ?_
    try simp only [sw_eq, sw_ne, ne_eq, Nat.reduceEqDiff, not_false_eq_true, nI_pred, hn, hr, (nI_pred (r + n) : nI (r + n + 1) - 1 = nI (r + n))]
    refine aj_icmp_le (q := 11) (tgt := 32) dX10_endReserve_8 rfl (by decide) (fun c8_1 => ?_) (fun c8_1 => ?_)
    · exact absurd c8_1 (nI_ge (by omega) (by omega))
    · refine aj_aload_n (q := 12) (i := 0) dX10_endReserve_11 rfl rfl rfl ?_
      refine aj_dup (q := 13) dX10_endReserve_12 rfl rfl ?_
      refine aj_getI (q := 16) (f := 30) fl_X10_106 dX10_endReserve_13 rfl lM_0 rfl rfl ?_
      try simp only [sw_eq, sw_ne, ne_eq, Nat.reduceEqDiff, not_false_eq_true, nI_pred, hn, hr, (nI_pred (r + n) : nI (r + n + 1) - 1 = nI (r + n))]
      refine aj_iconst (q := 17) (v := 1) dX10_endReserve_16 rfl (by decide) ?_
      refine aj_isub (q := 18) dX10_endReserve_17 rfl ?_
      refine aj_putI (q := 21) (f := 30) okM fp_X10_106 dX10_endReserve_18 rfl lM_0 rfl rfl ?_
      refine aj_aload_n (q := 22) (i := 0) dX10_endReserve_21 rfl rfl rfl ?_
      refine aj_aload_n (q := 23) (i := 0) dX10_endReserve_22 rfl rfl rfl ?_
      refine aj_getI (q := 26) (f := 30) fl_X10_106 dX10_endReserve_23 rfl lM_0 rfl rfl ?_
      try simp only [sw_eq, sw_ne, ne_eq, Nat.reduceEqDiff, not_false_eq_true, nI_pred, hn, hr, (nI_pred (r + n) : nI (r + n + 1) - 1 = nI (r + n))]
      refine aj_callV (q := 29) (As := [_]) cl_X10_140 mk_X10_leave dX10_endReserve_26 rfl lM_0 rfl rfl (Nat.le_of_ble_eq_true rfl) (sp_X10_leave (i := r + n) (s := s) (by omega) (by rw [sw_ne (by decide)]; exact h1) h2 (by rw [sw_ne (by decide), sw_ne (by decide)]; exact h3) ?_)
      refine aj_goto (tgt := 0) dX10_endReserve_29 (by decide) ?_
      refine ih _ (by omega) ?_ ?_ ?_ ?_
      · rw [gLeave_ne (by decide) (by decide), sw_eq]
      · rw [gLeave_ne (by decide) (by decide), sw_ne (by decide)]; exact hr
      · intro i hi1 hi2
        obtain ⟨s', g1, g2, g3⟩ := hf i hi1 (by omega)
        refine ⟨s', ?_, g2, ?_⟩
        · rw [gLeave_ne (by decide) (by decide), sw_ne (by decide)]; exact g1
        · rw [gLeave_ne (by decide) (by decide), sw_ne (by decide), gLeave_ne (by decide) (by decide), sw_ne (by decide)]; exact g3
      · rw [gDrain, h1, cl s] at hQ
        exact hQ
def DrOk (S : Sx) : Prop := S 38 0 = -1 ∨ ∃ r n : Nat, S 38 0 = nI r ∧ S 30 0 = nI (r + n) ∧ r + n ≤ 180 ∧ ∀ i, r ≤ i → i < r + n → FrOk S i
def drFree (f : Nat) : Bool := !([38, 30, 1600, 100, 200].contains f)
theorem DrOk.sw {S : Sx} {f i : Nat} {v : Int32} (h : DrOk S) (hf : drFree f = true) : DrOk (sw S f i v) := by
  have hne : 38 ≠ f ∧ 30 ≠ f ∧ 1600 ≠ f ∧ 100 ≠ f ∧ 200 ≠ f := by
    simp [drFree] at hf
    omega
  obtain ⟨n1, n2, n3, n4, n5⟩ := hne
  simpa only [DrOk, FrOk, sw_ne n1, sw_ne n2, sw_ne n3, sw_ne n4, sw_ne n5] using h
def gEnd (S : Sx) : Sx := sw (sw (gDrain (S 38 0).toNatClampNeg ((S 30 0).toNatClampNeg - (S 38 0).toNatClampNeg) S) 38 0 (-1)) 37 0 3
theorem sp_X10_endReserve {d : Nat} {S : Sx} {Q : Option Value → Sx → Prop} (h : DrOk S) (h2 : ¬ S 38 0 = -1) (hQ : Q none (gEnd S)) : CC (d + 1) kX10_endReserve layM [.ref 0] S Q := by
  refine cc_intro [some _] (by decide) (cc_cat (by rfl)) (Nat.le_of_ble_eq_true rfl) (cc_ls (by rfl)) ?_
  rcases h with h | ⟨r, n, e1, e2, e3, e4⟩
  · exact absurd h h2
  · refine drain_loop n S e3 e2 e1 e4 ?_
    rw [gEnd, e1, e2, cl r, cl (r + n), show r + n - r = n by omega] at hQ
    exact hQ
def gPayB (S : Sx) (p : Int32) : Bool := if S 38 0 = -1 then decide (p ≤ S 16 0) else decide (p ≤ S 17 0)
def gPayS (S : Sx) (k p : Int32) : Sx := if S 38 0 = -1 then (if p ≤ S 16 0 then sw (sw (sw S 1300 k.toNatClampNeg (S 1300 k.toNatClampNeg + 1)) 16 0 (S 16 0 - p)) 18 0 (S 18 0 + p) else sw S 37 0 3) else (if p ≤ S 17 0 then sw (sw (sw S 1300 k.toNatClampNeg (S 1300 k.toNatClampNeg + 1)) 17 0 (S 17 0 - p)) 19 0 (S 19 0 + p) else gEnd S)
def payFree (f : Nat) : Bool := !([1300, 16, 17, 18, 19].contains f)
theorem gPay_ne {S : Sx} {k p : Int32} {f j : Nat} (h : gPayB S p = true) (hf : payFree f = true) : gPayS S k p f j = S f j := by
  have hne : f ≠ 1300 ∧ f ≠ 16 ∧ f ≠ 17 ∧ f ≠ 18 ∧ f ≠ 19 := by
    simp [payFree] at hf
    omega
  obtain ⟨n1, n2, n3, n4, n5⟩ := hne
  unfold gPayB at h
  unfold gPayS
  split
  · rename_i e
    rw [if_pos e] at h
    rw [if_pos (by simpa using h), sw_ne n4, sw_ne n2, sw_ne n1]
  · rename_i e
    rw [if_neg e] at h
    rw [if_pos (by simpa using h), sw_ne n5, sw_ne n3, sw_ne n1]
theorem sp_X10_pays {d : Nat} {S : Sx} {Q : Option Value → Sx → Prop} {k p : Int32}  (hk : vp_in k 5) (hD : DrOk S) (hQ : Q (some (.int (bi (gPayB S p)))) (gPayS S k p)) : CC (d + 2) kX10_pays layM [.ref 0, .int k, .int p] S Q := by
  refine cc_intro [some _, some _, some _, none] (by decide) (cc_cat (by rfl)) (Nat.le_of_ble_eq_true rfl) (cc_ls (by rfl)) ?_
  refine aj_aload_n (q := 1) (i := 0) dX10_pays_0 rfl rfl rfl ?_
  refine aj_getI (q := 4) (f := 38) fl_X10_122 dX10_pays_1 rfl lM_0 rfl rfl ?_
  try simp (decide := true) only [sw_eq, sw_ne, ne_eq, Nat.reduceEqDiff, not_false_eq_true, nI_pred, nI_1, gPay_ne]
  refine aj_iconst (q := 5) (v := (-1)) dX10_pays_4 rfl (by decide) ?_
  refine aj_icmp_ne (q := 8) (tgt := 15) dX10_pays_5 rfl (by decide) (fun c5_1 => ?_) (fun c5_1 => ?_)
  · refine aj_aload_n (q := 16) (i := 0) dX10_pays_15 rfl rfl rfl ?_
    refine aj_getI (q := 19) (f := 17) fl_X10_128 dX10_pays_16 rfl lM_0 rfl rfl ?_
    try simp (decide := true) only [sw_eq, sw_ne, ne_eq, Nat.reduceEqDiff, not_false_eq_true, nI_pred, nI_1, gPay_ne, c5_1]
    refine aj_istore_n (q := 20) (i := 3) (ls' := [_, _, _, _]) dX10_pays_19 rfl rfl (by decide) rfl ?_
    refine aj_iload_n (q := 21) (i := 3) dX10_pays_20 rfl rfl rfl ?_
    refine aj_iload_n (q := 22) (i := 2) dX10_pays_21 rfl rfl rfl ?_
    refine aj_icmp_ge (q := 25) (tgt := 47) dX10_pays_22 rfl (by decide) (fun c22_2 => ?_) (fun c22_2 => ?_)
    · refine aj_aload_n (q := 48) (i := 0) dX10_pays_47 rfl rfl rfl ?_
      refine aj_getR (q := 51) fl_X10_50 dX10_pays_48 rfl lM_0 rfl ?_
      refine aj_iload_n (q := 52) (i := 1) dX10_pays_51 rfl rfl rfl ?_
      refine aj_dup2 (q := 53) dX10_pays_52 rfl rfl rfl ?_
      refine aj_iaload (q := 54) (f := 1300) dX10_pays_53 rfl lM_13 rfl hk ?_
      try simp (decide := true) only [sw_eq, sw_ne, ne_eq, Nat.reduceEqDiff, not_false_eq_true, nI_pred, nI_1, gPay_ne, c5_1, c22_2]
      refine aj_iconst (q := 55) (v := 1) dX10_pays_54 rfl (by decide) ?_
      refine aj_iadd (q := 56) dX10_pays_55 rfl ?_
      refine aj_iastore (q := 57) (f := 1300) okM dX10_pays_56 rfl lM_13 rfl hk ?_
      refine aj_aload_n (q := 58) (i := 0) dX10_pays_57 rfl rfl rfl ?_
      refine aj_getI (q := 61) (f := 38) fl_X10_122 dX10_pays_58 rfl lM_0 rfl rfl ?_
      try simp (decide := true) only [sw_eq, sw_ne, ne_eq, Nat.reduceEqDiff, not_false_eq_true, nI_pred, nI_1, gPay_ne, c5_1, c22_2]
      refine aj_iconst (q := 62) (v := (-1)) dX10_pays_61 rfl (by decide) ?_
      refine aj_icmp_ne (q := 65) (tgt := 88) dX10_pays_62 rfl (by decide) (fun c62_3 => ?_) (fun c62_3 => ?_)
      · refine aj_aload_n (q := 89) (i := 0) dX10_pays_88 rfl rfl rfl ?_
        refine aj_dup (q := 90) dX10_pays_89 rfl rfl ?_
        refine aj_getI (q := 93) (f := 17) fl_X10_128 dX10_pays_90 rfl lM_0 rfl rfl ?_
        try simp (decide := true) only [sw_eq, sw_ne, ne_eq, Nat.reduceEqDiff, not_false_eq_true, nI_pred, nI_1, gPay_ne, c5_1, c22_2, c62_3]
        refine aj_iload_n (q := 94) (i := 2) dX10_pays_93 rfl rfl rfl ?_
        refine aj_isub (q := 95) dX10_pays_94 rfl ?_
        refine aj_putI (q := 98) (f := 17) okM fp_X10_128 dX10_pays_95 rfl lM_0 rfl rfl ?_
        refine aj_aload_n (q := 99) (i := 0) dX10_pays_98 rfl rfl rfl ?_
        refine aj_dup (q := 100) dX10_pays_99 rfl rfl ?_
        refine aj_getI (q := 103) (f := 19) fl_X10_137 dX10_pays_100 rfl lM_0 rfl rfl ?_
        try simp (decide := true) only [sw_eq, sw_ne, ne_eq, Nat.reduceEqDiff, not_false_eq_true, nI_pred, nI_1, gPay_ne, c5_1, c22_2, c62_3]
        refine aj_iload_n (q := 104) (i := 2) dX10_pays_103 rfl rfl rfl ?_
        refine aj_iadd (q := 105) dX10_pays_104 rfl ?_
        refine aj_putI (q := 108) (f := 19) okM fp_X10_137 dX10_pays_105 rfl lM_0 rfl rfl ?_
        refine aj_iconst (q := 109) (v := 1) dX10_pays_108 rfl (by decide) ?_
        refine aj_zreturn dX10_pays_109 rfl (by decide) ?_
        first | contradiction | with_reducible exact hQ | (simp (decide := true) only [gPayS, gPayB, decide_true, decide_false, ↓reduceIte, Bool.false_eq_true, bi_t, bi_f, sw_eq, sw_ne, ne_eq, Nat.reduceEqDiff, not_false_eq_true, c5_1, c22_2, c62_3] at hQ ⊢; with_reducible exact hQ)
      · refine aj_aload_n (q := 66) (i := 0) dX10_pays_65 rfl rfl rfl ?_
        refine aj_dup (q := 67) dX10_pays_66 rfl rfl ?_
        refine aj_getI (q := 70) (f := 16) fl_X10_125 dX10_pays_67 rfl lM_0 rfl rfl ?_
        try simp (decide := true) only [sw_eq, sw_ne, ne_eq, Nat.reduceEqDiff, not_false_eq_true, nI_pred, nI_1, gPay_ne, c5_1, c22_2, c62_3]
        refine aj_iload_n (q := 71) (i := 2) dX10_pays_70 rfl rfl rfl ?_
        refine aj_isub (q := 72) dX10_pays_71 rfl ?_
        refine aj_putI (q := 75) (f := 16) okM fp_X10_125 dX10_pays_72 rfl lM_0 rfl rfl ?_
        refine aj_aload_n (q := 76) (i := 0) dX10_pays_75 rfl rfl rfl ?_
        refine aj_dup (q := 77) dX10_pays_76 rfl rfl ?_
        refine aj_getI (q := 80) (f := 18) fl_X10_134 dX10_pays_77 rfl lM_0 rfl rfl ?_
        try simp (decide := true) only [sw_eq, sw_ne, ne_eq, Nat.reduceEqDiff, not_false_eq_true, nI_pred, nI_1, gPay_ne, c5_1, c22_2, c62_3]
        refine aj_iload_n (q := 81) (i := 2) dX10_pays_80 rfl rfl rfl ?_
        refine aj_iadd (q := 82) dX10_pays_81 rfl ?_
        refine aj_putI (q := 85) (f := 18) okM fp_X10_134 dX10_pays_82 rfl lM_0 rfl rfl ?_
        refine aj_goto (tgt := 108) dX10_pays_85 (by decide) ?_
        refine aj_iconst (q := 109) (v := 1) dX10_pays_108 rfl (by decide) ?_
        refine aj_zreturn dX10_pays_109 rfl (by decide) ?_
        first | contradiction | with_reducible exact hQ | (simp (decide := true) only [gPayS, gPayB, decide_true, decide_false, ↓reduceIte, Bool.false_eq_true, bi_t, bi_f, sw_eq, sw_ne, ne_eq, Nat.reduceEqDiff, not_false_eq_true, c5_1, c22_2, c62_3] at hQ ⊢; with_reducible exact hQ)
    · refine aj_aload_n (q := 26) (i := 0) dX10_pays_25 rfl rfl rfl ?_
      refine aj_getI (q := 29) (f := 38) fl_X10_122 dX10_pays_26 rfl lM_0 rfl rfl ?_
      try simp (decide := true) only [sw_eq, sw_ne, ne_eq, Nat.reduceEqDiff, not_false_eq_true, nI_pred, nI_1, gPay_ne, c5_1, c22_2]
      refine aj_iconst (q := 30) (v := (-1)) dX10_pays_29 rfl (by decide) ?_
      refine aj_icmp_ne (q := 33) (tgt := 41) dX10_pays_30 rfl (by decide) (fun c30_4 => ?_) (fun c30_4 => ?_)
      · refine aj_aload_n (q := 42) (i := 0) dX10_pays_41 rfl rfl rfl ?_
        refine aj_callV (q := 45) (As := []) cl_X10_131 mk_X10_endReserve dX10_pays_42 rfl lM_0 rfl rfl (Nat.le_of_ble_eq_true rfl) (sp_X10_endReserve hD (by first | assumption | exact absurd rfl (by assumption)) ?_)
        refine aj_iconst (q := 46) (v := 0) dX10_pays_45 rfl (by decide) ?_
        refine aj_zreturn dX10_pays_46 rfl (by decide) ?_
        first | contradiction | with_reducible exact hQ | (simp (decide := true) only [gPayS, gPayB, decide_true, decide_false, ↓reduceIte, Bool.false_eq_true, bi_t, bi_f, sw_eq, sw_ne, ne_eq, Nat.reduceEqDiff, not_false_eq_true, c5_1, c22_2, c30_4] at hQ ⊢; with_reducible exact hQ)
      · refine aj_aload_n (q := 34) (i := 0) dX10_pays_33 rfl rfl rfl ?_
        refine aj_iconst (q := 35) (v := 3) dX10_pays_34 rfl (by decide) ?_
        refine aj_putI (q := 38) (f := 37) okM fp_X10_109 dX10_pays_35 rfl lM_0 rfl rfl ?_
        refine aj_goto (tgt := 45) dX10_pays_38 (by decide) ?_
        refine aj_iconst (q := 46) (v := 0) dX10_pays_45 rfl (by decide) ?_
        refine aj_zreturn dX10_pays_46 rfl (by decide) ?_
        first | contradiction | with_reducible exact hQ | (simp (decide := true) only [gPayS, gPayB, decide_true, decide_false, ↓reduceIte, Bool.false_eq_true, bi_t, bi_f, sw_eq, sw_ne, ne_eq, Nat.reduceEqDiff, not_false_eq_true, c5_1, c22_2, c30_4] at hQ ⊢; with_reducible exact hQ)
  · refine aj_aload_n (q := 9) (i := 0) dX10_pays_8 rfl rfl rfl ?_
    refine aj_getI (q := 12) (f := 16) fl_X10_125 dX10_pays_9 rfl lM_0 rfl rfl ?_
    try simp (decide := true) only [sw_eq, sw_ne, ne_eq, Nat.reduceEqDiff, not_false_eq_true, nI_pred, nI_1, gPay_ne, c5_1]
    refine aj_goto (tgt := 19) dX10_pays_12 (by decide) ?_
    refine aj_istore_n (q := 20) (i := 3) (ls' := [_, _, _, _]) dX10_pays_19 rfl rfl (by decide) rfl ?_
    refine aj_iload_n (q := 21) (i := 3) dX10_pays_20 rfl rfl rfl ?_
    refine aj_iload_n (q := 22) (i := 2) dX10_pays_21 rfl rfl rfl ?_
    refine aj_icmp_ge (q := 25) (tgt := 47) dX10_pays_22 rfl (by decide) (fun c22_5 => ?_) (fun c22_5 => ?_)
    · refine aj_aload_n (q := 48) (i := 0) dX10_pays_47 rfl rfl rfl ?_
      refine aj_getR (q := 51) fl_X10_50 dX10_pays_48 rfl lM_0 rfl ?_
      refine aj_iload_n (q := 52) (i := 1) dX10_pays_51 rfl rfl rfl ?_
      refine aj_dup2 (q := 53) dX10_pays_52 rfl rfl rfl ?_
      refine aj_iaload (q := 54) (f := 1300) dX10_pays_53 rfl lM_13 rfl hk ?_
      try simp (decide := true) only [sw_eq, sw_ne, ne_eq, Nat.reduceEqDiff, not_false_eq_true, nI_pred, nI_1, gPay_ne, c5_1, c22_5]
      refine aj_iconst (q := 55) (v := 1) dX10_pays_54 rfl (by decide) ?_
      refine aj_iadd (q := 56) dX10_pays_55 rfl ?_
      refine aj_iastore (q := 57) (f := 1300) okM dX10_pays_56 rfl lM_13 rfl hk ?_
      refine aj_aload_n (q := 58) (i := 0) dX10_pays_57 rfl rfl rfl ?_
      refine aj_getI (q := 61) (f := 38) fl_X10_122 dX10_pays_58 rfl lM_0 rfl rfl ?_
      try simp (decide := true) only [sw_eq, sw_ne, ne_eq, Nat.reduceEqDiff, not_false_eq_true, nI_pred, nI_1, gPay_ne, c5_1, c22_5]
      refine aj_iconst (q := 62) (v := (-1)) dX10_pays_61 rfl (by decide) ?_
      refine aj_icmp_ne (q := 65) (tgt := 88) dX10_pays_62 rfl (by decide) (fun c62_6 => ?_) (fun c62_6 => ?_)
      · refine aj_aload_n (q := 89) (i := 0) dX10_pays_88 rfl rfl rfl ?_
        refine aj_dup (q := 90) dX10_pays_89 rfl rfl ?_
        refine aj_getI (q := 93) (f := 17) fl_X10_128 dX10_pays_90 rfl lM_0 rfl rfl ?_
        try simp (decide := true) only [sw_eq, sw_ne, ne_eq, Nat.reduceEqDiff, not_false_eq_true, nI_pred, nI_1, gPay_ne, c5_1, c22_5, c62_6]
        refine aj_iload_n (q := 94) (i := 2) dX10_pays_93 rfl rfl rfl ?_
        refine aj_isub (q := 95) dX10_pays_94 rfl ?_
        refine aj_putI (q := 98) (f := 17) okM fp_X10_128 dX10_pays_95 rfl lM_0 rfl rfl ?_
        refine aj_aload_n (q := 99) (i := 0) dX10_pays_98 rfl rfl rfl ?_
        refine aj_dup (q := 100) dX10_pays_99 rfl rfl ?_
        refine aj_getI (q := 103) (f := 19) fl_X10_137 dX10_pays_100 rfl lM_0 rfl rfl ?_
        try simp (decide := true) only [sw_eq, sw_ne, ne_eq, Nat.reduceEqDiff, not_false_eq_true, nI_pred, nI_1, gPay_ne, c5_1, c22_5, c62_6]
        refine aj_iload_n (q := 104) (i := 2) dX10_pays_103 rfl rfl rfl ?_
        refine aj_iadd (q := 105) dX10_pays_104 rfl ?_
        refine aj_putI (q := 108) (f := 19) okM fp_X10_137 dX10_pays_105 rfl lM_0 rfl rfl ?_
        refine aj_iconst (q := 109) (v := 1) dX10_pays_108 rfl (by decide) ?_
        refine aj_zreturn dX10_pays_109 rfl (by decide) ?_
        first | contradiction | with_reducible exact hQ | (simp (decide := true) only [gPayS, gPayB, decide_true, decide_false, ↓reduceIte, Bool.false_eq_true, bi_t, bi_f, sw_eq, sw_ne, ne_eq, Nat.reduceEqDiff, not_false_eq_true, c5_1, c22_5, c62_6] at hQ ⊢; with_reducible exact hQ)
      · refine aj_aload_n (q := 66) (i := 0) dX10_pays_65 rfl rfl rfl ?_
        refine aj_dup (q := 67) dX10_pays_66 rfl rfl ?_
        refine aj_getI (q := 70) (f := 16) fl_X10_125 dX10_pays_67 rfl lM_0 rfl rfl ?_
        try simp (decide := true) only [sw_eq, sw_ne, ne_eq, Nat.reduceEqDiff, not_false_eq_true, nI_pred, nI_1, gPay_ne, c5_1, c22_5, c62_6]
        refine aj_iload_n (q := 71) (i := 2) dX10_pays_70 rfl rfl rfl ?_
        refine aj_isub (q := 72) dX10_pays_71 rfl ?_
        refine aj_putI (q := 75) (f := 16) okM fp_X10_125 dX10_pays_72 rfl lM_0 rfl rfl ?_
        refine aj_aload_n (q := 76) (i := 0) dX10_pays_75 rfl rfl rfl ?_
        refine aj_dup (q := 77) dX10_pays_76 rfl rfl ?_
        refine aj_getI (q := 80) (f := 18) fl_X10_134 dX10_pays_77 rfl lM_0 rfl rfl ?_
        try simp (decide := true) only [sw_eq, sw_ne, ne_eq, Nat.reduceEqDiff, not_false_eq_true, nI_pred, nI_1, gPay_ne, c5_1, c22_5, c62_6]
        refine aj_iload_n (q := 81) (i := 2) dX10_pays_80 rfl rfl rfl ?_
        refine aj_iadd (q := 82) dX10_pays_81 rfl ?_
        refine aj_putI (q := 85) (f := 18) okM fp_X10_134 dX10_pays_82 rfl lM_0 rfl rfl ?_
        refine aj_goto (tgt := 108) dX10_pays_85 (by decide) ?_
        refine aj_iconst (q := 109) (v := 1) dX10_pays_108 rfl (by decide) ?_
        refine aj_zreturn dX10_pays_109 rfl (by decide) ?_
        first | contradiction | with_reducible exact hQ | (simp (decide := true) only [gPayS, gPayB, decide_true, decide_false, ↓reduceIte, Bool.false_eq_true, bi_t, bi_f, sw_eq, sw_ne, ne_eq, Nat.reduceEqDiff, not_false_eq_true, c5_1, c22_5, c62_6] at hQ ⊢; with_reducible exact hQ)
    · refine aj_aload_n (q := 26) (i := 0) dX10_pays_25 rfl rfl rfl ?_
      refine aj_getI (q := 29) (f := 38) fl_X10_122 dX10_pays_26 rfl lM_0 rfl rfl ?_
      try simp (decide := true) only [sw_eq, sw_ne, ne_eq, Nat.reduceEqDiff, not_false_eq_true, nI_pred, nI_1, gPay_ne, c5_1, c22_5]
      refine aj_iconst (q := 30) (v := (-1)) dX10_pays_29 rfl (by decide) ?_
      refine aj_icmp_ne (q := 33) (tgt := 41) dX10_pays_30 rfl (by decide) (fun c30_7 => ?_) (fun c30_7 => ?_)
      · refine aj_aload_n (q := 42) (i := 0) dX10_pays_41 rfl rfl rfl ?_
        refine aj_callV (q := 45) (As := []) cl_X10_131 mk_X10_endReserve dX10_pays_42 rfl lM_0 rfl rfl (Nat.le_of_ble_eq_true rfl) (sp_X10_endReserve hD (by first | assumption | exact absurd rfl (by assumption)) ?_)
        refine aj_iconst (q := 46) (v := 0) dX10_pays_45 rfl (by decide) ?_
        refine aj_zreturn dX10_pays_46 rfl (by decide) ?_
        first | contradiction | with_reducible exact hQ | (simp (decide := true) only [gPayS, gPayB, decide_true, decide_false, ↓reduceIte, Bool.false_eq_true, bi_t, bi_f, sw_eq, sw_ne, ne_eq, Nat.reduceEqDiff, not_false_eq_true, c5_1, c22_5, c30_7] at hQ ⊢; with_reducible exact hQ)
      · refine aj_aload_n (q := 34) (i := 0) dX10_pays_33 rfl rfl rfl ?_
        refine aj_iconst (q := 35) (v := 3) dX10_pays_34 rfl (by decide) ?_
        refine aj_putI (q := 38) (f := 37) okM fp_X10_109 dX10_pays_35 rfl lM_0 rfl rfl ?_
        refine aj_goto (tgt := 45) dX10_pays_38 (by decide) ?_
        refine aj_iconst (q := 46) (v := 0) dX10_pays_45 rfl (by decide) ?_
        refine aj_zreturn dX10_pays_46 rfl (by decide) ?_
        first | contradiction | with_reducible exact hQ | (simp (decide := true) only [gPayS, gPayB, decide_true, decide_false, ↓reduceIte, Bool.false_eq_true, bi_t, bi_f, sw_eq, sw_ne, ne_eq, Nat.reduceEqDiff, not_false_eq_true, c5_1, c22_5, c30_7] at hQ ⊢; with_reducible exact hQ)
