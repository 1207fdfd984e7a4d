theorem mkp_n {x : Int32} (h : ¬ 0 ≤ x) : mkPrice x = 1 := by rw [mkPrice, if_neg h]
theorem mkp_p {x : Int32} (h : 0 ≤ x) : mkPrice x = 1 + x / 4 := by rw [mkPrice, if_pos h]
theorem sp_X10_making_no_p {d : Nat} {S : Sx} {Q : Option Value → Sx → Prop} {n s a b : Nat} (hn : S 30 0 = nI (n + 1)) (hnb : n + 1 < 180) (hsb : s < 120) (hD : DrOk S) (ha : S 200 s = nI a) (hab : a < 4) (hb : S 300 s = nI b) (hbb : b < 8) (h0 : 0 ≤ S 700 b) (hp : gPayB S (mkPrice (S 700 b)) = false) (hQ : Q none (gPayS S 4 (mkPrice (S 700 b)))) : CC (d + 3) kX10_making layM [.ref 0, .int (nI s)] S Q := by
  refine cc_intro [some _, some _, none, none] (by decide) (cc_cat (by rfl)) (Nat.le_of_ble_eq_true rfl) (cc_ls (by rfl)) ?_
  rw [mkp_p h0] at hQ hp
  refine aj_aload_n (q := 1) (i := 0) dX10_making_0 rfl rfl rfl ?_
  refine aj_getR (q := 4) fl_X10_32 dX10_making_1 rfl lM_0 rfl ?_
  refine aj_aload_n (q := 5) (i := 0) dX10_making_4 rfl rfl rfl ?_
  refine aj_getR (q := 8) fl_X10_20 dX10_making_5 rfl lM_0 rfl ?_
  refine aj_iload_n (q := 9) (i := 1) dX10_making_8 rfl rfl rfl ?_
  refine aj_iaload (q := 10) (f := 300) dX10_making_9 rfl lM_3 rfl (vp_in_nI (by omega) (by omega)) ?_
  try simp (decide := true) only [sw_eq, sw_ne, zr_ne, ne_eq, Nat.reduceEqDiff, not_false_eq_true, nI_pred, nI_1, gPay_ne, hn, ha, hb, cl n, cl s, cl a, cl b]
  refine aj_iaload (q := 11) (f := 700) dX10_making_10 rfl lM_7 rfl (vp_in_nI (by omega) (by omega)) ?_
  try simp (decide := true) only [sw_eq, sw_ne, zr_ne, ne_eq, Nat.reduceEqDiff, not_false_eq_true, nI_pred, nI_1, gPay_ne, hn, ha, hb, cl n, cl s, cl a, cl b]
  refine aj_istore_n (q := 12) (i := 2) (ls' := [_, _, _, _]) dX10_making_11 rfl rfl (by decide) rfl ?_
  refine aj_aload_n (q := 13) (i := 0) dX10_making_12 rfl rfl rfl ?_
  refine aj_iconst (q := 14) (v := 4) dX10_making_13 rfl (by decide) ?_
  refine aj_iload_n (q := 15) (i := 2) dX10_making_14 rfl rfl rfl ?_
  refine aj_if_ge (q := 18) (tgt := 22) dX10_making_15 rfl (by decide) (fun _ => ?_) (fun c => (c h0).elim)
  refine aj_iconst (q := 23) (v := 1) dX10_making_22 rfl (by decide) ?_
  refine aj_iload_n (q := 24) (i := 2) dX10_making_23 rfl rfl rfl ?_
  refine aj_iconst (q := 25) (v := 4) dX10_making_24 rfl (by decide) ?_
  refine aj_idiv (q := 26) dX10_making_25 rfl (by decide) ?_
  refine aj_iadd (q := 27) dX10_making_26 rfl ?_
  try simp (decide := true) only [sw_eq, sw_ne, zr_ne, ne_eq, Nat.reduceEqDiff, not_false_eq_true, nI_pred, nI_1, gPay_ne, hn, ha, hb, cl n, cl s, cl a, cl b]
  refine aj_callV (q := 30) (As := [_, _]) cl_X10_153 mk_X10_pays dX10_making_27 rfl lM_0 rfl rfl (Nat.le_of_ble_eq_true rfl) (sp_X10_pays (vp_in_iff.mpr (by decide)) hD ?_)
  refine aj_ifB_ne (q := 33) (tgt := 34) dX10_making_30 rfl (by decide) (fun c => absurd (hp.symm.trans c) (by decide)) (fun _ => ?_)
  refine aj_return dX10_making_33 rfl ?_
  with_reducible exact hQ
theorem sp_X10_making_no_n {d : Nat} {S : Sx} {Q : Option Value → Sx → Prop} {n s a b : Nat} (hn : S 30 0 = nI (n + 1)) (hnb : n + 1 < 180) (hsb : s < 120) (hD : DrOk S) (ha : S 200 s = nI a) (hab : a < 4) (hb : S 300 s = nI b) (hbb : b < 8) (h0 : ¬ 0 ≤ S 700 b) (hp : gPayB S (mkPrice (S 700 b)) = false) (hQ : Q none (gPayS S 4 (mkPrice (S 700 b)))) : CC (d + 3) kX10_making layM [.ref 0, .int (nI s)] S Q := by
  refine cc_intro [some _, some _, none, none] (by decide) (cc_cat (by rfl)) (Nat.le_of_ble_eq_true rfl) (cc_ls (by rfl)) ?_
  rw [mkp_n h0] at hQ hp
  refine aj_aload_n (q := 1) (i := 0) dX10_making_0 rfl rfl rfl ?_
  refine aj_getR (q := 4) fl_X10_32 dX10_making_1 rfl lM_0 rfl ?_
  refine aj_aload_n (q := 5) (i := 0) dX10_making_4 rfl rfl rfl ?_
  refine aj_getR (q := 8) fl_X10_20 dX10_making_5 rfl lM_0 rfl ?_
  refine aj_iload_n (q := 9) (i := 1) dX10_making_8 rfl rfl rfl ?_
  refine aj_iaload (q := 10) (f := 300) dX10_making_9 rfl lM_3 rfl (vp_in_nI (by omega) (by omega)) ?_
  try simp (decide := true) only [sw_eq, sw_ne, zr_ne, ne_eq, Nat.reduceEqDiff, not_false_eq_true, nI_pred, nI_1, gPay_ne, hn, ha, hb, cl n, cl s, cl a, cl b]
  refine aj_iaload (q := 11) (f := 700) dX10_making_10 rfl lM_7 rfl (vp_in_nI (by omega) (by omega)) ?_
  try simp (decide := true) only [sw_eq, sw_ne, zr_ne, ne_eq, Nat.reduceEqDiff, not_false_eq_true, nI_pred, nI_1, gPay_ne, hn, ha, hb, cl n, cl s, cl a, cl b]
  refine aj_istore_n (q := 12) (i := 2) (ls' := [_, _, _, _]) dX10_making_11 rfl rfl (by decide) rfl ?_
  refine aj_aload_n (q := 13) (i := 0) dX10_making_12 rfl rfl rfl ?_
  refine aj_iconst (q := 14) (v := 4) dX10_making_13 rfl (by decide) ?_
  refine aj_iload_n (q := 15) (i := 2) dX10_making_14 rfl rfl rfl ?_
  refine aj_if_ge (q := 18) (tgt := 22) dX10_making_15 rfl (by decide) (fun c => absurd c h0) (fun _ => ?_)
  refine aj_iconst (q := 19) (v := 1) dX10_making_18 rfl (by decide) ?_
  refine aj_goto (tgt := 27) dX10_making_19 (by decide) ?_
  refine aj_callV (q := 30) (As := [_, _]) cl_X10_153 mk_X10_pays dX10_making_27 rfl lM_0 rfl rfl (Nat.le_of_ble_eq_true rfl) (sp_X10_pays (vp_in_iff.mpr (by decide)) hD ?_)
  refine aj_ifB_ne (q := 33) (tgt := 34) dX10_making_30 rfl (by decide) (fun c => absurd (hp.symm.trans c) (by decide)) (fun _ => ?_)
  refine aj_return dX10_making_33 rfl ?_
  with_reducible exact hQ
theorem sp_X10_making_neg {d : Nat} {S : Sx} {Q : Option Value → Sx → Prop} {n s a b : Nat} (hn : S 30 0 = nI (n + 1)) (hnb : n + 1 < 180) (hsb : s < 120) (hD : DrOk S) (ha : S 200 s = nI a) (hab : a < 4) (hb : S 300 s = nI b) (hbb : b < 8) (h0 : ¬ 0 ≤ S 700 b) (hp : gPayB S (mkPrice (S 700 b)) = true) (hQ : Q none (gThrow (gPayS S 4 (mkPrice (S 700 b))) n 3 0)) : CC (d + 3) kX10_making layM [.ref 0, .int (nI s)] S Q := by
  refine cc_intro [some _, some _, none, none] (by decide) (cc_cat (by rfl)) (Nat.le_of_ble_eq_true rfl) (cc_ls (by rfl)) ?_
  rw [mkp_n h0] at hQ hp
  refine aj_aload_n (q := 1) (i := 0) dX10_making_0 rfl rfl rfl ?_
  refine aj_getR (q := 4) fl_X10_32 dX10_making_1 rfl lM_0 rfl ?_
  refine aj_aload_n (q := 5) (i := 0) dX10_making_4 rfl rfl rfl ?_
  refine aj_getR (q := 8) fl_X10_20 dX10_making_5 rfl lM_0 rfl ?_
  refine aj_iload_n (q := 9) (i := 1) dX10_making_8 rfl rfl rfl ?_
  refine aj_iaload (q := 10) (f := 300) dX10_making_9 rfl lM_3 rfl (vp_in_nI (by omega) (by omega)) ?_
  try simp (decide := true) only [sw_eq, sw_ne, zr_ne, ne_eq, Nat.reduceEqDiff, not_false_eq_true, nI_pred, nI_1, gPay_ne, hn, ha, hb, cl n, cl s, cl a, cl b, hp]
  refine aj_iaload (q := 11) (f := 700) dX10_making_10 rfl lM_7 rfl (vp_in_nI (by omega) (by omega)) ?_
  try simp (decide := true) only [sw_eq, sw_ne, zr_ne, ne_eq, Nat.reduceEqDiff, not_false_eq_true, nI_pred, nI_1, gPay_ne, hn, ha, hb, cl n, cl s, cl a, cl b, hp]
  refine aj_istore_n (q := 12) (i := 2) (ls' := [_, _, _, _]) dX10_making_11 rfl rfl (by decide) rfl ?_
  refine aj_aload_n (q := 13) (i := 0) dX10_making_12 rfl rfl rfl ?_
  refine aj_iconst (q := 14) (v := 4) dX10_making_13 rfl (by decide) ?_
  refine aj_iload_n (q := 15) (i := 2) dX10_making_14 rfl rfl rfl ?_
  refine aj_if_ge (q := 18) (tgt := 22) dX10_making_15 rfl (by decide) (fun c => absurd c h0) (fun _ => ?_)
  refine aj_iconst (q := 19) (v := 1) dX10_making_18 rfl (by decide) ?_
  refine aj_goto (tgt := 27) dX10_making_19 (by decide) ?_
  refine aj_callV (q := 30) (As := [_, _]) cl_X10_153 mk_X10_pays dX10_making_27 rfl lM_0 rfl rfl (Nat.le_of_ble_eq_true rfl) (sp_X10_pays (vp_in_iff.mpr (by decide)) hD ?_)
  refine aj_ifB_ne (q := 33) (tgt := 34) dX10_making_30 rfl (by decide) (fun _ => ?_) (fun c => absurd (hp.symm.trans c) (by decide))
  refine aj_iload_n (q := 35) (i := 2) dX10_making_34 rfl rfl rfl ?_
  refine aj_if_ge (q := 38) (tgt := 45) dX10_making_35 rfl (by decide) (fun c => absurd c h0) (fun _ => ?_)
  refine aj_aload_n (q := 39) (i := 0) dX10_making_38 rfl rfl rfl ?_
  refine aj_iconst (q := 40) (v := 3) dX10_making_39 rfl (by decide) ?_
  refine aj_iconst (q := 41) (v := 0) dX10_making_40 rfl (by decide) ?_
  refine aj_callV (q := 44) (As := [_, _]) cl_X10_149 mk_X10_throwing dX10_making_41 rfl lM_0 rfl rfl (Nat.le_of_ble_eq_true rfl) (sp_X10_throwing (n := n) (by simp (decide := true) only [sw_eq, sw_ne, ne_eq, Nat.reduceEqDiff, not_false_eq_true, gPay_ne, hn, hp]) ?_)
  refine aj_return dX10_making_44 rfl ?_
  with_reducible exact hQ
def gMade (P : Sx) (n a w u z : Nat) : Sx := gComes (sw (sw (sw (zr (sw (sw P 1000 w (nI z)) 1100 w (nI u)) 1200 u z) 14 0 (nI (u + z))) 800 a (nI w)) 11 0 (nI (w + 1))) n 0
theorem zr_0 (S : Sx) (f u : Nat) : zr S f u 0 = S := by
  funext g j
  unfold zr
  rw [if_neg (by omega)]
theorem zr_s (S : Sx) (f u z : Nat) : sw (zr S f u z) f (u + z) 0 = zr S f u (z + 1) := by
  funext g j
  unfold sw zr
  by_cases h1 : g = f
  · by_cases h2 : j = u + z
    · rw [if_pos h1, if_pos h2, if_pos (by omega)]
    · by_cases h3 : u ≤ j ∧ j < u + z
      · rw [if_pos h1, if_neg h2, if_pos ⟨h1, h3⟩, if_pos (by omega)]
      · rw [if_pos h1, if_neg h2, if_neg (by omega), if_neg (by omega)]
  · rw [if_neg h1, if_neg (by omega), if_neg (by omega)]
theorem mk_loop {d n s a w u z : Nat} {P : Sx} {Q : Option Value → Sx → Prop} (hn : P 30 0 = nI (n + 1)) (hnb : n + 1 < 180) (hsb : s < 120) (ha : P 200 s = nI a) (hab : a < 4) (hw : P 11 0 = nI w) (hwb : w < 300) (hu : P 14 0 = nI u) (hz : u + z ≤ 1400) (hQ : Q none (gMade P n a w u z)) : ∀ (t i : Nat), i + t = z → AJ (d + 3) kX10_making layM 70 [some (.ref 0), some (.int (nI s)), some (.int (nI z)), some (.int (nI i))] [] (zr (sw (sw P 1000 w (nI z)) 1100 w (nI u)) 1200 u i) Q := by
  intro t
  induction t with
  | zero =>
    intro i hi
    obtain rfl : i = z := by omega
    refine aj_iload_n (q := 71) (i := 3) dX10_making_70 rfl rfl rfl ?_
    refine aj_iload_n (q := 72) (i := 2) dX10_making_71 rfl rfl rfl ?_
    refine aj_icmp_ge (q := 75) (tgt := 93) dX10_making_72 rfl (by decide) (fun _ => ?_) (fun c => (c (nI_le (Nat.le_refl _) (by omega))).elim)
    refine aj_aload_n (q := 94) (i := 0) dX10_making_93 rfl rfl rfl ?_
    refine aj_dup (q := 95) dX10_making_94 rfl rfl ?_
    refine aj_getI (q := 98) (f := 14) fl_X10_159 dX10_making_95 rfl lM_0 rfl rfl ?_
    try simp (decide := true) only [sw_eq, sw_ne, zr_ne, ne_eq, Nat.reduceEqDiff, not_false_eq_true, nI_pred, nI_1, nI_add, hn, ha, hw, hu, cl s, cl a, cl w, cl i]
    refine aj_iload_n (q := 99) (i := 2) dX10_making_98 rfl rfl rfl ?_
    refine aj_iadd (q := 100) dX10_making_99 rfl ?_
    try simp (decide := true) only [sw_eq, sw_ne, zr_ne, ne_eq, Nat.reduceEqDiff, not_false_eq_true, nI_pred, nI_1, nI_add, hn, ha, hw, hu, cl s, cl a, cl w, cl i]
    refine aj_putI (q := 103) (f := 14) okM fp_X10_159 dX10_making_100 rfl lM_0 rfl rfl ?_
    refine aj_aload_n (q := 104) (i := 0) dX10_making_103 rfl rfl rfl ?_
    refine aj_getR (q := 107) fl_X10_35 dX10_making_104 rfl lM_0 rfl ?_
    refine aj_aload_n (q := 108) (i := 0) dX10_making_107 rfl rfl rfl ?_
    refine aj_getR (q := 111) fl_X10_17 dX10_making_108 rfl lM_0 rfl ?_
    refine aj_iload_n (q := 112) (i := 1) dX10_making_111 rfl rfl rfl ?_
    refine aj_iaload (q := 113) (f := 200) dX10_making_112 rfl lM_2 rfl (vp_in_nI (by omega) (by omega)) ?_
    try simp (decide := true) only [sw_eq, sw_ne, zr_ne, ne_eq, Nat.reduceEqDiff, not_false_eq_true, nI_pred, nI_1, nI_add, hn, ha, hw, hu, cl s, cl a, cl w, cl i]
    refine aj_aload_n (q := 114) (i := 0) dX10_making_113 rfl rfl rfl ?_
    refine aj_getI (q := 117) (f := 11) fl_X10_156 dX10_making_114 rfl lM_0 rfl rfl ?_
    try simp (decide := true) only [sw_eq, sw_ne, zr_ne, ne_eq, Nat.reduceEqDiff, not_false_eq_true, nI_pred, nI_1, nI_add, hn, ha, hw, hu, cl s, cl a, cl w, cl i]
    refine aj_iastore (q := 118) (f := 800) okM dX10_making_117 rfl lM_8 rfl (vp_in_nI (by omega) (by omega)) ?_
    refine aj_aload_n (q := 119) (i := 0) dX10_making_118 rfl rfl rfl ?_
    refine aj_dup (q := 120) dX10_making_119 rfl rfl ?_
    refine aj_getI (q := 123) (f := 11) fl_X10_156 dX10_making_120 rfl lM_0 rfl rfl ?_
    try simp (decide := true) only [sw_eq, sw_ne, zr_ne, ne_eq, Nat.reduceEqDiff, not_false_eq_true, nI_pred, nI_1, nI_add, hn, ha, hw, hu, cl s, cl a, cl w, cl i]
    refine aj_iconst (q := 124) (v := 1) dX10_making_123 rfl (by decide) ?_
    refine aj_iadd (q := 125) dX10_making_124 rfl ?_
    try simp (decide := true) only [sw_eq, sw_ne, zr_ne, ne_eq, Nat.reduceEqDiff, not_false_eq_true, nI_pred, nI_1, nI_add, hn, ha, hw, hu, cl s, cl a, cl w, cl i]
    refine aj_putI (q := 128) (f := 11) okM fp_X10_156 dX10_making_125 rfl lM_0 rfl rfl ?_
    refine aj_aload_n (q := 129) (i := 0) dX10_making_128 rfl rfl rfl ?_
    refine aj_iconst (q := 130) (v := 0) dX10_making_129 rfl (by decide) ?_
    refine aj_callV (q := 133) (As := [_]) cl_X10_118 mk_X10_comes dX10_making_130 rfl lM_0 rfl rfl (Nat.le_of_ble_eq_true rfl) (sp_X10_comes (n := n) (by simp (decide := true) only [sw_eq, sw_ne, zr_ne, ne_eq, Nat.reduceEqDiff, not_false_eq_true, hn]) ?_)
    refine aj_return dX10_making_133 rfl ?_
    simp (decide := true) only [gMade] at hQ
    with_reducible exact hQ
  | succ t ih =>
    intro i hi
    refine aj_iload_n (q := 71) (i := 3) dX10_making_70 rfl rfl rfl ?_
    refine aj_iload_n (q := 72) (i := 2) dX10_making_71 rfl rfl rfl ?_
    refine aj_icmp_ge (q := 75) (tgt := 93) dX10_making_72 rfl (by decide) (fun c => absurd c (nI_ge (show i < z by omega) (by omega))) (fun _ => ?_)
    refine aj_aload_n (q := 76) (i := 0) dX10_making_75 rfl rfl rfl ?_
    refine aj_getR (q := 79) fl_X10_47 dX10_making_76 rfl lM_0 rfl ?_
    refine aj_aload_n (q := 80) (i := 0) dX10_making_79 rfl rfl rfl ?_
    refine aj_getI (q := 83) (f := 14) fl_X10_159 dX10_making_80 rfl lM_0 rfl rfl ?_
    try simp (decide := true) only [sw_eq, sw_ne, zr_ne, ne_eq, Nat.reduceEqDiff, not_false_eq_true, nI_pred, nI_1, nI_add, hn, ha, hw, hu, cl s, cl a, cl w, cl (u + i)]
    refine aj_iload_n (q := 84) (i := 3) dX10_making_83 rfl rfl rfl ?_
    refine aj_iadd (q := 85) dX10_making_84 rfl ?_
    try simp (decide := true) only [sw_eq, sw_ne, zr_ne, ne_eq, Nat.reduceEqDiff, not_false_eq_true, nI_pred, nI_1, nI_add, hn, ha, hw, hu, cl s, cl a, cl w, cl (u + i)]
    refine aj_iconst (q := 86) (v := 0) dX10_making_85 rfl (by decide) ?_
    refine aj_iastore (q := 87) (f := 1200) okM dX10_making_86 rfl lM_12 rfl (vp_in_nI (by omega) (by omega)) ?_
    refine aj_iinc (q := 90) (i := 3) (ls' := [_, _, _, _]) dX10_making_87 rfl rfl (nI_1 i) (by decide) rfl ?_
    refine aj_goto (tgt := 70) dX10_making_90 (by decide) ?_
    rw [cl (u + i), zr_s]
    exact ih (i + 1) (by omega)
theorem sp_X10_making_ok {d : Nat} {S : Sx} {Q : Option Value → Sx → Prop} {n s a b : Nat} {w u z : Nat} (hn : S 30 0 = nI (n + 1)) (hnb : n + 1 < 180) (hsb : s < 120) (hD : DrOk S) (ha : S 200 s = nI a) (hab : a < 4) (hb : S 300 s = nI b) (hbb : b < 8) (hp : gPayB S (mkPrice (nI z)) = true) (hz : S 700 b = nI z) (hw : S 11 0 = nI w) (hwb : w < 300) (hu : S 14 0 = nI u) (huz : u + z ≤ 1400) (hQ : Q none (gMade (gPayS S 4 (mkPrice (nI z))) n a w u z)) : CC (d + 3) kX10_making layM [.ref 0, .int (nI s)] S Q := by
  refine cc_intro [some _, some _, none, none] (by decide) (cc_cat (by rfl)) (Nat.le_of_ble_eq_true rfl) (cc_ls (by rfl)) ?_
  rw [mkp_p (nI_pos' (by omega))] at hQ hp
  refine aj_aload_n (q := 1) (i := 0) dX10_making_0 rfl rfl rfl ?_
  refine aj_getR (q := 4) fl_X10_32 dX10_making_1 rfl lM_0 rfl ?_
  refine aj_aload_n (q := 5) (i := 0) dX10_making_4 rfl rfl rfl ?_
  refine aj_getR (q := 8) fl_X10_20 dX10_making_5 rfl lM_0 rfl ?_
  refine aj_iload_n (q := 9) (i := 1) dX10_making_8 rfl rfl rfl ?_
  refine aj_iaload (q := 10) (f := 300) dX10_making_9 rfl lM_3 rfl (vp_in_nI (by omega) (by omega)) ?_
  try simp (decide := true) only [sw_eq, sw_ne, zr_ne, ne_eq, Nat.reduceEqDiff, not_false_eq_true, nI_pred, nI_1, gPay_ne, hn, ha, hb, cl n, cl s, cl a, cl b, hp, hw, hu, hz, cl w]
  refine aj_iaload (q := 11) (f := 700) dX10_making_10 rfl lM_7 rfl (vp_in_nI (by omega) (by omega)) ?_
  try simp (decide := true) only [sw_eq, sw_ne, zr_ne, ne_eq, Nat.reduceEqDiff, not_false_eq_true, nI_pred, nI_1, gPay_ne, hn, ha, hb, cl n, cl s, cl a, cl b, hp, hw, hu, hz, cl w]
  refine aj_istore_n (q := 12) (i := 2) (ls' := [_, _, _, _]) dX10_making_11 rfl rfl (by decide) rfl ?_
  refine aj_aload_n (q := 13) (i := 0) dX10_making_12 rfl rfl rfl ?_
  refine aj_iconst (q := 14) (v := 4) dX10_making_13 rfl (by decide) ?_
  refine aj_iload_n (q := 15) (i := 2) dX10_making_14 rfl rfl rfl ?_
  refine aj_if_ge (q := 18) (tgt := 22) dX10_making_15 rfl (by decide) (fun _ => ?_) (fun c => (c (nI_pos' (by omega))).elim)
  refine aj_iconst (q := 23) (v := 1) dX10_making_22 rfl (by decide) ?_
  refine aj_iload_n (q := 24) (i := 2) dX10_making_23 rfl rfl rfl ?_
  refine aj_iconst (q := 25) (v := 4) dX10_making_24 rfl (by decide) ?_
  refine aj_idiv (q := 26) dX10_making_25 rfl (by decide) ?_
  refine aj_iadd (q := 27) dX10_making_26 rfl ?_
  try simp (decide := true) only [sw_eq, sw_ne, zr_ne, ne_eq, Nat.reduceEqDiff, not_false_eq_true, nI_pred, nI_1, gPay_ne, hn, ha, hb, cl n, cl s, cl a, cl b, hp, hw, hu, hz, cl w]
  refine aj_callV (q := 30) (As := [_, _]) cl_X10_153 mk_X10_pays dX10_making_27 rfl lM_0 rfl rfl (Nat.le_of_ble_eq_true rfl) (sp_X10_pays (vp_in_iff.mpr (by decide)) hD ?_)
  refine aj_ifB_ne (q := 33) (tgt := 34) dX10_making_30 rfl (by decide) (fun _ => ?_) (fun c => absurd (hp.symm.trans c) (by decide))
  refine aj_iload_n (q := 35) (i := 2) dX10_making_34 rfl rfl rfl ?_
  refine aj_if_ge (q := 38) (tgt := 45) dX10_making_35 rfl (by decide) (fun _ => ?_) (fun c => (c (nI_pos' (by omega))).elim)
  refine aj_aload_n (q := 46) (i := 0) dX10_making_45 rfl rfl rfl ?_
  refine aj_getR (q := 49) fl_X10_41 dX10_making_46 rfl lM_0 rfl ?_
  refine aj_aload_n (q := 50) (i := 0) dX10_making_49 rfl rfl rfl ?_
  refine aj_getI (q := 53) (f := 11) fl_X10_156 dX10_making_50 rfl lM_0 rfl rfl ?_
  try simp (decide := true) only [sw_eq, sw_ne, zr_ne, ne_eq, Nat.reduceEqDiff, not_false_eq_true, nI_pred, nI_1, gPay_ne, hn, ha, hb, cl n, cl s, cl a, cl b, hp, hw, hu, hz, cl w]
  refine aj_iload_n (q := 54) (i := 2) dX10_making_53 rfl rfl rfl ?_
  refine aj_iastore (q := 55) (f := 1000) okM dX10_making_54 rfl lM_10 rfl (vp_in_nI (by omega) (by omega)) ?_
  refine aj_aload_n (q := 56) (i := 0) dX10_making_55 rfl rfl rfl ?_
  refine aj_getR (q := 59) fl_X10_44 dX10_making_56 rfl lM_0 rfl ?_
  refine aj_aload_n (q := 60) (i := 0) dX10_making_59 rfl rfl rfl ?_
  refine aj_getI (q := 63) (f := 11) fl_X10_156 dX10_making_60 rfl lM_0 rfl rfl ?_
  try simp (decide := true) only [sw_eq, sw_ne, zr_ne, ne_eq, Nat.reduceEqDiff, not_false_eq_true, nI_pred, nI_1, gPay_ne, hn, ha, hb, cl n, cl s, cl a, cl b, hp, hw, hu, hz, cl w]
  refine aj_aload_n (q := 64) (i := 0) dX10_making_63 rfl rfl rfl ?_
  refine aj_getI (q := 67) (f := 14) fl_X10_159 dX10_making_64 rfl lM_0 rfl rfl ?_
  try simp (decide := true) only [sw_eq, sw_ne, zr_ne, ne_eq, Nat.reduceEqDiff, not_false_eq_true, nI_pred, nI_1, gPay_ne, hn, ha, hb, cl n, cl s, cl a, cl b, hp, hw, hu, hz, cl w]
  refine aj_iastore (q := 68) (f := 1100) okM dX10_making_67 rfl lM_11 rfl (vp_in_nI (by omega) (by omega)) ?_
  refine aj_iconst (q := 69) (v := 0) dX10_making_68 rfl (by decide) ?_
  refine aj_istore_n (q := 70) (i := 3) (ls' := [_, _, _, _]) dX10_making_69 rfl rfl (by decide) rfl ?_
  simp only [cl w]
  have hl := mk_loop (d := d) (P := gPayS S 4 (1 + nI z / 4)) (s := s) (n := n) (Q := Q) (by rw [gPay_ne hp rfl]; exact hn) hnb hsb (by rw [gPay_ne hp rfl]; exact ha) hab (by rw [gPay_ne hp rfl]; exact hw) hwb (by rw [gPay_ne hp rfl]; exact hu) huz hQ z 0 (by omega)
  rw [zr_0, nI_0] at hl
  with_reducible exact hl
