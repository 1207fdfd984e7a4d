theorem sp_X10_making_no {d : Nat} {S : Sx} {Q : Option Value → Sx → Prop} {n s a b : Nat} (hn : S 30 0 = nI (n + 1)) (hnb : n + 1 < 180) (hsb : s < 120) (hD : DrOk S) (ha : S 200 s = nI a) (hab : a < 4) (hb : S 300 s = nI b) (hbb : b < 8) (hp : gPayB S (mkPrice (S 700 b)) = false) (hQ : Q none (gPayS S 4 (mkPrice (S 700 b)))) : CC (d + 3) kX10_making layM [.ref 0, .int (nI s)] S Q := by
  by_cases h0 : 0 ≤ S 700 b
  · exact sp_X10_making_no_p hn hnb hsb hD ha hab hb hbb h0 hp hQ
  · exact sp_X10_making_no_n hn hnb hsb hD ha hab hb hbb h0 hp hQ
theorem sp_X10_simple_0 {d : Nat} {S : Sx} {Q : Option Value → Sx → Prop} {n s a : Nat} (hn : S 30 0 = nI (n + 1)) (hnb : n + 1 < 180) (hsb : s < 120) (ht : S 100 s = 0) (ha : S 200 s = nI a) (hab : a < 8)  (hQ : Q none (gComes (sw S 700 a (S 300 s)) n 0)) : CC (d + 4) kX10_simple layM [.ref 0, .int (nI s)] S Q := by
  refine cc_intro [some _, some _, none, none, none] (by decide) (cc_cat (by rfl)) (Nat.le_of_ble_eq_true rfl) (cc_ls (by rfl)) ?_
  refine aj_aload_n (q := 1) (i := 0) dX10_simple_0 rfl rfl rfl ?_
  refine aj_getR (q := 4) fl_X10_17 dX10_simple_1 rfl lM_0 rfl ?_
  refine aj_iload_n (q := 5) (i := 1) dX10_simple_4 rfl rfl rfl ?_
  refine aj_iaload (q := 6) (f := 200) dX10_simple_5 rfl lM_2 rfl (vp_in_nI (by omega) (by omega)) ?_
  try simp (decide := true) only [sw_eq, sw_ne, ne_eq, Nat.reduceEqDiff, not_false_eq_true, nI_pred, nI_1, gPay_ne, hn, ht, cl n, cl s, ha, cl a]
  refine aj_istore_n (q := 7) (i := 2) (ls' := [_, _, _, _, _]) dX10_simple_6 rfl rfl (by decide) rfl ?_
  refine aj_aload_n (q := 8) (i := 0) dX10_simple_7 rfl rfl rfl ?_
  refine aj_getR (q := 11) fl_X10_20 dX10_simple_8 rfl lM_0 rfl ?_
  refine aj_iload_n (q := 12) (i := 1) dX10_simple_11 rfl rfl rfl ?_
  refine aj_iaload (q := 13) (f := 300) dX10_simple_12 rfl lM_3 rfl (vp_in_nI (by omega) (by omega)) ?_
  try simp (decide := true) only [sw_eq, sw_ne, ne_eq, Nat.reduceEqDiff, not_false_eq_true, nI_pred, nI_1, gPay_ne, hn, ht, cl n, cl s, ha, cl a]
  refine aj_istore_n (q := 14) (i := 3) (ls' := [_, _, _, _, _]) dX10_simple_13 rfl rfl (by decide) rfl ?_
  refine aj_aload_n (q := 15) (i := 0) dX10_simple_14 rfl rfl rfl ?_
  refine aj_getR (q := 18) fl_X10_23 dX10_simple_15 rfl lM_0 rfl ?_
  refine aj_iload_n (q := 19) (i := 1) dX10_simple_18 rfl rfl rfl ?_
  refine aj_iaload (q := 20) (f := 400) dX10_simple_19 rfl lM_4 rfl (vp_in_nI (by omega) (by omega)) ?_
  try simp (decide := true) only [sw_eq, sw_ne, ne_eq, Nat.reduceEqDiff, not_false_eq_true, nI_pred, nI_1, gPay_ne, hn, ht, cl n, cl s, ha, cl a]
  refine aj_istore (q := 22) (i := 4) (ls' := [_, _, _, _, _]) dX10_simple_20 rfl (by decide) rfl ?_
  refine aj_aload_n (q := 23) (i := 0) dX10_simple_22 rfl rfl rfl ?_
  refine aj_getR (q := 26) fl_X10_13 dX10_simple_23 rfl lM_0 rfl ?_
  refine aj_iload_n (q := 27) (i := 1) dX10_simple_26 rfl rfl rfl ?_
  refine aj_iaload (q := 28) (f := 100) dX10_simple_27 rfl lM_1 rfl (vp_in_nI (by omega) (by omega)) ?_
  try simp (decide := true) only [sw_eq, sw_ne, ne_eq, Nat.reduceEqDiff, not_false_eq_true, nI_pred, nI_1, gPay_ne, hn, ht, cl n, cl s, ha, cl a]
  refine aj_tsIn (tgt := 132) (off := 104) dX10_simple_28 (by rw [show (_ : Int32) = 0 from rfl]; decide) (by rw [show (_ : Int32) = 0 from rfl]; decide) (by rw [show (_ : Int32) = 0 from rfl]; rfl) (by decide) ?_
  refine aj_aload_n (q := 133) (i := 0) dX10_simple_132 rfl rfl rfl ?_
  refine aj_getR (q := 136) fl_X10_32 dX10_simple_133 rfl lM_0 rfl ?_
  refine aj_iload_n (q := 137) (i := 2) dX10_simple_136 rfl rfl rfl ?_
  refine aj_iload_n (q := 138) (i := 3) dX10_simple_137 rfl rfl rfl ?_
  refine aj_iastore (q := 139) (f := 700) okM dX10_simple_138 rfl lM_7 rfl (vp_in_nI (by omega) (by omega)) ?_
  refine aj_aload_n (q := 140) (i := 0) dX10_simple_139 rfl rfl rfl ?_
  refine aj_iconst (q := 141) (v := 0) dX10_simple_140 rfl (by decide) ?_
  refine aj_callV (q := 144) (As := [_]) cl_X10_118 mk_X10_comes dX10_simple_141 rfl lM_0 rfl rfl (Nat.le_of_ble_eq_true rfl) (sp_X10_comes (n := n) (by simp (decide := true) only [sw_eq, sw_ne, ne_eq, Nat.reduceEqDiff, not_false_eq_true, gPay_ne, hn]) ?_)
  refine aj_return dX10_simple_144 rfl ?_
  first | contradiction | with_reducible exact hQ | (simp (decide := true) only [↓reduceIte, Bool.false_eq_true, bi_t, bi_f, sw_eq, sw_ne, ne_eq, Nat.reduceEqDiff, not_false_eq_true, nI_pred, nI_1, gPay_ne, hn, ht, cl n, cl s, ha, cl a, ] at hQ ⊢; with_reducible exact hQ)
theorem sp_X10_simple_7 {d : Nat} {S : Sx} {Q : Option Value → Sx → Prop} {n s a b c : Nat} (hn : S 30 0 = nI (n + 1)) (hnb : n + 1 < 180) (hsb : s < 120) (ht : S 100 s = 7) (ha : S 200 s = nI a) (hab : a < 8) (hb : S 300 s = nI b) (hbb : b < 4) (hc : S 400 s = nI c) (hcb : c < 8) (hst : S 37 0 = -1) (hx : ¬ S 800 b = -1 → vp_in (S 800 b) 300) (hcell : gHasB S b (S 700 c) = true → vp_in (S 1100 (S 800 b).toNatClampNeg + S 700 c) 1400)  (hQ : Q none (if gHasB S b (S 700 c) then gComes (sw S 700 a (S 1200 (S 1100 (S 800 b).toNatClampNeg + S 700 c).toNatClampNeg)) n 0 else gHasS S n b (S 700 c))) : CC (d + 4) kX10_simple layM [.ref 0, .int (nI s)] S Q := by
  refine cc_intro [some _, some _, none, none, none] (by decide) (cc_cat (by rfl)) (Nat.le_of_ble_eq_true rfl) (cc_ls (by rfl)) ?_
  refine aj_aload_n (q := 1) (i := 0) dX10_simple_0 rfl rfl rfl ?_
  refine aj_getR (q := 4) fl_X10_17 dX10_simple_1 rfl lM_0 rfl ?_
  refine aj_iload_n (q := 5) (i := 1) dX10_simple_4 rfl rfl rfl ?_
  refine aj_iaload (q := 6) (f := 200) dX10_simple_5 rfl lM_2 rfl (vp_in_nI (by omega) (by omega)) ?_
  try simp (decide := true) only [sw_eq, sw_ne, ne_eq, Nat.reduceEqDiff, not_false_eq_true, nI_pred, nI_1, gPay_ne, hn, ht, cl n, cl s, ha, hb, hc, cl a, cl b, cl c]
  refine aj_istore_n (q := 7) (i := 2) (ls' := [_, _, _, _, _]) dX10_simple_6 rfl rfl (by decide) rfl ?_
  refine aj_aload_n (q := 8) (i := 0) dX10_simple_7 rfl rfl rfl ?_
  refine aj_getR (q := 11) fl_X10_20 dX10_simple_8 rfl lM_0 rfl ?_
  refine aj_iload_n (q := 12) (i := 1) dX10_simple_11 rfl rfl rfl ?_
  refine aj_iaload (q := 13) (f := 300) dX10_simple_12 rfl lM_3 rfl (vp_in_nI (by omega) (by omega)) ?_
  try simp (decide := true) only [sw_eq, sw_ne, ne_eq, Nat.reduceEqDiff, not_false_eq_true, nI_pred, nI_1, gPay_ne, hn, ht, cl n, cl s, ha, hb, hc, cl a, cl b, cl c]
  refine aj_istore_n (q := 14) (i := 3) (ls' := [_, _, _, _, _]) dX10_simple_13 rfl rfl (by decide) rfl ?_
  refine aj_aload_n (q := 15) (i := 0) dX10_simple_14 rfl rfl rfl ?_
  refine aj_getR (q := 18) fl_X10_23 dX10_simple_15 rfl lM_0 rfl ?_
  refine aj_iload_n (q := 19) (i := 1) dX10_simple_18 rfl rfl rfl ?_
  refine aj_iaload (q := 20) (f := 400) dX10_simple_19 rfl lM_4 rfl (vp_in_nI (by omega) (by omega)) ?_
  try simp (decide := true) only [sw_eq, sw_ne, ne_eq, Nat.reduceEqDiff, not_false_eq_true, nI_pred, nI_1, gPay_ne, hn, ht, cl n, cl s, ha, hb, hc, cl a, cl b, cl c]
  refine aj_istore (q := 22) (i := 4) (ls' := [_, _, _, _, _]) dX10_simple_20 rfl (by decide) rfl ?_
  refine aj_aload_n (q := 23) (i := 0) dX10_simple_22 rfl rfl rfl ?_
  refine aj_getR (q := 26) fl_X10_13 dX10_simple_23 rfl lM_0 rfl ?_
  refine aj_iload_n (q := 27) (i := 1) dX10_simple_26 rfl rfl rfl ?_
  refine aj_iaload (q := 28) (f := 100) dX10_simple_27 rfl lM_1 rfl (vp_in_nI (by omega) (by omega)) ?_
  try simp (decide := true) only [sw_eq, sw_ne, ne_eq, Nat.reduceEqDiff, not_false_eq_true, nI_pred, nI_1, gPay_ne, hn, ht, cl n, cl s, ha, hb, hc, cl a, cl b, cl c]
  refine aj_tsIn (tgt := 151) (off := 123) dX10_simple_28 (by rw [show (_ : Int32) = 7 from rfl]; decide) (by rw [show (_ : Int32) = 7 from rfl]; decide) (by rw [show (_ : Int32) = 7 from rfl]; rfl) (by decide) ?_
  refine aj_aload_n (q := 152) (i := 0) dX10_simple_151 rfl rfl rfl ?_
  refine aj_iload_n (q := 153) (i := 3) dX10_simple_152 rfl rfl rfl ?_
  refine aj_aload_n (q := 154) (i := 0) dX10_simple_153 rfl rfl rfl ?_
  refine aj_getR (q := 157) fl_X10_32 dX10_simple_154 rfl lM_0 rfl ?_
  refine aj_iload (q := 159) (i := 4) dX10_simple_157 rfl rfl ?_
  refine aj_iaload (q := 160) (f := 700) dX10_simple_159 rfl lM_7 rfl (vp_in_nI (by omega) (by omega)) ?_
  try simp (decide := true) only [sw_eq, sw_ne, ne_eq, Nat.reduceEqDiff, not_false_eq_true, nI_pred, nI_1, gPay_ne, hn, ht, cl n, cl s, ha, hb, hc, cl a, cl b, cl c]
  refine aj_callV (q := 163) (As := [_, _]) cl_X10_165 mk_X10_has dX10_simple_160 rfl lM_0 rfl rfl (Nat.le_of_ble_eq_true rfl) (sp_X10_has (n := n) (r := b) hn hnb (by omega) hst hx ?_)
  refine aj_ifB_ne (q := 166) (tgt := 167) dX10_simple_163 rfl (by decide) (fun c163_1 => ?_) (fun c163_1 => ?_)
  · simp only [gHas_t (show gHasB _ _ _ = true by assumption)]
    refine aj_aload_n (q := 168) (i := 0) dX10_simple_167 rfl rfl rfl ?_
    refine aj_getR (q := 171) fl_X10_32 dX10_simple_168 rfl lM_0 rfl ?_
    refine aj_iload_n (q := 172) (i := 2) dX10_simple_171 rfl rfl rfl ?_
    refine aj_aload_n (q := 173) (i := 0) dX10_simple_172 rfl rfl rfl ?_
    refine aj_getR (q := 176) fl_X10_47 dX10_simple_173 rfl lM_0 rfl ?_
    refine aj_aload_n (q := 177) (i := 0) dX10_simple_176 rfl rfl rfl ?_
    refine aj_getR (q := 180) fl_X10_44 dX10_simple_177 rfl lM_0 rfl ?_
    refine aj_aload_n (q := 181) (i := 0) dX10_simple_180 rfl rfl rfl ?_
    refine aj_getR (q := 184) fl_X10_35 dX10_simple_181 rfl lM_0 rfl ?_
    refine aj_iload_n (q := 185) (i := 3) dX10_simple_184 rfl rfl rfl ?_
    refine aj_iaload (q := 186) (f := 800) dX10_simple_185 rfl lM_8 rfl (vp_in_nI (by omega) (by omega)) ?_
    try simp (decide := true) only [sw_eq, sw_ne, ne_eq, Nat.reduceEqDiff, not_false_eq_true, nI_pred, nI_1, gPay_ne, hn, ht, cl n, cl s, ha, hb, hc, cl a, cl b, cl c, c163_1]
    refine aj_iaload (q := 187) (f := 1100) dX10_simple_186 rfl lM_11 rfl (hx (gHas_n (by assumption))) ?_
    try simp (decide := true) only [sw_eq, sw_ne, ne_eq, Nat.reduceEqDiff, not_false_eq_true, nI_pred, nI_1, gPay_ne, hn, ht, cl n, cl s, ha, hb, hc, cl a, cl b, cl c, c163_1]
    refine aj_aload_n (q := 188) (i := 0) dX10_simple_187 rfl rfl rfl ?_
    refine aj_getR (q := 191) fl_X10_32 dX10_simple_188 rfl lM_0 rfl ?_
    refine aj_iload (q := 193) (i := 4) dX10_simple_191 rfl rfl ?_
    refine aj_iaload (q := 194) (f := 700) dX10_simple_193 rfl lM_7 rfl (vp_in_nI (by omega) (by omega)) ?_
    try simp (decide := true) only [sw_eq, sw_ne, ne_eq, Nat.reduceEqDiff, not_false_eq_true, nI_pred, nI_1, gPay_ne, hn, ht, cl n, cl s, ha, hb, hc, cl a, cl b, cl c, c163_1]
    refine aj_iadd (q := 195) dX10_simple_194 rfl ?_
    try simp (decide := true) only [sw_eq, sw_ne, ne_eq, Nat.reduceEqDiff, not_false_eq_true, nI_pred, nI_1, gPay_ne, hn, ht, cl n, cl s, ha, hb, hc, cl a, cl b, cl c, c163_1]
    refine aj_iaload (q := 196) (f := 1200) dX10_simple_195 rfl lM_12 rfl (hcell (by assumption)) ?_
    try simp (decide := true) only [sw_eq, sw_ne, ne_eq, Nat.reduceEqDiff, not_false_eq_true, nI_pred, nI_1, gPay_ne, hn, ht, cl n, cl s, ha, hb, hc, cl a, cl b, cl c, c163_1]
    refine aj_iastore (q := 197) (f := 700) okM dX10_simple_196 rfl lM_7 rfl (vp_in_nI (by omega) (by omega)) ?_
    refine aj_aload_n (q := 198) (i := 0) dX10_simple_197 rfl rfl rfl ?_
    refine aj_iconst (q := 199) (v := 0) dX10_simple_198 rfl (by decide) ?_
    refine aj_callV (q := 202) (As := [_]) cl_X10_118 mk_X10_comes dX10_simple_199 rfl lM_0 rfl rfl (Nat.le_of_ble_eq_true rfl) (sp_X10_comes (n := n) (by simp (decide := true) only [sw_eq, sw_ne, ne_eq, Nat.reduceEqDiff, not_false_eq_true, gPay_ne, hn, c163_1]) ?_)
    refine aj_return dX10_simple_202 rfl ?_
    first | contradiction | with_reducible exact hQ | (simp (decide := true) only [↓reduceIte, Bool.false_eq_true, bi_t, bi_f, sw_eq, sw_ne, ne_eq, Nat.reduceEqDiff, not_false_eq_true, nI_pred, nI_1, gPay_ne, hn, ht, cl n, cl s, ha, hb, hc, cl a, cl b, cl c, c163_1] at hQ ⊢; with_reducible exact hQ)
  · refine aj_return dX10_simple_166 rfl ?_
    first | contradiction | with_reducible exact hQ | (simp (decide := true) only [↓reduceIte, Bool.false_eq_true, bi_t, bi_f, sw_eq, sw_ne, ne_eq, Nat.reduceEqDiff, not_false_eq_true, nI_pred, nI_1, gPay_ne, hn, ht, cl n, cl s, ha, hb, hc, cl a, cl b, cl c, c163_1] at hQ ⊢; with_reducible exact hQ)
theorem sp_X10_simple_8 {d : Nat} {S : Sx} {Q : Option Value → Sx → Prop} {n s a b c : Nat} (hn : S 30 0 = nI (n + 1)) (hnb : n + 1 < 180) (hsb : s < 120) (ht : S 100 s = 8) (ha : S 200 s = nI a) (hab : a < 4) (hb : S 300 s = nI b) (hbb : b < 8) (hc : S 400 s = nI c) (hcb : c < 8) (hst : S 37 0 = -1) (hx : ¬ S 800 a = -1 → vp_in (S 800 a) 300) (hcell : gHasB S a (S 700 b) = true → vp_in (S 1100 (S 800 a).toNatClampNeg + S 700 b) 1400)  (hQ : Q none (if gHasB S a (S 700 b) then gComes (sw S 1200 (S 1100 (S 800 a).toNatClampNeg + S 700 b).toNatClampNeg (S 700 c)) n 0 else gHasS S n a (S 700 b))) : CC (d + 4) kX10_simple layM [.ref 0, .int (nI s)] S Q := by
  refine cc_intro [some _, some _, none, none, none] (by decide) (cc_cat (by rfl)) (Nat.le_of_ble_eq_true rfl) (cc_ls (by rfl)) ?_
  refine aj_aload_n (q := 1) (i := 0) dX10_simple_0 rfl rfl rfl ?_
  refine aj_getR (q := 4) fl_X10_17 dX10_simple_1 rfl lM_0 rfl ?_
  refine aj_iload_n (q := 5) (i := 1) dX10_simple_4 rfl rfl rfl ?_
  refine aj_iaload (q := 6) (f := 200) dX10_simple_5 rfl lM_2 rfl (vp_in_nI (by omega) (by omega)) ?_
  try simp (decide := true) only [sw_eq, sw_ne, ne_eq, Nat.reduceEqDiff, not_false_eq_true, nI_pred, nI_1, gPay_ne, hn, ht, cl n, cl s, ha, hb, hc, cl a, cl b, cl c]
  refine aj_istore_n (q := 7) (i := 2) (ls' := [_, _, _, _, _]) dX10_simple_6 rfl rfl (by decide) rfl ?_
  refine aj_aload_n (q := 8) (i := 0) dX10_simple_7 rfl rfl rfl ?_
  refine aj_getR (q := 11) fl_X10_20 dX10_simple_8 rfl lM_0 rfl ?_
  refine aj_iload_n (q := 12) (i := 1) dX10_simple_11 rfl rfl rfl ?_
  refine aj_iaload (q := 13) (f := 300) dX10_simple_12 rfl lM_3 rfl (vp_in_nI (by omega) (by omega)) ?_
  try simp (decide := true) only [sw_eq, sw_ne, ne_eq, Nat.reduceEqDiff, not_false_eq_true, nI_pred, nI_1, gPay_ne, hn, ht, cl n, cl s, ha, hb, hc, cl a, cl b, cl c]
  refine aj_istore_n (q := 14) (i := 3) (ls' := [_, _, _, _, _]) dX10_simple_13 rfl rfl (by decide) rfl ?_
  refine aj_aload_n (q := 15) (i := 0) dX10_simple_14 rfl rfl rfl ?_
  refine aj_getR (q := 18) fl_X10_23 dX10_simple_15 rfl lM_0 rfl ?_
  refine aj_iload_n (q := 19) (i := 1) dX10_simple_18 rfl rfl rfl ?_
  refine aj_iaload (q := 20) (f := 400) dX10_simple_19 rfl lM_4 rfl (vp_in_nI (by omega) (by omega)) ?_
  try simp (decide := true) only [sw_eq, sw_ne, ne_eq, Nat.reduceEqDiff, not_false_eq_true, nI_pred, nI_1, gPay_ne, hn, ht, cl n, cl s, ha, hb, hc, cl a, cl b, cl c]
  refine aj_istore (q := 22) (i := 4) (ls' := [_, _, _, _, _]) dX10_simple_20 rfl (by decide) rfl ?_
  refine aj_aload_n (q := 23) (i := 0) dX10_simple_22 rfl rfl rfl ?_
  refine aj_getR (q := 26) fl_X10_13 dX10_simple_23 rfl lM_0 rfl ?_
  refine aj_iload_n (q := 27) (i := 1) dX10_simple_26 rfl rfl rfl ?_
  refine aj_iaload (q := 28) (f := 100) dX10_simple_27 rfl lM_1 rfl (vp_in_nI (by omega) (by omega)) ?_
  try simp (decide := true) only [sw_eq, sw_ne, ne_eq, Nat.reduceEqDiff, not_false_eq_true, nI_pred, nI_1, gPay_ne, hn, ht, cl n, cl s, ha, hb, hc, cl a, cl b, cl c]
  refine aj_tsIn (tgt := 203) (off := 175) dX10_simple_28 (by rw [show (_ : Int32) = 8 from rfl]; decide) (by rw [show (_ : Int32) = 8 from rfl]; decide) (by rw [show (_ : Int32) = 8 from rfl]; rfl) (by decide) ?_
  refine aj_aload_n (q := 204) (i := 0) dX10_simple_203 rfl rfl rfl ?_
  refine aj_iload_n (q := 205) (i := 2) dX10_simple_204 rfl rfl rfl ?_
  refine aj_aload_n (q := 206) (i := 0) dX10_simple_205 rfl rfl rfl ?_
  refine aj_getR (q := 209) fl_X10_32 dX10_simple_206 rfl lM_0 rfl ?_
  refine aj_iload_n (q := 210) (i := 3) dX10_simple_209 rfl rfl rfl ?_
  refine aj_iaload (q := 211) (f := 700) dX10_simple_210 rfl lM_7 rfl (vp_in_nI (by omega) (by omega)) ?_
  try simp (decide := true) only [sw_eq, sw_ne, ne_eq, Nat.reduceEqDiff, not_false_eq_true, nI_pred, nI_1, gPay_ne, hn, ht, cl n, cl s, ha, hb, hc, cl a, cl b, cl c]
  refine aj_callV (q := 214) (As := [_, _]) cl_X10_165 mk_X10_has dX10_simple_211 rfl lM_0 rfl rfl (Nat.le_of_ble_eq_true rfl) (sp_X10_has (n := n) (r := a) hn hnb (by omega) hst hx ?_)
  refine aj_ifB_ne (q := 217) (tgt := 218) dX10_simple_214 rfl (by decide) (fun c214_1 => ?_) (fun c214_1 => ?_)
  · simp only [gHas_t (show gHasB _ _ _ = true by assumption)]
    refine aj_aload_n (q := 219) (i := 0) dX10_simple_218 rfl rfl rfl ?_
    refine aj_getR (q := 222) fl_X10_47 dX10_simple_219 rfl lM_0 rfl ?_
    refine aj_aload_n (q := 223) (i := 0) dX10_simple_222 rfl rfl rfl ?_
    refine aj_getR (q := 226) fl_X10_44 dX10_simple_223 rfl lM_0 rfl ?_
    refine aj_aload_n (q := 227) (i := 0) dX10_simple_226 rfl rfl rfl ?_
    refine aj_getR (q := 230) fl_X10_35 dX10_simple_227 rfl lM_0 rfl ?_
    refine aj_iload_n (q := 231) (i := 2) dX10_simple_230 rfl rfl rfl ?_
    refine aj_iaload (q := 232) (f := 800) dX10_simple_231 rfl lM_8 rfl (vp_in_nI (by omega) (by omega)) ?_
    try simp (decide := true) only [sw_eq, sw_ne, ne_eq, Nat.reduceEqDiff, not_false_eq_true, nI_pred, nI_1, gPay_ne, hn, ht, cl n, cl s, ha, hb, hc, cl a, cl b, cl c, c214_1]
    refine aj_iaload (q := 233) (f := 1100) dX10_simple_232 rfl lM_11 rfl (hx (gHas_n (by assumption))) ?_
    try simp (decide := true) only [sw_eq, sw_ne, ne_eq, Nat.reduceEqDiff, not_false_eq_true, nI_pred, nI_1, gPay_ne, hn, ht, cl n, cl s, ha, hb, hc, cl a, cl b, cl c, c214_1]
    refine aj_aload_n (q := 234) (i := 0) dX10_simple_233 rfl rfl rfl ?_
    refine aj_getR (q := 237) fl_X10_32 dX10_simple_234 rfl lM_0 rfl ?_
    refine aj_iload_n (q := 238) (i := 3) dX10_simple_237 rfl rfl rfl ?_
    refine aj_iaload (q := 239) (f := 700) dX10_simple_238 rfl lM_7 rfl (vp_in_nI (by omega) (by omega)) ?_
    try simp (decide := true) only [sw_eq, sw_ne, ne_eq, Nat.reduceEqDiff, not_false_eq_true, nI_pred, nI_1, gPay_ne, hn, ht, cl n, cl s, ha, hb, hc, cl a, cl b, cl c, c214_1]
    refine aj_iadd (q := 240) dX10_simple_239 rfl ?_
    try simp (decide := true) only [sw_eq, sw_ne, ne_eq, Nat.reduceEqDiff, not_false_eq_true, nI_pred, nI_1, gPay_ne, hn, ht, cl n, cl s, ha, hb, hc, cl a, cl b, cl c, c214_1]
    refine aj_aload_n (q := 241) (i := 0) dX10_simple_240 rfl rfl rfl ?_
    refine aj_getR (q := 244) fl_X10_32 dX10_simple_241 rfl lM_0 rfl ?_
    refine aj_iload (q := 246) (i := 4) dX10_simple_244 rfl rfl ?_
    refine aj_iaload (q := 247) (f := 700) dX10_simple_246 rfl lM_7 rfl (vp_in_nI (by omega) (by omega)) ?_
    try simp (decide := true) only [sw_eq, sw_ne, ne_eq, Nat.reduceEqDiff, not_false_eq_true, nI_pred, nI_1, gPay_ne, hn, ht, cl n, cl s, ha, hb, hc, cl a, cl b, cl c, c214_1]
    refine aj_iastore (q := 248) (f := 1200) okM dX10_simple_247 rfl lM_12 rfl (hcell (by assumption)) ?_
    refine aj_aload_n (q := 249) (i := 0) dX10_simple_248 rfl rfl rfl ?_
    refine aj_iconst (q := 250) (v := 0) dX10_simple_249 rfl (by decide) ?_
    refine aj_callV (q := 253) (As := [_]) cl_X10_118 mk_X10_comes dX10_simple_250 rfl lM_0 rfl rfl (Nat.le_of_ble_eq_true rfl) (sp_X10_comes (n := n) (by simp (decide := true) only [sw_eq, sw_ne, ne_eq, Nat.reduceEqDiff, not_false_eq_true, gPay_ne, hn, c214_1]) ?_)
    refine aj_return dX10_simple_253 rfl ?_
    first | contradiction | with_reducible exact hQ | (simp (decide := true) only [↓reduceIte, Bool.false_eq_true, bi_t, bi_f, sw_eq, sw_ne, ne_eq, Nat.reduceEqDiff, not_false_eq_true, nI_pred, nI_1, gPay_ne, hn, ht, cl n, cl s, ha, hb, hc, cl a, cl b, cl c, c214_1] at hQ ⊢; with_reducible exact hQ)
  · refine aj_return dX10_simple_217 rfl ?_
    first | contradiction | with_reducible exact hQ | (simp (decide := true) only [↓reduceIte, Bool.false_eq_true, bi_t, bi_f, sw_eq, sw_ne, ne_eq, Nat.reduceEqDiff, not_false_eq_true, nI_pred, nI_1, gPay_ne, hn, ht, cl n, cl s, ha, hb, hc, cl a, cl b, cl c, c214_1] at hQ ⊢; with_reducible exact hQ)
theorem sp_X10_simple_9 {d : Nat} {S : Sx} {Q : Option Value → Sx → Prop} {n s a b : Nat} (hn : S 30 0 = nI (n + 1)) (hnb : n + 1 < 180) (hsb : s < 120) (ht : S 100 s = 9) (ha : S 200 s = nI a) (hab : a < 8) (hb : S 300 s = nI b) (hbb : b < 4) (hx : ¬ S 800 b = -1 → vp_in (S 800 b) 300)  (hQ : Q none (if S 800 b = -1 then gThrow S n 1 0 else gComes (sw S 700 a (S 1000 (S 800 b).toNatClampNeg)) n 0)) : CC (d + 4) kX10_simple layM [.ref 0, .int (nI s)] S Q := by
  refine cc_intro [some _, some _, none, none, none] (by decide) (cc_cat (by rfl)) (Nat.le_of_ble_eq_true rfl) (cc_ls (by rfl)) ?_
  refine aj_aload_n (q := 1) (i := 0) dX10_simple_0 rfl rfl rfl ?_
  refine aj_getR (q := 4) fl_X10_17 dX10_simple_1 rfl lM_0 rfl ?_
  refine aj_iload_n (q := 5) (i := 1) dX10_simple_4 rfl rfl rfl ?_
  refine aj_iaload (q := 6) (f := 200) dX10_simple_5 rfl lM_2 rfl (vp_in_nI (by omega) (by omega)) ?_
  try simp (decide := true) only [sw_eq, sw_ne, ne_eq, Nat.reduceEqDiff, not_false_eq_true, nI_pred, nI_1, gPay_ne, hn, ht, cl n, cl s, ha, hb, cl a, cl b]
  refine aj_istore_n (q := 7) (i := 2) (ls' := [_, _, _, _, _]) dX10_simple_6 rfl rfl (by decide) rfl ?_
  refine aj_aload_n (q := 8) (i := 0) dX10_simple_7 rfl rfl rfl ?_
  refine aj_getR (q := 11) fl_X10_20 dX10_simple_8 rfl lM_0 rfl ?_
  refine aj_iload_n (q := 12) (i := 1) dX10_simple_11 rfl rfl rfl ?_
  refine aj_iaload (q := 13) (f := 300) dX10_simple_12 rfl lM_3 rfl (vp_in_nI (by omega) (by omega)) ?_
  try simp (decide := true) only [sw_eq, sw_ne, ne_eq, Nat.reduceEqDiff, not_false_eq_true, nI_pred, nI_1, gPay_ne, hn, ht, cl n, cl s, ha, hb, cl a, cl b]
  refine aj_istore_n (q := 14) (i := 3) (ls' := [_, _, _, _, _]) dX10_simple_13 rfl rfl (by decide) rfl ?_
  refine aj_aload_n (q := 15) (i := 0) dX10_simple_14 rfl rfl rfl ?_
  refine aj_getR (q := 18) fl_X10_23 dX10_simple_15 rfl lM_0 rfl ?_
  refine aj_iload_n (q := 19) (i := 1) dX10_simple_18 rfl rfl rfl ?_
  refine aj_iaload (q := 20) (f := 400) dX10_simple_19 rfl lM_4 rfl (vp_in_nI (by omega) (by omega)) ?_
  try simp (decide := true) only [sw_eq, sw_ne, ne_eq, Nat.reduceEqDiff, not_false_eq_true, nI_pred, nI_1, gPay_ne, hn, ht, cl n, cl s, ha, hb, cl a, cl b]
  refine aj_istore (q := 22) (i := 4) (ls' := [_, _, _, _, _]) dX10_simple_20 rfl (by decide) rfl ?_
  refine aj_aload_n (q := 23) (i := 0) dX10_simple_22 rfl rfl rfl ?_
  refine aj_getR (q := 26) fl_X10_13 dX10_simple_23 rfl lM_0 rfl ?_
  refine aj_iload_n (q := 27) (i := 1) dX10_simple_26 rfl rfl rfl ?_
  refine aj_iaload (q := 28) (f := 100) dX10_simple_27 rfl lM_1 rfl (vp_in_nI (by omega) (by omega)) ?_
  try simp (decide := true) only [sw_eq, sw_ne, ne_eq, Nat.reduceEqDiff, not_false_eq_true, nI_pred, nI_1, gPay_ne, hn, ht, cl n, cl s, ha, hb, cl a, cl b]
  refine aj_tsIn (tgt := 254) (off := 226) dX10_simple_28 (by rw [show (_ : Int32) = 9 from rfl]; decide) (by rw [show (_ : Int32) = 9 from rfl]; decide) (by rw [show (_ : Int32) = 9 from rfl]; rfl) (by decide) ?_
  refine aj_aload_n (q := 255) (i := 0) dX10_simple_254 rfl rfl rfl ?_
  refine aj_getR (q := 258) fl_X10_35 dX10_simple_255 rfl lM_0 rfl ?_
  refine aj_iload_n (q := 259) (i := 3) dX10_simple_258 rfl rfl rfl ?_
  refine aj_iaload (q := 260) (f := 800) dX10_simple_259 rfl lM_8 rfl (vp_in_nI (by omega) (by omega)) ?_
  try simp (decide := true) only [sw_eq, sw_ne, ne_eq, Nat.reduceEqDiff, not_false_eq_true, nI_pred, nI_1, gPay_ne, hn, ht, cl n, cl s, ha, hb, cl a, cl b]
  refine aj_iconst (q := 261) (v := (-1)) dX10_simple_260 rfl (by decide) ?_
  refine aj_icmp_ne (q := 264) (tgt := 271) dX10_simple_261 rfl (by decide) (fun c261_1 => ?_) (fun c261_1 => ?_)
  · refine aj_aload_n (q := 272) (i := 0) dX10_simple_271 rfl rfl rfl ?_
    refine aj_getR (q := 275) fl_X10_32 dX10_simple_272 rfl lM_0 rfl ?_
    refine aj_iload_n (q := 276) (i := 2) dX10_simple_275 rfl rfl rfl ?_
    refine aj_aload_n (q := 277) (i := 0) dX10_simple_276 rfl rfl rfl ?_
    refine aj_getR (q := 280) fl_X10_41 dX10_simple_277 rfl lM_0 rfl ?_
    refine aj_aload_n (q := 281) (i := 0) dX10_simple_280 rfl rfl rfl ?_
    refine aj_getR (q := 284) fl_X10_35 dX10_simple_281 rfl lM_0 rfl ?_
    refine aj_iload_n (q := 285) (i := 3) dX10_simple_284 rfl rfl rfl ?_
    refine aj_iaload (q := 286) (f := 800) dX10_simple_285 rfl lM_8 rfl (vp_in_nI (by omega) (by omega)) ?_
    try simp (decide := true) only [sw_eq, sw_ne, ne_eq, Nat.reduceEqDiff, not_false_eq_true, nI_pred, nI_1, gPay_ne, hn, ht, cl n, cl s, ha, hb, cl a, cl b, c261_1]
    refine aj_iaload (q := 287) (f := 1000) dX10_simple_286 rfl lM_10 rfl (hx (by assumption)) ?_
    try simp (decide := true) only [sw_eq, sw_ne, ne_eq, Nat.reduceEqDiff, not_false_eq_true, nI_pred, nI_1, gPay_ne, hn, ht, cl n, cl s, ha, hb, cl a, cl b, c261_1]
    refine aj_iastore (q := 288) (f := 700) okM dX10_simple_287 rfl lM_7 rfl (vp_in_nI (by omega) (by omega)) ?_
    refine aj_aload_n (q := 289) (i := 0) dX10_simple_288 rfl rfl rfl ?_
    refine aj_iconst (q := 290) (v := 0) dX10_simple_289 rfl (by decide) ?_
    refine aj_callV (q := 293) (As := [_]) cl_X10_118 mk_X10_comes dX10_simple_290 rfl lM_0 rfl rfl (Nat.le_of_ble_eq_true rfl) (sp_X10_comes (n := n) (by simp (decide := true) only [sw_eq, sw_ne, ne_eq, Nat.reduceEqDiff, not_false_eq_true, gPay_ne, hn, c261_1]) ?_)
    refine aj_return dX10_simple_293 rfl ?_
    first | contradiction | with_reducible exact hQ | (simp (decide := true) only [↓reduceIte, Bool.false_eq_true, bi_t, bi_f, sw_eq, sw_ne, ne_eq, Nat.reduceEqDiff, not_false_eq_true, nI_pred, nI_1, gPay_ne, hn, ht, cl n, cl s, ha, hb, cl a, cl b, c261_1] at hQ ⊢; with_reducible exact hQ)
  · refine aj_aload_n (q := 265) (i := 0) dX10_simple_264 rfl rfl rfl ?_
    refine aj_iconst (q := 266) (v := 1) dX10_simple_265 rfl (by decide) ?_
    refine aj_iconst (q := 267) (v := 0) dX10_simple_266 rfl (by decide) ?_
    refine aj_callV (q := 270) (As := [_, _]) cl_X10_149 mk_X10_throwing dX10_simple_267 rfl lM_0 rfl rfl (Nat.le_of_ble_eq_true rfl) (sp_X10_throwing (n := n) (by simp (decide := true) only [sw_eq, sw_ne, ne_eq, Nat.reduceEqDiff, not_false_eq_true, gPay_ne, hn, c261_1]) ?_)
    refine aj_return dX10_simple_270 rfl ?_
    first | contradiction | with_reducible exact hQ | (simp (decide := true) only [↓reduceIte, Bool.false_eq_true, bi_t, bi_f, sw_eq, sw_ne, ne_eq, Nat.reduceEqDiff, not_false_eq_true, nI_pred, nI_1, gPay_ne, hn, ht, cl n, cl s, ha, hb, cl a, cl b, c261_1] at hQ ⊢; with_reducible exact hQ)
theorem sp_X10_simple_10 {d : Nat} {S : Sx} {Q : Option Value → Sx → Prop} {n s a : Nat} (hn : S 30 0 = nI (n + 1)) (hnb : n + 1 < 180) (hsb : s < 120) (ht : S 100 s = 10) (ha : S 200 s = nI a) (hab : a < 4)  (hQ : Q none (gComes (sw S 800 a (-1)) n 0)) : CC (d + 4) kX10_simple layM [.ref 0, .int (nI s)] S Q := by
  refine cc_intro [some _, some _, none, none, none] (by decide) (cc_cat (by rfl)) (Nat.le_of_ble_eq_true rfl) (cc_ls (by rfl)) ?_
  refine aj_aload_n (q := 1) (i := 0) dX10_simple_0 rfl rfl rfl ?_
  refine aj_getR (q := 4) fl_X10_17 dX10_simple_1 rfl lM_0 rfl ?_
  refine aj_iload_n (q := 5) (i := 1) dX10_simple_4 rfl rfl rfl ?_
  refine aj_iaload (q := 6) (f := 200) dX10_simple_5 rfl lM_2 rfl (vp_in_nI (by omega) (by omega)) ?_
  try simp (decide := true) only [sw_eq, sw_ne, ne_eq, Nat.reduceEqDiff, not_false_eq_true, nI_pred, nI_1, gPay_ne, hn, ht, cl n, cl s, ha, cl a]
  refine aj_istore_n (q := 7) (i := 2) (ls' := [_, _, _, _, _]) dX10_simple_6 rfl rfl (by decide) rfl ?_
  refine aj_aload_n (q := 8) (i := 0) dX10_simple_7 rfl rfl rfl ?_
  refine aj_getR (q := 11) fl_X10_20 dX10_simple_8 rfl lM_0 rfl ?_
  refine aj_iload_n (q := 12) (i := 1) dX10_simple_11 rfl rfl rfl ?_
  refine aj_iaload (q := 13) (f := 300) dX10_simple_12 rfl lM_3 rfl (vp_in_nI (by omega) (by omega)) ?_
  try simp (decide := true) only [sw_eq, sw_ne, ne_eq, Nat.reduceEqDiff, not_false_eq_true, nI_pred, nI_1, gPay_ne, hn, ht, cl n, cl s, ha, cl a]
  refine aj_istore_n (q := 14) (i := 3) (ls' := [_, _, _, _, _]) dX10_simple_13 rfl rfl (by decide) rfl ?_
  refine aj_aload_n (q := 15) (i := 0) dX10_simple_14 rfl rfl rfl ?_
  refine aj_getR (q := 18) fl_X10_23 dX10_simple_15 rfl lM_0 rfl ?_
  refine aj_iload_n (q := 19) (i := 1) dX10_simple_18 rfl rfl rfl ?_
  refine aj_iaload (q := 20) (f := 400) dX10_simple_19 rfl lM_4 rfl (vp_in_nI (by omega) (by omega)) ?_
  try simp (decide := true) only [sw_eq, sw_ne, ne_eq, Nat.reduceEqDiff, not_false_eq_true, nI_pred, nI_1, gPay_ne, hn, ht, cl n, cl s, ha, cl a]
  refine aj_istore (q := 22) (i := 4) (ls' := [_, _, _, _, _]) dX10_simple_20 rfl (by decide) rfl ?_
  refine aj_aload_n (q := 23) (i := 0) dX10_simple_22 rfl rfl rfl ?_
  refine aj_getR (q := 26) fl_X10_13 dX10_simple_23 rfl lM_0 rfl ?_
  refine aj_iload_n (q := 27) (i := 1) dX10_simple_26 rfl rfl rfl ?_
  refine aj_iaload (q := 28) (f := 100) dX10_simple_27 rfl lM_1 rfl (vp_in_nI (by omega) (by omega)) ?_
  try simp (decide := true) only [sw_eq, sw_ne, ne_eq, Nat.reduceEqDiff, not_false_eq_true, nI_pred, nI_1, gPay_ne, hn, ht, cl n, cl s, ha, cl a]
  refine aj_tsIn (tgt := 294) (off := 266) dX10_simple_28 (by rw [show (_ : Int32) = 10 from rfl]; decide) (by rw [show (_ : Int32) = 10 from rfl]; decide) (by rw [show (_ : Int32) = 10 from rfl]; rfl) (by decide) ?_
  refine aj_aload_n (q := 295) (i := 0) dX10_simple_294 rfl rfl rfl ?_
  refine aj_getR (q := 298) fl_X10_35 dX10_simple_295 rfl lM_0 rfl ?_
  refine aj_iload_n (q := 299) (i := 2) dX10_simple_298 rfl rfl rfl ?_
  refine aj_iconst (q := 300) (v := (-1)) dX10_simple_299 rfl (by decide) ?_
  refine aj_iastore (q := 301) (f := 800) okM dX10_simple_300 rfl lM_8 rfl (vp_in_nI (by omega) (by omega)) ?_
  refine aj_aload_n (q := 302) (i := 0) dX10_simple_301 rfl rfl rfl ?_
  refine aj_iconst (q := 303) (v := 0) dX10_simple_302 rfl (by decide) ?_
  refine aj_callV (q := 306) (As := [_]) cl_X10_118 mk_X10_comes dX10_simple_303 rfl lM_0 rfl rfl (Nat.le_of_ble_eq_true rfl) (sp_X10_comes (n := n) (by simp (decide := true) only [sw_eq, sw_ne, ne_eq, Nat.reduceEqDiff, not_false_eq_true, gPay_ne, hn]) ?_)
  refine aj_return dX10_simple_306 rfl ?_
  first | contradiction | with_reducible exact hQ | (simp (decide := true) only [↓reduceIte, Bool.false_eq_true, bi_t, bi_f, sw_eq, sw_ne, ne_eq, Nat.reduceEqDiff, not_false_eq_true, nI_pred, nI_1, gPay_ne, hn, ht, cl n, cl s, ha, cl a, ] at hQ ⊢; with_reducible exact hQ)
theorem sp_X10_simple_11 {d : Nat} {S : Sx} {Q : Option Value → Sx → Prop} {n s a b : Nat} (hn : S 30 0 = nI (n + 1)) (hnb : n + 1 < 180) (hsb : s < 120) (ht : S 100 s = 11) (ha : S 200 s = nI a) (hab : a < 4) (hb : S 300 s = nI b) (hbb : b < 4)  (hQ : Q none (gComes (sw S 800 a (S 800 b)) n 0)) : CC (d + 4) kX10_simple layM [.ref 0, .int (nI s)] S Q := by
  refine cc_intro [some _, some _, none, none, none] (by decide) (cc_cat (by rfl)) (Nat.le_of_ble_eq_true rfl) (cc_ls (by rfl)) ?_
  refine aj_aload_n (q := 1) (i := 0) dX10_simple_0 rfl rfl rfl ?_
  refine aj_getR (q := 4) fl_X10_17 dX10_simple_1 rfl lM_0 rfl ?_
  refine aj_iload_n (q := 5) (i := 1) dX10_simple_4 rfl rfl rfl ?_
  refine aj_iaload (q := 6) (f := 200) dX10_simple_5 rfl lM_2 rfl (vp_in_nI (by omega) (by omega)) ?_
  try simp (decide := true) only [sw_eq, sw_ne, ne_eq, Nat.reduceEqDiff, not_false_eq_true, nI_pred, nI_1, gPay_ne, hn, ht, cl n, cl s, ha, hb, cl a, cl b]
  refine aj_istore_n (q := 7) (i := 2) (ls' := [_, _, _, _, _]) dX10_simple_6 rfl rfl (by decide) rfl ?_
  refine aj_aload_n (q := 8) (i := 0) dX10_simple_7 rfl rfl rfl ?_
  refine aj_getR (q := 11) fl_X10_20 dX10_simple_8 rfl lM_0 rfl ?_
  refine aj_iload_n (q := 12) (i := 1) dX10_simple_11 rfl rfl rfl ?_
  refine aj_iaload (q := 13) (f := 300) dX10_simple_12 rfl lM_3 rfl (vp_in_nI (by omega) (by omega)) ?_
  try simp (decide := true) only [sw_eq, sw_ne, ne_eq, Nat.reduceEqDiff, not_false_eq_true, nI_pred, nI_1, gPay_ne, hn, ht, cl n, cl s, ha, hb, cl a, cl b]
  refine aj_istore_n (q := 14) (i := 3) (ls' := [_, _, _, _, _]) dX10_simple_13 rfl rfl (by decide) rfl ?_
  refine aj_aload_n (q := 15) (i := 0) dX10_simple_14 rfl rfl rfl ?_
  refine aj_getR (q := 18) fl_X10_23 dX10_simple_15 rfl lM_0 rfl ?_
  refine aj_iload_n (q := 19) (i := 1) dX10_simple_18 rfl rfl rfl ?_
  refine aj_iaload (q := 20) (f := 400) dX10_simple_19 rfl lM_4 rfl (vp_in_nI (by omega) (by omega)) ?_
  try simp (decide := true) only [sw_eq, sw_ne, ne_eq, Nat.reduceEqDiff, not_false_eq_true, nI_pred, nI_1, gPay_ne, hn, ht, cl n, cl s, ha, hb, cl a, cl b]
  refine aj_istore (q := 22) (i := 4) (ls' := [_, _, _, _, _]) dX10_simple_20 rfl (by decide) rfl ?_
  refine aj_aload_n (q := 23) (i := 0) dX10_simple_22 rfl rfl rfl ?_
  refine aj_getR (q := 26) fl_X10_13 dX10_simple_23 rfl lM_0 rfl ?_
  refine aj_iload_n (q := 27) (i := 1) dX10_simple_26 rfl rfl rfl ?_
  refine aj_iaload (q := 28) (f := 100) dX10_simple_27 rfl lM_1 rfl (vp_in_nI (by omega) (by omega)) ?_
  try simp (decide := true) only [sw_eq, sw_ne, ne_eq, Nat.reduceEqDiff, not_false_eq_true, nI_pred, nI_1, gPay_ne, hn, ht, cl n, cl s, ha, hb, cl a, cl b]
  refine aj_tsIn (tgt := 307) (off := 279) dX10_simple_28 (by rw [show (_ : Int32) = 11 from rfl]; decide) (by rw [show (_ : Int32) = 11 from rfl]; decide) (by rw [show (_ : Int32) = 11 from rfl]; rfl) (by decide) ?_
  refine aj_aload_n (q := 308) (i := 0) dX10_simple_307 rfl rfl rfl ?_
  refine aj_getR (q := 311) fl_X10_35 dX10_simple_308 rfl lM_0 rfl ?_
  refine aj_iload_n (q := 312) (i := 2) dX10_simple_311 rfl rfl rfl ?_
  refine aj_aload_n (q := 313) (i := 0) dX10_simple_312 rfl rfl rfl ?_
  refine aj_getR (q := 316) fl_X10_35 dX10_simple_313 rfl lM_0 rfl ?_
  refine aj_iload_n (q := 317) (i := 3) dX10_simple_316 rfl rfl rfl ?_
  refine aj_iaload (q := 318) (f := 800) dX10_simple_317 rfl lM_8 rfl (vp_in_nI (by omega) (by omega)) ?_
  try simp (decide := true) only [sw_eq, sw_ne, ne_eq, Nat.reduceEqDiff, not_false_eq_true, nI_pred, nI_1, gPay_ne, hn, ht, cl n, cl s, ha, hb, cl a, cl b]
  refine aj_iastore (q := 319) (f := 800) okM dX10_simple_318 rfl lM_8 rfl (vp_in_nI (by omega) (by omega)) ?_
  refine aj_aload_n (q := 320) (i := 0) dX10_simple_319 rfl rfl rfl ?_
  refine aj_iconst (q := 321) (v := 0) dX10_simple_320 rfl (by decide) ?_
  refine aj_callV (q := 324) (As := [_]) cl_X10_118 mk_X10_comes dX10_simple_321 rfl lM_0 rfl rfl (Nat.le_of_ble_eq_true rfl) (sp_X10_comes (n := n) (by simp (decide := true) only [sw_eq, sw_ne, ne_eq, Nat.reduceEqDiff, not_false_eq_true, gPay_ne, hn]) ?_)
  refine aj_return dX10_simple_324 rfl ?_
  first | contradiction | with_reducible exact hQ | (simp (decide := true) only [↓reduceIte, Bool.false_eq_true, bi_t, bi_f, sw_eq, sw_ne, ne_eq, Nat.reduceEqDiff, not_false_eq_true, nI_pred, nI_1, gPay_ne, hn, ht, cl n, cl s, ha, hb, cl a, cl b, ] at hQ ⊢; with_reducible exact hQ)
theorem sp_X10_simple_16 {d : Nat} {S : Sx} {Q : Option Value → Sx → Prop} {n s a : Nat} (hn : S 30 0 = nI (n + 1)) (hnb : n + 1 < 180) (hsb : s < 120) (ht : S 100 s = 16) (ha : S 200 s = nI a) (hab : a < 8)  (hQ : Q none (gComes (sw S 23 0 (S 700 a)) n 1)) : CC (d + 4) kX10_simple layM [.ref 0, .int (nI s)] S Q := by
  refine cc_intro [some _, some _, none, none, none] (by decide) (cc_cat (by rfl)) (Nat.le_of_ble_eq_true rfl) (cc_ls (by rfl)) ?_
  refine aj_aload_n (q := 1) (i := 0) dX10_simple_0 rfl rfl rfl ?_
  refine aj_getR (q := 4) fl_X10_17 dX10_simple_1 rfl lM_0 rfl ?_
  refine aj_iload_n (q := 5) (i := 1) dX10_simple_4 rfl rfl rfl ?_
  refine aj_iaload (q := 6) (f := 200) dX10_simple_5 rfl lM_2 rfl (vp_in_nI (by omega) (by omega)) ?_
  try simp (decide := true) only [sw_eq, sw_ne, ne_eq, Nat.reduceEqDiff, not_false_eq_true, nI_pred, nI_1, gPay_ne, hn, ht, cl n, cl s, ha, cl a]
  refine aj_istore_n (q := 7) (i := 2) (ls' := [_, _, _, _, _]) dX10_simple_6 rfl rfl (by decide) rfl ?_
  refine aj_aload_n (q := 8) (i := 0) dX10_simple_7 rfl rfl rfl ?_
  refine aj_getR (q := 11) fl_X10_20 dX10_simple_8 rfl lM_0 rfl ?_
  refine aj_iload_n (q := 12) (i := 1) dX10_simple_11 rfl rfl rfl ?_
  refine aj_iaload (q := 13) (f := 300) dX10_simple_12 rfl lM_3 rfl (vp_in_nI (by omega) (by omega)) ?_
  try simp (decide := true) only [sw_eq, sw_ne, ne_eq, Nat.reduceEqDiff, not_false_eq_true, nI_pred, nI_1, gPay_ne, hn, ht, cl n, cl s, ha, cl a]
  refine aj_istore_n (q := 14) (i := 3) (ls' := [_, _, _, _, _]) dX10_simple_13 rfl rfl (by decide) rfl ?_
  refine aj_aload_n (q := 15) (i := 0) dX10_simple_14 rfl rfl rfl ?_
  refine aj_getR (q := 18) fl_X10_23 dX10_simple_15 rfl lM_0 rfl ?_
  refine aj_iload_n (q := 19) (i := 1) dX10_simple_18 rfl rfl rfl ?_
  refine aj_iaload (q := 20) (f := 400) dX10_simple_19 rfl lM_4 rfl (vp_in_nI (by omega) (by omega)) ?_
  try simp (decide := true) only [sw_eq, sw_ne, ne_eq, Nat.reduceEqDiff, not_false_eq_true, nI_pred, nI_1, gPay_ne, hn, ht, cl n, cl s, ha, cl a]
  refine aj_istore (q := 22) (i := 4) (ls' := [_, _, _, _, _]) dX10_simple_20 rfl (by decide) rfl ?_
  refine aj_aload_n (q := 23) (i := 0) dX10_simple_22 rfl rfl rfl ?_
  refine aj_getR (q := 26) fl_X10_13 dX10_simple_23 rfl lM_0 rfl ?_
  refine aj_iload_n (q := 27) (i := 1) dX10_simple_26 rfl rfl rfl ?_
  refine aj_iaload (q := 28) (f := 100) dX10_simple_27 rfl lM_1 rfl (vp_in_nI (by omega) (by omega)) ?_
  try simp (decide := true) only [sw_eq, sw_ne, ne_eq, Nat.reduceEqDiff, not_false_eq_true, nI_pred, nI_1, gPay_ne, hn, ht, cl n, cl s, ha, cl a]
  refine aj_tsIn (tgt := 325) (off := 297) dX10_simple_28 (by rw [show (_ : Int32) = 16 from rfl]; decide) (by rw [show (_ : Int32) = 16 from rfl]; decide) (by rw [show (_ : Int32) = 16 from rfl]; rfl) (by decide) ?_
  refine aj_aload_n (q := 326) (i := 0) dX10_simple_325 rfl rfl rfl ?_
  refine aj_aload_n (q := 327) (i := 0) dX10_simple_326 rfl rfl rfl ?_
  refine aj_getR (q := 330) fl_X10_32 dX10_simple_327 rfl lM_0 rfl ?_
  refine aj_iload_n (q := 331) (i := 2) dX10_simple_330 rfl rfl rfl ?_
  refine aj_iaload (q := 332) (f := 700) dX10_simple_331 rfl lM_7 rfl (vp_in_nI (by omega) (by omega)) ?_
  try simp (decide := true) only [sw_eq, sw_ne, ne_eq, Nat.reduceEqDiff, not_false_eq_true, nI_pred, nI_1, gPay_ne, hn, ht, cl n, cl s, ha, cl a]
  refine aj_putI (q := 335) (f := 23) okM fp_X10_168 dX10_simple_332 rfl lM_0 rfl rfl ?_
  refine aj_aload_n (q := 336) (i := 0) dX10_simple_335 rfl rfl rfl ?_
  refine aj_iconst (q := 337) (v := 1) dX10_simple_336 rfl (by decide) ?_
  refine aj_callV (q := 340) (As := [_]) cl_X10_118 mk_X10_comes dX10_simple_337 rfl lM_0 rfl rfl (Nat.le_of_ble_eq_true rfl) (sp_X10_comes (n := n) (by simp (decide := true) only [sw_eq, sw_ne, ne_eq, Nat.reduceEqDiff, not_false_eq_true, gPay_ne, hn]) ?_)
  refine aj_return dX10_simple_340 rfl ?_
  first | contradiction | with_reducible exact hQ | (simp (decide := true) only [↓reduceIte, Bool.false_eq_true, bi_t, bi_f, sw_eq, sw_ne, ne_eq, Nat.reduceEqDiff, not_false_eq_true, nI_pred, nI_1, gPay_ne, hn, ht, cl n, cl s, ha, cl a, ] at hQ ⊢; with_reducible exact hQ)
theorem sp_X10_simple_17 {d : Nat} {S : Sx} {Q : Option Value → Sx → Prop} {n s a : Nat} (hn : S 30 0 = nI (n + 1)) (hnb : n + 1 < 180) (hsb : s < 120) (ht : S 100 s = 17) (ha : S 200 s = nI a) (hab : a < 8)  (hQ : Q none (gThrow S n 5 (S 700 a))) : CC (d + 4) kX10_simple layM [.ref 0, .int (nI s)] S Q := by
  refine cc_intro [some _, some _, none, none, none] (by decide) (cc_cat (by rfl)) (Nat.le_of_ble_eq_true rfl) (cc_ls (by rfl)) ?_
  refine aj_aload_n (q := 1) (i := 0) dX10_simple_0 rfl rfl rfl ?_
  refine aj_getR (q := 4) fl_X10_17 dX10_simple_1 rfl lM_0 rfl ?_
  refine aj_iload_n (q := 5) (i := 1) dX10_simple_4 rfl rfl rfl ?_
  refine aj_iaload (q := 6) (f := 200) dX10_simple_5 rfl lM_2 rfl (vp_in_nI (by omega) (by omega)) ?_
  try simp (decide := true) only [sw_eq, sw_ne, ne_eq, Nat.reduceEqDiff, not_false_eq_true, nI_pred, nI_1, gPay_ne, hn, ht, cl n, cl s, ha, cl a]
  refine aj_istore_n (q := 7) (i := 2) (ls' := [_, _, _, _, _]) dX10_simple_6 rfl rfl (by decide) rfl ?_
  refine aj_aload_n (q := 8) (i := 0) dX10_simple_7 rfl rfl rfl ?_
  refine aj_getR (q := 11) fl_X10_20 dX10_simple_8 rfl lM_0 rfl ?_
  refine aj_iload_n (q := 12) (i := 1) dX10_simple_11 rfl rfl rfl ?_
  refine aj_iaload (q := 13) (f := 300) dX10_simple_12 rfl lM_3 rfl (vp_in_nI (by omega) (by omega)) ?_
  try simp (decide := true) only [sw_eq, sw_ne, ne_eq, Nat.reduceEqDiff, not_false_eq_true, nI_pred, nI_1, gPay_ne, hn, ht, cl n, cl s, ha, cl a]
  refine aj_istore_n (q := 14) (i := 3) (ls' := [_, _, _, _, _]) dX10_simple_13 rfl rfl (by decide) rfl ?_
  refine aj_aload_n (q := 15) (i := 0) dX10_simple_14 rfl rfl rfl ?_
  refine aj_getR (q := 18) fl_X10_23 dX10_simple_15 rfl lM_0 rfl ?_
  refine aj_iload_n (q := 19) (i := 1) dX10_simple_18 rfl rfl rfl ?_
  refine aj_iaload (q := 20) (f := 400) dX10_simple_19 rfl lM_4 rfl (vp_in_nI (by omega) (by omega)) ?_
  try simp (decide := true) only [sw_eq, sw_ne, ne_eq, Nat.reduceEqDiff, not_false_eq_true, nI_pred, nI_1, gPay_ne, hn, ht, cl n, cl s, ha, cl a]
  refine aj_istore (q := 22) (i := 4) (ls' := [_, _, _, _, _]) dX10_simple_20 rfl (by decide) rfl ?_
  refine aj_aload_n (q := 23) (i := 0) dX10_simple_22 rfl rfl rfl ?_
  refine aj_getR (q := 26) fl_X10_13 dX10_simple_23 rfl lM_0 rfl ?_
  refine aj_iload_n (q := 27) (i := 1) dX10_simple_26 rfl rfl rfl ?_
  refine aj_iaload (q := 28) (f := 100) dX10_simple_27 rfl lM_1 rfl (vp_in_nI (by omega) (by omega)) ?_
  try simp (decide := true) only [sw_eq, sw_ne, ne_eq, Nat.reduceEqDiff, not_false_eq_true, nI_pred, nI_1, gPay_ne, hn, ht, cl n, cl s, ha, cl a]
  refine aj_tsIn (tgt := 341) (off := 313) dX10_simple_28 (by rw [show (_ : Int32) = 17 from rfl]; decide) (by rw [show (_ : Int32) = 17 from rfl]; decide) (by rw [show (_ : Int32) = 17 from rfl]; rfl) (by decide) ?_
  refine aj_aload_n (q := 342) (i := 0) dX10_simple_341 rfl rfl rfl ?_
  refine aj_iconst (q := 343) (v := 5) dX10_simple_342 rfl (by decide) ?_
  refine aj_aload_n (q := 344) (i := 0) dX10_simple_343 rfl rfl rfl ?_
  refine aj_getR (q := 347) fl_X10_32 dX10_simple_344 rfl lM_0 rfl ?_
  refine aj_iload_n (q := 348) (i := 2) dX10_simple_347 rfl rfl rfl ?_
  refine aj_iaload (q := 349) (f := 700) dX10_simple_348 rfl lM_7 rfl (vp_in_nI (by omega) (by omega)) ?_
  try simp (decide := true) only [sw_eq, sw_ne, ne_eq, Nat.reduceEqDiff, not_false_eq_true, nI_pred, nI_1, gPay_ne, hn, ht, cl n, cl s, ha, cl a]
  refine aj_callV (q := 352) (As := [_, _]) cl_X10_149 mk_X10_throwing dX10_simple_349 rfl lM_0 rfl rfl (Nat.le_of_ble_eq_true rfl) (sp_X10_throwing (n := n) (by simp (decide := true) only [sw_eq, sw_ne, ne_eq, Nat.reduceEqDiff, not_false_eq_true, gPay_ne, hn]) ?_)
  refine aj_return dX10_simple_352 rfl ?_
  first | contradiction | with_reducible exact hQ | (simp (decide := true) only [↓reduceIte, Bool.false_eq_true, bi_t, bi_f, sw_eq, sw_ne, ne_eq, Nat.reduceEqDiff, not_false_eq_true, nI_pred, nI_1, gPay_ne, hn, ht, cl n, cl s, ha, cl a, ] at hQ ⊢; with_reducible exact hQ)
theorem sp_X10_simple_21 {d : Nat} {S : Sx} {Q : Option Value → Sx → Prop} {n s a : Nat} (hn : S 30 0 = nI (n + 1)) (hnb : n + 1 < 180) (hsb : s < 120) (ht : S 100 s = 21) (ha : S 200 s = nI a) (hab : a < 8)  (hQ : Q none (gComes (sw S 700 a (S 23 0)) n 0)) : CC (d + 4) kX10_simple layM [.ref 0, .int (nI s)] S Q := by
  refine cc_intro [some _, some _, none, none, none] (by decide) (cc_cat (by rfl)) (Nat.le_of_ble_eq_true rfl) (cc_ls (by rfl)) ?_
  refine aj_aload_n (q := 1) (i := 0) dX10_simple_0 rfl rfl rfl ?_
  refine aj_getR (q := 4) fl_X10_17 dX10_simple_1 rfl lM_0 rfl ?_
  refine aj_iload_n (q := 5) (i := 1) dX10_simple_4 rfl rfl rfl ?_
  refine aj_iaload (q := 6) (f := 200) dX10_simple_5 rfl lM_2 rfl (vp_in_nI (by omega) (by omega)) ?_
  try simp (decide := true) only [sw_eq, sw_ne, ne_eq, Nat.reduceEqDiff, not_false_eq_true, nI_pred, nI_1, gPay_ne, hn, ht, cl n, cl s, ha, cl a]
  refine aj_istore_n (q := 7) (i := 2) (ls' := [_, _, _, _, _]) dX10_simple_6 rfl rfl (by decide) rfl ?_
  refine aj_aload_n (q := 8) (i := 0) dX10_simple_7 rfl rfl rfl ?_
  refine aj_getR (q := 11) fl_X10_20 dX10_simple_8 rfl lM_0 rfl ?_
  refine aj_iload_n (q := 12) (i := 1) dX10_simple_11 rfl rfl rfl ?_
  refine aj_iaload (q := 13) (f := 300) dX10_simple_12 rfl lM_3 rfl (vp_in_nI (by omega) (by omega)) ?_
  try simp (decide := true) only [sw_eq, sw_ne, ne_eq, Nat.reduceEqDiff, not_false_eq_true, nI_pred, nI_1, gPay_ne, hn, ht, cl n, cl s, ha, cl a]
  refine aj_istore_n (q := 14) (i := 3) (ls' := [_, _, _, _, _]) dX10_simple_13 rfl rfl (by decide) rfl ?_
  refine aj_aload_n (q := 15) (i := 0) dX10_simple_14 rfl rfl rfl ?_
  refine aj_getR (q := 18) fl_X10_23 dX10_simple_15 rfl lM_0 rfl ?_
  refine aj_iload_n (q := 19) (i := 1) dX10_simple_18 rfl rfl rfl ?_
  refine aj_iaload (q := 20) (f := 400) dX10_simple_19 rfl lM_4 rfl (vp_in_nI (by omega) (by omega)) ?_
  try simp (decide := true) only [sw_eq, sw_ne, ne_eq, Nat.reduceEqDiff, not_false_eq_true, nI_pred, nI_1, gPay_ne, hn, ht, cl n, cl s, ha, cl a]
  refine aj_istore (q := 22) (i := 4) (ls' := [_, _, _, _, _]) dX10_simple_20 rfl (by decide) rfl ?_
  refine aj_aload_n (q := 23) (i := 0) dX10_simple_22 rfl rfl rfl ?_
  refine aj_getR (q := 26) fl_X10_13 dX10_simple_23 rfl lM_0 rfl ?_
  refine aj_iload_n (q := 27) (i := 1) dX10_simple_26 rfl rfl rfl ?_
  refine aj_iaload (q := 28) (f := 100) dX10_simple_27 rfl lM_1 rfl (vp_in_nI (by omega) (by omega)) ?_
  try simp (decide := true) only [sw_eq, sw_ne, ne_eq, Nat.reduceEqDiff, not_false_eq_true, nI_pred, nI_1, gPay_ne, hn, ht, cl n, cl s, ha, cl a]
  refine aj_tsIn (tgt := 353) (off := 325) dX10_simple_28 (by rw [show (_ : Int32) = 21 from rfl]; decide) (by rw [show (_ : Int32) = 21 from rfl]; decide) (by rw [show (_ : Int32) = 21 from rfl]; rfl) (by decide) ?_
  refine aj_aload_n (q := 354) (i := 0) dX10_simple_353 rfl rfl rfl ?_
  refine aj_getR (q := 357) fl_X10_32 dX10_simple_354 rfl lM_0 rfl ?_
  refine aj_iload_n (q := 358) (i := 2) dX10_simple_357 rfl rfl rfl ?_
  refine aj_aload_n (q := 359) (i := 0) dX10_simple_358 rfl rfl rfl ?_
  refine aj_getI (q := 362) (f := 23) fl_X10_168 dX10_simple_359 rfl lM_0 rfl rfl ?_
  try simp (decide := true) only [sw_eq, sw_ne, ne_eq, Nat.reduceEqDiff, not_false_eq_true, nI_pred, nI_1, gPay_ne, hn, ht, cl n, cl s, ha, cl a]
  refine aj_iastore (q := 363) (f := 700) okM dX10_simple_362 rfl lM_7 rfl (vp_in_nI (by omega) (by omega)) ?_
  refine aj_aload_n (q := 364) (i := 0) dX10_simple_363 rfl rfl rfl ?_
  refine aj_iconst (q := 365) (v := 0) dX10_simple_364 rfl (by decide) ?_
  refine aj_callV (q := 368) (As := [_]) cl_X10_118 mk_X10_comes dX10_simple_365 rfl lM_0 rfl rfl (Nat.le_of_ble_eq_true rfl) (sp_X10_comes (n := n) (by simp (decide := true) only [sw_eq, sw_ne, ne_eq, Nat.reduceEqDiff, not_false_eq_true, gPay_ne, hn]) ?_)
  refine aj_return dX10_simple_368 rfl ?_
  first | contradiction | with_reducible exact hQ | (simp (decide := true) only [↓reduceIte, Bool.false_eq_true, bi_t, bi_f, sw_eq, sw_ne, ne_eq, Nat.reduceEqDiff, not_false_eq_true, nI_pred, nI_1, gPay_ne, hn, ht, cl n, cl s, ha, cl a, ] at hQ ⊢; with_reducible exact hQ)
theorem sp_X10_simple_1 {d : Nat} {S : Sx} {Q : Option Value → Sx → Prop} {n s a b c : Nat} (hn : S 30 0 = nI (n + 1)) (hnb : n + 1 < 180) (hsb : s < 120) (ht : S 100 s = 1) (ha : S 200 s = nI a) (hab : a < 8) (hb : S 300 s = nI b) (hbb : b < 8) (hc : S 400 s = nI c) (hcb : c < 8)  (hQ : Q none (gComes (sw S 700 a (S 700 b + S 700 c)) n 0)) : CC (d + 4) kX10_simple layM [.ref 0, .int (nI s)] S Q := by
  refine cc_intro [some _, some _, none, none, none] (by decide) (cc_cat (by rfl)) (Nat.le_of_ble_eq_true rfl) (cc_ls (by rfl)) ?_
  refine aj_aload_n (q := 1) (i := 0) dX10_simple_0 rfl rfl rfl ?_
  refine aj_getR (q := 4) fl_X10_17 dX10_simple_1 rfl lM_0 rfl ?_
  refine aj_iload_n (q := 5) (i := 1) dX10_simple_4 rfl rfl rfl ?_
  refine aj_iaload (q := 6) (f := 200) dX10_simple_5 rfl lM_2 rfl (vp_in_nI (by omega) (by omega)) ?_
  try simp (decide := true) only [sw_eq, sw_ne, ne_eq, Nat.reduceEqDiff, not_false_eq_true, nI_pred, nI_1, gPay_ne, hn, ht, cl n, cl s, ha, hb, hc, cl a, cl b, cl c]
  refine aj_istore_n (q := 7) (i := 2) (ls' := [_, _, _, _, _]) dX10_simple_6 rfl rfl (by decide) rfl ?_
  refine aj_aload_n (q := 8) (i := 0) dX10_simple_7 rfl rfl rfl ?_
  refine aj_getR (q := 11) fl_X10_20 dX10_simple_8 rfl lM_0 rfl ?_
  refine aj_iload_n (q := 12) (i := 1) dX10_simple_11 rfl rfl rfl ?_
  refine aj_iaload (q := 13) (f := 300) dX10_simple_12 rfl lM_3 rfl (vp_in_nI (by omega) (by omega)) ?_
  try simp (decide := true) only [sw_eq, sw_ne, ne_eq, Nat.reduceEqDiff, not_false_eq_true, nI_pred, nI_1, gPay_ne, hn, ht, cl n, cl s, ha, hb, hc, cl a, cl b, cl c]
  refine aj_istore_n (q := 14) (i := 3) (ls' := [_, _, _, _, _]) dX10_simple_13 rfl rfl (by decide) rfl ?_
  refine aj_aload_n (q := 15) (i := 0) dX10_simple_14 rfl rfl rfl ?_
  refine aj_getR (q := 18) fl_X10_23 dX10_simple_15 rfl lM_0 rfl ?_
  refine aj_iload_n (q := 19) (i := 1) dX10_simple_18 rfl rfl rfl ?_
  refine aj_iaload (q := 20) (f := 400) dX10_simple_19 rfl lM_4 rfl (vp_in_nI (by omega) (by omega)) ?_
  try simp (decide := true) only [sw_eq, sw_ne, ne_eq, Nat.reduceEqDiff, not_false_eq_true, nI_pred, nI_1, gPay_ne, hn, ht, cl n, cl s, ha, hb, hc, cl a, cl b, cl c]
  refine aj_istore (q := 22) (i := 4) (ls' := [_, _, _, _, _]) dX10_simple_20 rfl (by decide) rfl ?_
  refine aj_aload_n (q := 23) (i := 0) dX10_simple_22 rfl rfl rfl ?_
  refine aj_getR (q := 26) fl_X10_13 dX10_simple_23 rfl lM_0 rfl ?_
  refine aj_iload_n (q := 27) (i := 1) dX10_simple_26 rfl rfl rfl ?_
  refine aj_iaload (q := 28) (f := 100) dX10_simple_27 rfl lM_1 rfl (vp_in_nI (by omega) (by omega)) ?_
  try simp (decide := true) only [sw_eq, sw_ne, ne_eq, Nat.reduceEqDiff, not_false_eq_true, nI_pred, nI_1, gPay_ne, hn, ht, cl n, cl s, ha, hb, hc, cl a, cl b, cl c]
  refine aj_tsIn (tgt := 369) (off := 341) dX10_simple_28 (by rw [show (_ : Int32) = 1 from rfl]; decide) (by rw [show (_ : Int32) = 1 from rfl]; decide) (by rw [show (_ : Int32) = 1 from rfl]; rfl) (by decide) ?_
  refine aj_aload_n (q := 370) (i := 0) dX10_simple_369 rfl rfl rfl ?_
  refine aj_iload_n (q := 371) (i := 1) dX10_simple_370 rfl rfl rfl ?_
  refine aj_callV (q := 374) (As := [_]) cl_X10_171 mk_X10_reckon dX10_simple_371 rfl lM_0 rfl rfl (Nat.le_of_ble_eq_true rfl) (sp_X10_reckon_1 (n := n) (s := s) (a := a) (b := b) (c := c) hn hnb hsb ht ha hab hb hbb hc hcb ?_)
  refine aj_return dX10_simple_374 rfl ?_
  first | contradiction | with_reducible exact hQ | (simp (decide := true) only [↓reduceIte, Bool.false_eq_true, bi_t, bi_f, sw_eq, sw_ne, ne_eq, Nat.reduceEqDiff, not_false_eq_true, nI_pred, nI_1, gPay_ne, hn, ht, cl n, cl s, ha, hb, hc, cl a, cl b, cl c, ] at hQ ⊢; with_reducible exact hQ)
theorem sp_X10_simple_2 {d : Nat} {S : Sx} {Q : Option Value → Sx → Prop} {n s a b c : Nat} (hn : S 30 0 = nI (n + 1)) (hnb : n + 1 < 180) (hsb : s < 120) (ht : S 100 s = 2) (ha : S 200 s = nI a) (hab : a < 8) (hb : S 300 s = nI b) (hbb : b < 8) (hc : S 400 s = nI c) (hcb : c < 8)  (hQ : Q none (gComes (sw S 700 a (S 700 b - S 700 c)) n 0)) : CC (d + 4) kX10_simple layM [.ref 0, .int (nI s)] S Q := by
  refine cc_intro [some _, some _, none, none, none] (by decide) (cc_cat (by rfl)) (Nat.le_of_ble_eq_true rfl) (cc_ls (by rfl)) ?_
  refine aj_aload_n (q := 1) (i := 0) dX10_simple_0 rfl rfl rfl ?_
  refine aj_getR (q := 4) fl_X10_17 dX10_simple_1 rfl lM_0 rfl ?_
  refine aj_iload_n (q := 5) (i := 1) dX10_simple_4 rfl rfl rfl ?_
  refine aj_iaload (q := 6) (f := 200) dX10_simple_5 rfl lM_2 rfl (vp_in_nI (by omega) (by omega)) ?_
  try simp (decide := true) only [sw_eq, sw_ne, ne_eq, Nat.reduceEqDiff, not_false_eq_true, nI_pred, nI_1, gPay_ne, hn, ht, cl n, cl s, ha, hb, hc, cl a, cl b, cl c]
  refine aj_istore_n (q := 7) (i := 2) (ls' := [_, _, _, _, _]) dX10_simple_6 rfl rfl (by decide) rfl ?_
  refine aj_aload_n (q := 8) (i := 0) dX10_simple_7 rfl rfl rfl ?_
  refine aj_getR (q := 11) fl_X10_20 dX10_simple_8 rfl lM_0 rfl ?_
  refine aj_iload_n (q := 12) (i := 1) dX10_simple_11 rfl rfl rfl ?_
  refine aj_iaload (q := 13) (f := 300) dX10_simple_12 rfl lM_3 rfl (vp_in_nI (by omega) (by omega)) ?_
  try simp (decide := true) only [sw_eq, sw_ne, ne_eq, Nat.reduceEqDiff, not_false_eq_true, nI_pred, nI_1, gPay_ne, hn, ht, cl n, cl s, ha, hb, hc, cl a, cl b, cl c]
  refine aj_istore_n (q := 14) (i := 3) (ls' := [_, _, _, _, _]) dX10_simple_13 rfl rfl (by decide) rfl ?_
  refine aj_aload_n (q := 15) (i := 0) dX10_simple_14 rfl rfl rfl ?_
  refine aj_getR (q := 18) fl_X10_23 dX10_simple_15 rfl lM_0 rfl ?_
  refine aj_iload_n (q := 19) (i := 1) dX10_simple_18 rfl rfl rfl ?_
  refine aj_iaload (q := 20) (f := 400) dX10_simple_19 rfl lM_4 rfl (vp_in_nI (by omega) (by omega)) ?_
  try simp (decide := true) only [sw_eq, sw_ne, ne_eq, Nat.reduceEqDiff, not_false_eq_true, nI_pred, nI_1, gPay_ne, hn, ht, cl n, cl s, ha, hb, hc, cl a, cl b, cl c]
  refine aj_istore (q := 22) (i := 4) (ls' := [_, _, _, _, _]) dX10_simple_20 rfl (by decide) rfl ?_
  refine aj_aload_n (q := 23) (i := 0) dX10_simple_22 rfl rfl rfl ?_
  refine aj_getR (q := 26) fl_X10_13 dX10_simple_23 rfl lM_0 rfl ?_
  refine aj_iload_n (q := 27) (i := 1) dX10_simple_26 rfl rfl rfl ?_
  refine aj_iaload (q := 28) (f := 100) dX10_simple_27 rfl lM_1 rfl (vp_in_nI (by omega) (by omega)) ?_
  try simp (decide := true) only [sw_eq, sw_ne, ne_eq, Nat.reduceEqDiff, not_false_eq_true, nI_pred, nI_1, gPay_ne, hn, ht, cl n, cl s, ha, hb, hc, cl a, cl b, cl c]
  refine aj_tsIn (tgt := 369) (off := 341) dX10_simple_28 (by rw [show (_ : Int32) = 2 from rfl]; decide) (by rw [show (_ : Int32) = 2 from rfl]; decide) (by rw [show (_ : Int32) = 2 from rfl]; rfl) (by decide) ?_
  refine aj_aload_n (q := 370) (i := 0) dX10_simple_369 rfl rfl rfl ?_
  refine aj_iload_n (q := 371) (i := 1) dX10_simple_370 rfl rfl rfl ?_
  refine aj_callV (q := 374) (As := [_]) cl_X10_171 mk_X10_reckon dX10_simple_371 rfl lM_0 rfl rfl (Nat.le_of_ble_eq_true rfl) (sp_X10_reckon_2 (n := n) (s := s) (a := a) (b := b) (c := c) hn hnb hsb ht ha hab hb hbb hc hcb ?_)
  refine aj_return dX10_simple_374 rfl ?_
  first | contradiction | with_reducible exact hQ | (simp (decide := true) only [↓reduceIte, Bool.false_eq_true, bi_t, bi_f, sw_eq, sw_ne, ne_eq, Nat.reduceEqDiff, not_false_eq_true, nI_pred, nI_1, gPay_ne, hn, ht, cl n, cl s, ha, hb, hc, cl a, cl b, cl c, ] at hQ ⊢; with_reducible exact hQ)
theorem sp_X10_simple_3 {d : Nat} {S : Sx} {Q : Option Value → Sx → Prop} {n s a b c : Nat} (hn : S 30 0 = nI (n + 1)) (hnb : n + 1 < 180) (hsb : s < 120) (ht : S 100 s = 3) (ha : S 200 s = nI a) (hab : a < 8) (hb : S 300 s = nI b) (hbb : b < 8) (hc : S 400 s = nI c) (hcb : c < 8)  (hQ : Q none (gComes (sw S 700 a (S 700 b * S 700 c)) n 0)) : CC (d + 4) kX10_simple layM [.ref 0, .int (nI s)] S Q := by
  refine cc_intro [some _, some _, none, none, none] (by decide) (cc_cat (by rfl)) (Nat.le_of_ble_eq_true rfl) (cc_ls (by rfl)) ?_
  refine aj_aload_n (q := 1) (i := 0) dX10_simple_0 rfl rfl rfl ?_
  refine aj_getR (q := 4) fl_X10_17 dX10_simple_1 rfl lM_0 rfl ?_
  refine aj_iload_n (q := 5) (i := 1) dX10_simple_4 rfl rfl rfl ?_
  refine aj_iaload (q := 6) (f := 200) dX10_simple_5 rfl lM_2 rfl (vp_in_nI (by omega) (by omega)) ?_
  try simp (decide := true) only [sw_eq, sw_ne, ne_eq, Nat.reduceEqDiff, not_false_eq_true, nI_pred, nI_1, gPay_ne, hn, ht, cl n, cl s, ha, hb, hc, cl a, cl b, cl c]
  refine aj_istore_n (q := 7) (i := 2) (ls' := [_, _, _, _, _]) dX10_simple_6 rfl rfl (by decide) rfl ?_
  refine aj_aload_n (q := 8) (i := 0) dX10_simple_7 rfl rfl rfl ?_
  refine aj_getR (q := 11) fl_X10_20 dX10_simple_8 rfl lM_0 rfl ?_
  refine aj_iload_n (q := 12) (i := 1) dX10_simple_11 rfl rfl rfl ?_
  refine aj_iaload (q := 13) (f := 300) dX10_simple_12 rfl lM_3 rfl (vp_in_nI (by omega) (by omega)) ?_
  try simp (decide := true) only [sw_eq, sw_ne, ne_eq, Nat.reduceEqDiff, not_false_eq_true, nI_pred, nI_1, gPay_ne, hn, ht, cl n, cl s, ha, hb, hc, cl a, cl b, cl c]
  refine aj_istore_n (q := 14) (i := 3) (ls' := [_, _, _, _, _]) dX10_simple_13 rfl rfl (by decide) rfl ?_
  refine aj_aload_n (q := 15) (i := 0) dX10_simple_14 rfl rfl rfl ?_
  refine aj_getR (q := 18) fl_X10_23 dX10_simple_15 rfl lM_0 rfl ?_
  refine aj_iload_n (q := 19) (i := 1) dX10_simple_18 rfl rfl rfl ?_
  refine aj_iaload (q := 20) (f := 400) dX10_simple_19 rfl lM_4 rfl (vp_in_nI (by omega) (by omega)) ?_
  try simp (decide := true) only [sw_eq, sw_ne, ne_eq, Nat.reduceEqDiff, not_false_eq_true, nI_pred, nI_1, gPay_ne, hn, ht, cl n, cl s, ha, hb, hc, cl a, cl b, cl c]
  refine aj_istore (q := 22) (i := 4) (ls' := [_, _, _, _, _]) dX10_simple_20 rfl (by decide) rfl ?_
  refine aj_aload_n (q := 23) (i := 0) dX10_simple_22 rfl rfl rfl ?_
  refine aj_getR (q := 26) fl_X10_13 dX10_simple_23 rfl lM_0 rfl ?_
  refine aj_iload_n (q := 27) (i := 1) dX10_simple_26 rfl rfl rfl ?_
  refine aj_iaload (q := 28) (f := 100) dX10_simple_27 rfl lM_1 rfl (vp_in_nI (by omega) (by omega)) ?_
  try simp (decide := true) only [sw_eq, sw_ne, ne_eq, Nat.reduceEqDiff, not_false_eq_true, nI_pred, nI_1, gPay_ne, hn, ht, cl n, cl s, ha, hb, hc, cl a, cl b, cl c]
  refine aj_tsIn (tgt := 369) (off := 341) dX10_simple_28 (by rw [show (_ : Int32) = 3 from rfl]; decide) (by rw [show (_ : Int32) = 3 from rfl]; decide) (by rw [show (_ : Int32) = 3 from rfl]; rfl) (by decide) ?_
  refine aj_aload_n (q := 370) (i := 0) dX10_simple_369 rfl rfl rfl ?_
  refine aj_iload_n (q := 371) (i := 1) dX10_simple_370 rfl rfl rfl ?_
  refine aj_callV (q := 374) (As := [_]) cl_X10_171 mk_X10_reckon dX10_simple_371 rfl lM_0 rfl rfl (Nat.le_of_ble_eq_true rfl) (sp_X10_reckon_3 (n := n) (s := s) (a := a) (b := b) (c := c) hn hnb hsb ht ha hab hb hbb hc hcb ?_)
  refine aj_return dX10_simple_374 rfl ?_
  first | contradiction | with_reducible exact hQ | (simp (decide := true) only [↓reduceIte, Bool.false_eq_true, bi_t, bi_f, sw_eq, sw_ne, ne_eq, Nat.reduceEqDiff, not_false_eq_true, nI_pred, nI_1, gPay_ne, hn, ht, cl n, cl s, ha, hb, hc, cl a, cl b, cl c, ] at hQ ⊢; with_reducible exact hQ)
theorem sp_X10_simple_4 {d : Nat} {S : Sx} {Q : Option Value → Sx → Prop} {n s a b c : Nat} (hn : S 30 0 = nI (n + 1)) (hnb : n + 1 < 180) (hsb : s < 120) (ht : S 100 s = 4) (ha : S 200 s = nI a) (hab : a < 8) (hb : S 300 s = nI b) (hbb : b < 8) (hc : S 400 s = nI c) (hcb : c < 8)  (hQ : Q none (if S 700 c = 0 then gThrow S n 4 0 else gComes (sw S 700 a (S 700 b / S 700 c)) n 0)) : CC (d + 4) kX10_simple layM [.ref 0, .int (nI s)] S Q := by
  refine cc_intro [some _, some _, none, none, none] (by decide) (cc_cat (by rfl)) (Nat.le_of_ble_eq_true rfl) (cc_ls (by rfl)) ?_
  refine aj_aload_n (q := 1) (i := 0) dX10_simple_0 rfl rfl rfl ?_
  refine aj_getR (q := 4) fl_X10_17 dX10_simple_1 rfl lM_0 rfl ?_
  refine aj_iload_n (q := 5) (i := 1) dX10_simple_4 rfl rfl rfl ?_
  refine aj_iaload (q := 6) (f := 200) dX10_simple_5 rfl lM_2 rfl (vp_in_nI (by omega) (by omega)) ?_
  try simp (decide := true) only [sw_eq, sw_ne, ne_eq, Nat.reduceEqDiff, not_false_eq_true, nI_pred, nI_1, gPay_ne, hn, ht, cl n, cl s, ha, hb, hc, cl a, cl b, cl c]
  refine aj_istore_n (q := 7) (i := 2) (ls' := [_, _, _, _, _]) dX10_simple_6 rfl rfl (by decide) rfl ?_
  refine aj_aload_n (q := 8) (i := 0) dX10_simple_7 rfl rfl rfl ?_
  refine aj_getR (q := 11) fl_X10_20 dX10_simple_8 rfl lM_0 rfl ?_
  refine aj_iload_n (q := 12) (i := 1) dX10_simple_11 rfl rfl rfl ?_
  refine aj_iaload (q := 13) (f := 300) dX10_simple_12 rfl lM_3 rfl (vp_in_nI (by omega) (by omega)) ?_
  try simp (decide := true) only [sw_eq, sw_ne, ne_eq, Nat.reduceEqDiff, not_false_eq_true, nI_pred, nI_1, gPay_ne, hn, ht, cl n, cl s, ha, hb, hc, cl a, cl b, cl c]
  refine aj_istore_n (q := 14) (i := 3) (ls' := [_, _, _, _, _]) dX10_simple_13 rfl rfl (by decide) rfl ?_
  refine aj_aload_n (q := 15) (i := 0) dX10_simple_14 rfl rfl rfl ?_
  refine aj_getR (q := 18) fl_X10_23 dX10_simple_15 rfl lM_0 rfl ?_
  refine aj_iload_n (q := 19) (i := 1) dX10_simple_18 rfl rfl rfl ?_
  refine aj_iaload (q := 20) (f := 400) dX10_simple_19 rfl lM_4 rfl (vp_in_nI (by omega) (by omega)) ?_
  try simp (decide := true) only [sw_eq, sw_ne, ne_eq, Nat.reduceEqDiff, not_false_eq_true, nI_pred, nI_1, gPay_ne, hn, ht, cl n, cl s, ha, hb, hc, cl a, cl b, cl c]
  refine aj_istore (q := 22) (i := 4) (ls' := [_, _, _, _, _]) dX10_simple_20 rfl (by decide) rfl ?_
  refine aj_aload_n (q := 23) (i := 0) dX10_simple_22 rfl rfl rfl ?_
  refine aj_getR (q := 26) fl_X10_13 dX10_simple_23 rfl lM_0 rfl ?_
  refine aj_iload_n (q := 27) (i := 1) dX10_simple_26 rfl rfl rfl ?_
  refine aj_iaload (q := 28) (f := 100) dX10_simple_27 rfl lM_1 rfl (vp_in_nI (by omega) (by omega)) ?_
  try simp (decide := true) only [sw_eq, sw_ne, ne_eq, Nat.reduceEqDiff, not_false_eq_true, nI_pred, nI_1, gPay_ne, hn, ht, cl n, cl s, ha, hb, hc, cl a, cl b, cl c]
  refine aj_tsIn (tgt := 369) (off := 341) dX10_simple_28 (by rw [show (_ : Int32) = 4 from rfl]; decide) (by rw [show (_ : Int32) = 4 from rfl]; decide) (by rw [show (_ : Int32) = 4 from rfl]; rfl) (by decide) ?_
  refine aj_aload_n (q := 370) (i := 0) dX10_simple_369 rfl rfl rfl ?_
  refine aj_iload_n (q := 371) (i := 1) dX10_simple_370 rfl rfl rfl ?_
  refine aj_callV (q := 374) (As := [_]) cl_X10_171 mk_X10_reckon dX10_simple_371 rfl lM_0 rfl rfl (Nat.le_of_ble_eq_true rfl) (sp_X10_reckon_4 (n := n) (s := s) (a := a) (b := b) (c := c) hn hnb hsb ht ha hab hb hbb hc hcb ?_)
  refine aj_return dX10_simple_374 rfl ?_
  first | contradiction | with_reducible exact hQ | (simp (decide := true) only [↓reduceIte, Bool.false_eq_true, bi_t, bi_f, sw_eq, sw_ne, ne_eq, Nat.reduceEqDiff, not_false_eq_true, nI_pred, nI_1, gPay_ne, hn, ht, cl n, cl s, ha, hb, hc, cl a, cl b, cl c, ] at hQ ⊢; with_reducible exact hQ)
theorem sp_X10_simple_5 {d : Nat} {S : Sx} {Q : Option Value → Sx → Prop} {n s a b c : Nat} (hn : S 30 0 = nI (n + 1)) (hnb : n + 1 < 180) (hsb : s < 120) (ht : S 100 s = 5) (ha : S 200 s = nI a) (hab : a < 8) (hb : S 300 s = nI b) (hbb : b < 8) (hc : S 400 s = nI c) (hcb : c < 8)  (hQ : Q none (if S 700 c = 0 then gThrow S n 4 0 else gComes (sw S 700 a (S 700 b - S 700 b / S 700 c * S 700 c)) n 0)) : CC (d + 4) kX10_simple layM [.ref 0, .int (nI s)] S Q := by
  refine cc_intro [some _, some _, none, none, none] (by decide) (cc_cat (by rfl)) (Nat.le_of_ble_eq_true rfl) (cc_ls (by rfl)) ?_
  refine aj_aload_n (q := 1) (i := 0) dX10_simple_0 rfl rfl rfl ?_
  refine aj_getR (q := 4) fl_X10_17 dX10_simple_1 rfl lM_0 rfl ?_
  refine aj_iload_n (q := 5) (i := 1) dX10_simple_4 rfl rfl rfl ?_
  refine aj_iaload (q := 6) (f := 200) dX10_simple_5 rfl lM_2 rfl (vp_in_nI (by omega) (by omega)) ?_
  try simp (decide := true) only [sw_eq, sw_ne, ne_eq, Nat.reduceEqDiff, not_false_eq_true, nI_pred, nI_1, gPay_ne, hn, ht, cl n, cl s, ha, hb, hc, cl a, cl b, cl c]
  refine aj_istore_n (q := 7) (i := 2) (ls' := [_, _, _, _, _]) dX10_simple_6 rfl rfl (by decide) rfl ?_
  refine aj_aload_n (q := 8) (i := 0) dX10_simple_7 rfl rfl rfl ?_
  refine aj_getR (q := 11) fl_X10_20 dX10_simple_8 rfl lM_0 rfl ?_
  refine aj_iload_n (q := 12) (i := 1) dX10_simple_11 rfl rfl rfl ?_
  refine aj_iaload (q := 13) (f := 300) dX10_simple_12 rfl lM_3 rfl (vp_in_nI (by omega) (by omega)) ?_
  try simp (decide := true) only [sw_eq, sw_ne, ne_eq, Nat.reduceEqDiff, not_false_eq_true, nI_pred, nI_1, gPay_ne, hn, ht, cl n, cl s, ha, hb, hc, cl a, cl b, cl c]
  refine aj_istore_n (q := 14) (i := 3) (ls' := [_, _, _, _, _]) dX10_simple_13 rfl rfl (by decide) rfl ?_
  refine aj_aload_n (q := 15) (i := 0) dX10_simple_14 rfl rfl rfl ?_
  refine aj_getR (q := 18) fl_X10_23 dX10_simple_15 rfl lM_0 rfl ?_
  refine aj_iload_n (q := 19) (i := 1) dX10_simple_18 rfl rfl rfl ?_
  refine aj_iaload (q := 20) (f := 400) dX10_simple_19 rfl lM_4 rfl (vp_in_nI (by omega) (by omega)) ?_
  try simp (decide := true) only [sw_eq, sw_ne, ne_eq, Nat.reduceEqDiff, not_false_eq_true, nI_pred, nI_1, gPay_ne, hn, ht, cl n, cl s, ha, hb, hc, cl a, cl b, cl c]
  refine aj_istore (q := 22) (i := 4) (ls' := [_, _, _, _, _]) dX10_simple_20 rfl (by decide) rfl ?_
  refine aj_aload_n (q := 23) (i := 0) dX10_simple_22 rfl rfl rfl ?_
  refine aj_getR (q := 26) fl_X10_13 dX10_simple_23 rfl lM_0 rfl ?_
  refine aj_iload_n (q := 27) (i := 1) dX10_simple_26 rfl rfl rfl ?_
  refine aj_iaload (q := 28) (f := 100) dX10_simple_27 rfl lM_1 rfl (vp_in_nI (by omega) (by omega)) ?_
  try simp (decide := true) only [sw_eq, sw_ne, ne_eq, Nat.reduceEqDiff, not_false_eq_true, nI_pred, nI_1, gPay_ne, hn, ht, cl n, cl s, ha, hb, hc, cl a, cl b, cl c]
  refine aj_tsIn (tgt := 369) (off := 341) dX10_simple_28 (by rw [show (_ : Int32) = 5 from rfl]; decide) (by rw [show (_ : Int32) = 5 from rfl]; decide) (by rw [show (_ : Int32) = 5 from rfl]; rfl) (by decide) ?_
  refine aj_aload_n (q := 370) (i := 0) dX10_simple_369 rfl rfl rfl ?_
  refine aj_iload_n (q := 371) (i := 1) dX10_simple_370 rfl rfl rfl ?_
  refine aj_callV (q := 374) (As := [_]) cl_X10_171 mk_X10_reckon dX10_simple_371 rfl lM_0 rfl rfl (Nat.le_of_ble_eq_true rfl) (sp_X10_reckon_5 (n := n) (s := s) (a := a) (b := b) (c := c) hn hnb hsb ht ha hab hb hbb hc hcb ?_)
  refine aj_return dX10_simple_374 rfl ?_
  first | contradiction | with_reducible exact hQ | (simp (decide := true) only [↓reduceIte, Bool.false_eq_true, bi_t, bi_f, sw_eq, sw_ne, ne_eq, Nat.reduceEqDiff, not_false_eq_true, nI_pred, nI_1, gPay_ne, hn, ht, cl n, cl s, ha, hb, hc, cl a, cl b, cl c, ] at hQ ⊢; with_reducible exact hQ)
theorem sp_X10_simple_6_no {d : Nat} {S : Sx} {Q : Option Value → Sx → Prop} {n s a b : Nat} (hn : S 30 0 = nI (n + 1)) (hnb : n + 1 < 180) (hsb : s < 120) (ht : S 100 s = 6) (hD : DrOk S) (ha : S 200 s = nI a) (hab : a < 4) (hb : S 300 s = nI b) (hbb : b < 8) (hp : gPayB S (mkPrice (S 700 b)) = false)  (hQ : Q none (gPayS S 4 (mkPrice (S 700 b)))) : CC (d + 4) kX10_simple layM [.ref 0, .int (nI s)] S Q := by
  refine cc_intro [some _, some _, none, none, none] (by decide) (cc_cat (by rfl)) (Nat.le_of_ble_eq_true rfl) (cc_ls (by rfl)) ?_
  refine aj_aload_n (q := 1) (i := 0) dX10_simple_0 rfl rfl rfl ?_
  refine aj_getR (q := 4) fl_X10_17 dX10_simple_1 rfl lM_0 rfl ?_
  refine aj_iload_n (q := 5) (i := 1) dX10_simple_4 rfl rfl rfl ?_
  refine aj_iaload (q := 6) (f := 200) dX10_simple_5 rfl lM_2 rfl (vp_in_nI (by omega) (by omega)) ?_
  try simp (decide := true) only [sw_eq, sw_ne, ne_eq, Nat.reduceEqDiff, not_false_eq_true, nI_pred, nI_1, gPay_ne, hn, ht, cl n, cl s, ha, hb, cl a, cl b]
  refine aj_istore_n (q := 7) (i := 2) (ls' := [_, _, _, _, _]) dX10_simple_6 rfl rfl (by decide) rfl ?_
  refine aj_aload_n (q := 8) (i := 0) dX10_simple_7 rfl rfl rfl ?_
  refine aj_getR (q := 11) fl_X10_20 dX10_simple_8 rfl lM_0 rfl ?_
  refine aj_iload_n (q := 12) (i := 1) dX10_simple_11 rfl rfl rfl ?_
  refine aj_iaload (q := 13) (f := 300) dX10_simple_12 rfl lM_3 rfl (vp_in_nI (by omega) (by omega)) ?_
  try simp (decide := true) only [sw_eq, sw_ne, ne_eq, Nat.reduceEqDiff, not_false_eq_true, nI_pred, nI_1, gPay_ne, hn, ht, cl n, cl s, ha, hb, cl a, cl b]
  refine aj_istore_n (q := 14) (i := 3) (ls' := [_, _, _, _, _]) dX10_simple_13 rfl rfl (by decide) rfl ?_
  refine aj_aload_n (q := 15) (i := 0) dX10_simple_14 rfl rfl rfl ?_
  refine aj_getR (q := 18) fl_X10_23 dX10_simple_15 rfl lM_0 rfl ?_
  refine aj_iload_n (q := 19) (i := 1) dX10_simple_18 rfl rfl rfl ?_
  refine aj_iaload (q := 20) (f := 400) dX10_simple_19 rfl lM_4 rfl (vp_in_nI (by omega) (by omega)) ?_
  try simp (decide := true) only [sw_eq, sw_ne, ne_eq, Nat.reduceEqDiff, not_false_eq_true, nI_pred, nI_1, gPay_ne, hn, ht, cl n, cl s, ha, hb, cl a, cl b]
  refine aj_istore (q := 22) (i := 4) (ls' := [_, _, _, _, _]) dX10_simple_20 rfl (by decide) rfl ?_
  refine aj_aload_n (q := 23) (i := 0) dX10_simple_22 rfl rfl rfl ?_
  refine aj_getR (q := 26) fl_X10_13 dX10_simple_23 rfl lM_0 rfl ?_
  refine aj_iload_n (q := 27) (i := 1) dX10_simple_26 rfl rfl rfl ?_
  refine aj_iaload (q := 28) (f := 100) dX10_simple_27 rfl lM_1 rfl (vp_in_nI (by omega) (by omega)) ?_
  try simp (decide := true) only [sw_eq, sw_ne, ne_eq, Nat.reduceEqDiff, not_false_eq_true, nI_pred, nI_1, gPay_ne, hn, ht, cl n, cl s, ha, hb, cl a, cl b]
  refine aj_tsIn (tgt := 145) (off := 117) dX10_simple_28 (by rw [show (_ : Int32) = 6 from rfl]; decide) (by rw [show (_ : Int32) = 6 from rfl]; decide) (by rw [show (_ : Int32) = 6 from rfl]; rfl) (by decide) ?_
  refine aj_aload_n (q := 146) (i := 0) dX10_simple_145 rfl rfl rfl ?_
  refine aj_iload_n (q := 147) (i := 1) dX10_simple_146 rfl rfl rfl ?_
  refine aj_callV (q := 150) (As := [_]) cl_X10_162 mk_X10_making dX10_simple_147 rfl lM_0 rfl rfl (Nat.le_of_ble_eq_true rfl) (sp_X10_making_no hn hnb hsb hD ha hab hb hbb hp ?_)
  refine aj_return dX10_simple_150 rfl ?_
  first | contradiction | with_reducible exact hQ | (simp (decide := true) only [↓reduceIte, Bool.false_eq_true, bi_t, bi_f, sw_eq, sw_ne, ne_eq, Nat.reduceEqDiff, not_false_eq_true, nI_pred, nI_1, gPay_ne, hn, ht, cl n, cl s, ha, hb, cl a, cl b, ] at hQ ⊢; with_reducible exact hQ)
theorem sp_X10_simple_6_neg {d : Nat} {S : Sx} {Q : Option Value → Sx → Prop} {n s a b : Nat} (hn : S 30 0 = nI (n + 1)) (hnb : n + 1 < 180) (hsb : s < 120) (ht : S 100 s = 6) (hD : DrOk S) (ha : S 200 s = nI a) (hab : a < 4) (hb : S 300 s = nI b) (hbb : b < 8) (h0 : ¬ 0 ≤ S 700 b) (hp : gPayB S (mkPrice (S 700 b)) = true)  (hQ : Q none (gThrow (gPayS S 4 (mkPrice (S 700 b))) n 3 0)) : CC (d + 4) kX10_simple layM [.ref 0, .int (nI s)] S Q := by
  refine cc_intro [some _, some _, none, none, none] (by decide) (cc_cat (by rfl)) (Nat.le_of_ble_eq_true rfl) (cc_ls (by rfl)) ?_
  refine aj_aload_n (q := 1) (i := 0) dX10_simple_0 rfl rfl rfl ?_
  refine aj_getR (q := 4) fl_X10_17 dX10_simple_1 rfl lM_0 rfl ?_
  refine aj_iload_n (q := 5) (i := 1) dX10_simple_4 rfl rfl rfl ?_
  refine aj_iaload (q := 6) (f := 200) dX10_simple_5 rfl lM_2 rfl (vp_in_nI (by omega) (by omega)) ?_
  try simp (decide := true) only [sw_eq, sw_ne, ne_eq, Nat.reduceEqDiff, not_false_eq_true, nI_pred, nI_1, gPay_ne, hn, ht, cl n, cl s, ha, hb, cl a, cl b]
  refine aj_istore_n (q := 7) (i := 2) (ls' := [_, _, _, _, _]) dX10_simple_6 rfl rfl (by decide) rfl ?_
  refine aj_aload_n (q := 8) (i := 0) dX10_simple_7 rfl rfl rfl ?_
  refine aj_getR (q := 11) fl_X10_20 dX10_simple_8 rfl lM_0 rfl ?_
  refine aj_iload_n (q := 12) (i := 1) dX10_simple_11 rfl rfl rfl ?_
  refine aj_iaload (q := 13) (f := 300) dX10_simple_12 rfl lM_3 rfl (vp_in_nI (by omega) (by omega)) ?_
  try simp (decide := true) only [sw_eq, sw_ne, ne_eq, Nat.reduceEqDiff, not_false_eq_true, nI_pred, nI_1, gPay_ne, hn, ht, cl n, cl s, ha, hb, cl a, cl b]
  refine aj_istore_n (q := 14) (i := 3) (ls' := [_, _, _, _, _]) dX10_simple_13 rfl rfl (by decide) rfl ?_
  refine aj_aload_n (q := 15) (i := 0) dX10_simple_14 rfl rfl rfl ?_
  refine aj_getR (q := 18) fl_X10_23 dX10_simple_15 rfl lM_0 rfl ?_
  refine aj_iload_n (q := 19) (i := 1) dX10_simple_18 rfl rfl rfl ?_
  refine aj_iaload (q := 20) (f := 400) dX10_simple_19 rfl lM_4 rfl (vp_in_nI (by omega) (by omega)) ?_
  try simp (decide := true) only [sw_eq, sw_ne, ne_eq, Nat.reduceEqDiff, not_false_eq_true, nI_pred, nI_1, gPay_ne, hn, ht, cl n, cl s, ha, hb, cl a, cl b]
  refine aj_istore (q := 22) (i := 4) (ls' := [_, _, _, _, _]) dX10_simple_20 rfl (by decide) rfl ?_
  refine aj_aload_n (q := 23) (i := 0) dX10_simple_22 rfl rfl rfl ?_
  refine aj_getR (q := 26) fl_X10_13 dX10_simple_23 rfl lM_0 rfl ?_
  refine aj_iload_n (q := 27) (i := 1) dX10_simple_26 rfl rfl rfl ?_
  refine aj_iaload (q := 28) (f := 100) dX10_simple_27 rfl lM_1 rfl (vp_in_nI (by omega) (by omega)) ?_
  try simp (decide := true) only [sw_eq, sw_ne, ne_eq, Nat.reduceEqDiff, not_false_eq_true, nI_pred, nI_1, gPay_ne, hn, ht, cl n, cl s, ha, hb, cl a, cl b]
  refine aj_tsIn (tgt := 145) (off := 117) dX10_simple_28 (by rw [show (_ : Int32) = 6 from rfl]; decide) (by rw [show (_ : Int32) = 6 from rfl]; decide) (by rw [show (_ : Int32) = 6 from rfl]; rfl) (by decide) ?_
  refine aj_aload_n (q := 146) (i := 0) dX10_simple_145 rfl rfl rfl ?_
  refine aj_iload_n (q := 147) (i := 1) dX10_simple_146 rfl rfl rfl ?_
  refine aj_callV (q := 150) (As := [_]) cl_X10_162 mk_X10_making dX10_simple_147 rfl lM_0 rfl rfl (Nat.le_of_ble_eq_true rfl) (sp_X10_making_neg hn hnb hsb hD ha hab hb hbb h0 hp ?_)
  refine aj_return dX10_simple_150 rfl ?_
  first | contradiction | with_reducible exact hQ | (simp (decide := true) only [↓reduceIte, Bool.false_eq_true, bi_t, bi_f, sw_eq, sw_ne, ne_eq, Nat.reduceEqDiff, not_false_eq_true, nI_pred, nI_1, gPay_ne, hn, ht, cl n, cl s, ha, hb, cl a, cl b, ] at hQ ⊢; with_reducible exact hQ)
theorem sp_X10_simple_6_ok {d : Nat} {S : Sx} {Q : Option Value → Sx → Prop} {n s a b w u z : Nat} (hn : S 30 0 = nI (n + 1)) (hnb : n + 1 < 180) (hsb : s < 120) (ht : S 100 s = 6) (hD : DrOk S) (ha : S 200 s = nI a) (hab : a < 4) (hb : S 300 s = nI b) (hbb : b < 8) (hp : gPayB S (mkPrice (nI z)) = true) (hz : S 700 b = nI z) (hw : S 11 0 = nI w) (hwb : w < 300) (hu : S 14 0 = nI u) (huz : u + z ≤ 1400)  (hQ : Q none (gMade (gPayS S 4 (mkPrice (nI z))) n a w u z)) : CC (d + 4) kX10_simple layM [.ref 0, .int (nI s)] S Q := by
  refine cc_intro [some _, some _, none, none, none] (by decide) (cc_cat (by rfl)) (Nat.le_of_ble_eq_true rfl) (cc_ls (by rfl)) ?_
  refine aj_aload_n (q := 1) (i := 0) dX10_simple_0 rfl rfl rfl ?_
  refine aj_getR (q := 4) fl_X10_17 dX10_simple_1 rfl lM_0 rfl ?_
  refine aj_iload_n (q := 5) (i := 1) dX10_simple_4 rfl rfl rfl ?_
  refine aj_iaload (q := 6) (f := 200) dX10_simple_5 rfl lM_2 rfl (vp_in_nI (by omega) (by omega)) ?_
  try simp (decide := true) only [sw_eq, sw_ne, ne_eq, Nat.reduceEqDiff, not_false_eq_true, nI_pred, nI_1, gPay_ne, hn, ht, cl n, cl s, ha, hb, cl a, cl b]
  refine aj_istore_n (q := 7) (i := 2) (ls' := [_, _, _, _, _]) dX10_simple_6 rfl rfl (by decide) rfl ?_
  refine aj_aload_n (q := 8) (i := 0) dX10_simple_7 rfl rfl rfl ?_
  refine aj_getR (q := 11) fl_X10_20 dX10_simple_8 rfl lM_0 rfl ?_
  refine aj_iload_n (q := 12) (i := 1) dX10_simple_11 rfl rfl rfl ?_
  refine aj_iaload (q := 13) (f := 300) dX10_simple_12 rfl lM_3 rfl (vp_in_nI (by omega) (by omega)) ?_
  try simp (decide := true) only [sw_eq, sw_ne, ne_eq, Nat.reduceEqDiff, not_false_eq_true, nI_pred, nI_1, gPay_ne, hn, ht, cl n, cl s, ha, hb, cl a, cl b]
  refine aj_istore_n (q := 14) (i := 3) (ls' := [_, _, _, _, _]) dX10_simple_13 rfl rfl (by decide) rfl ?_
  refine aj_aload_n (q := 15) (i := 0) dX10_simple_14 rfl rfl rfl ?_
  refine aj_getR (q := 18) fl_X10_23 dX10_simple_15 rfl lM_0 rfl ?_
  refine aj_iload_n (q := 19) (i := 1) dX10_simple_18 rfl rfl rfl ?_
  refine aj_iaload (q := 20) (f := 400) dX10_simple_19 rfl lM_4 rfl (vp_in_nI (by omega) (by omega)) ?_
  try simp (decide := true) only [sw_eq, sw_ne, ne_eq, Nat.reduceEqDiff, not_false_eq_true, nI_pred, nI_1, gPay_ne, hn, ht, cl n, cl s, ha, hb, cl a, cl b]
  refine aj_istore (q := 22) (i := 4) (ls' := [_, _, _, _, _]) dX10_simple_20 rfl (by decide) rfl ?_
  refine aj_aload_n (q := 23) (i := 0) dX10_simple_22 rfl rfl rfl ?_
  refine aj_getR (q := 26) fl_X10_13 dX10_simple_23 rfl lM_0 rfl ?_
  refine aj_iload_n (q := 27) (i := 1) dX10_simple_26 rfl rfl rfl ?_
  refine aj_iaload (q := 28) (f := 100) dX10_simple_27 rfl lM_1 rfl (vp_in_nI (by omega) (by omega)) ?_
  try simp (decide := true) only [sw_eq, sw_ne, ne_eq, Nat.reduceEqDiff, not_false_eq_true, nI_pred, nI_1, gPay_ne, hn, ht, cl n, cl s, ha, hb, cl a, cl b]
  refine aj_tsIn (tgt := 145) (off := 117) dX10_simple_28 (by rw [show (_ : Int32) = 6 from rfl]; decide) (by rw [show (_ : Int32) = 6 from rfl]; decide) (by rw [show (_ : Int32) = 6 from rfl]; rfl) (by decide) ?_
  refine aj_aload_n (q := 146) (i := 0) dX10_simple_145 rfl rfl rfl ?_
  refine aj_iload_n (q := 147) (i := 1) dX10_simple_146 rfl rfl rfl ?_
  refine aj_callV (q := 150) (As := [_]) cl_X10_162 mk_X10_making dX10_simple_147 rfl lM_0 rfl rfl (Nat.le_of_ble_eq_true rfl) (sp_X10_making_ok hn hnb hsb hD ha hab hb hbb hp hz hw hwb hu huz ?_)
  refine aj_return dX10_simple_150 rfl ?_
  first | contradiction | with_reducible exact hQ | (simp (decide := true) only [↓reduceIte, Bool.false_eq_true, bi_t, bi_f, sw_eq, sw_ne, ne_eq, Nat.reduceEqDiff, not_false_eq_true, nI_pred, nI_1, gPay_ne, hn, ht, cl n, cl s, ha, hb, cl a, cl b, ] at hQ ⊢; with_reducible exact hQ)
theorem sp_X10_begin_0 {d : Nat} {S : Sx} {Q : Option Value → Sx → Prop} {n s a : Nat} (hn : S 30 0 = nI (n + 1)) (hnb : n + 1 < 180) (hs : S 1600 n = nI s) (hsb : s < 120) (ht : S 100 s = 0) (ha : S 200 s = nI a) (hab : a < 8)  (hQ : Q none (gComes (sw S 700 a (S 300 s)) n 0)) : CC (d + 5) kX10_begin layM [.ref 0] S Q := by
  refine cc_intro [some _, none] (by decide) (cc_cat (by rfl)) (Nat.le_of_ble_eq_true rfl) (cc_ls (by rfl)) ?_
  refine aj_aload_n (q := 1) (i := 0) dX10_begin_0 rfl rfl rfl ?_
  refine aj_getR (q := 4) fl_X10_62 dX10_begin_1 rfl lM_0 rfl ?_
  refine aj_aload_n (q := 5) (i := 0) dX10_begin_4 rfl rfl rfl ?_
  refine aj_getI (q := 8) (f := 30) fl_X10_106 dX10_begin_5 rfl lM_0 rfl rfl ?_
  try simp (decide := true) only [sw_eq, sw_ne, ne_eq, Nat.reduceEqDiff, not_false_eq_true, nI_pred, nI_1, gPay_ne, hn, hs, ht, cl n, cl s, ha, cl a]
  refine aj_iconst (q := 9) (v := 1) dX10_begin_8 rfl (by decide) ?_
  refine aj_isub (q := 10) dX10_begin_9 rfl ?_
  try simp (decide := true) only [sw_eq, sw_ne, ne_eq, Nat.reduceEqDiff, not_false_eq_true, nI_pred, nI_1, gPay_ne, hn, hs, ht, cl n, cl s, ha, cl a]
  refine aj_iaload (q := 11) (f := 1600) dX10_begin_10 rfl lM_16 rfl (vp_in_nI (by omega) (by omega)) ?_
  try simp (decide := true) only [sw_eq, sw_ne, ne_eq, Nat.reduceEqDiff, not_false_eq_true, nI_pred, nI_1, gPay_ne, hn, hs, ht, cl n, cl s, ha, cl a]
  refine aj_istore_n (q := 12) (i := 1) (ls' := [_, _]) dX10_begin_11 rfl rfl (by decide) rfl ?_
  refine aj_aload_n (q := 13) (i := 0) dX10_begin_12 rfl rfl rfl ?_
  refine aj_getR (q := 16) fl_X10_13 dX10_begin_13 rfl lM_0 rfl ?_
  refine aj_iload_n (q := 17) (i := 1) dX10_begin_16 rfl rfl rfl ?_
  refine aj_iaload (q := 18) (f := 100) dX10_begin_17 rfl lM_1 rfl (vp_in_nI (by omega) (by omega)) ?_
  try simp (decide := true) only [sw_eq, sw_ne, ne_eq, Nat.reduceEqDiff, not_false_eq_true, nI_pred, nI_1, gPay_ne, hn, hs, ht, cl n, cl s, ha, cl a]
  refine aj_tsOut (tgt := 194) dX10_begin_18 (by rw [show (_ : Int32) = 0 from rfl]; decide) (by decide) ?_
  refine aj_aload_n (q := 195) (i := 0) dX10_begin_194 rfl rfl rfl ?_
  refine aj_iload_n (q := 196) (i := 1) dX10_begin_195 rfl rfl rfl ?_
  refine aj_callV (q := 199) (As := [_]) cl_X10_192 mk_X10_simple dX10_begin_196 rfl lM_0 rfl rfl (Nat.le_of_ble_eq_true rfl) (sp_X10_simple_0 hn hnb hsb ht ha hab ?_)
  refine aj_return dX10_begin_199 rfl ?_
  first | contradiction | with_reducible exact hQ | (simp (decide := true) only [↓reduceIte, Bool.false_eq_true, bi_t, bi_f, sw_eq, sw_ne, ne_eq, Nat.reduceEqDiff, not_false_eq_true, nI_pred, nI_1, gPay_ne, hn, hs, ht, cl n, cl s, ha, cl a, ] at hQ ⊢; with_reducible exact hQ)
theorem sp_X10_begin_7 {d : Nat} {S : Sx} {Q : Option Value → Sx → Prop} {n s a b c : Nat} (hn : S 30 0 = nI (n + 1)) (hnb : n + 1 < 180) (hs : S 1600 n = nI s) (hsb : s < 120) (ht : S 100 s = 7) (ha : S 200 s = nI a) (hab : a < 8) (hb : S 300 s = nI b) (hbb : b < 4) (hc : S 400 s = nI c) (hcb : c < 8) (hst : S 37 0 = -1) (hx : ¬ S 800 b = -1 → vp_in (S 800 b) 300) (hcell : gHasB S b (S 700 c) = true → vp_in (S 1100 (S 800 b).toNatClampNeg + S 700 c) 1400)  (hQ : Q none (if gHasB S b (S 700 c) then gComes (sw S 700 a (S 1200 (S 1100 (S 800 b).toNatClampNeg + S 700 c).toNatClampNeg)) n 0 else gHasS S n b (S 700 c))) : CC (d + 5) kX10_begin layM [.ref 0] S Q := by
  refine cc_intro [some _, none] (by decide) (cc_cat (by rfl)) (Nat.le_of_ble_eq_true rfl) (cc_ls (by rfl)) ?_
  refine aj_aload_n (q := 1) (i := 0) dX10_begin_0 rfl rfl rfl ?_
  refine aj_getR (q := 4) fl_X10_62 dX10_begin_1 rfl lM_0 rfl ?_
  refine aj_aload_n (q := 5) (i := 0) dX10_begin_4 rfl rfl rfl ?_
  refine aj_getI (q := 8) (f := 30) fl_X10_106 dX10_begin_5 rfl lM_0 rfl rfl ?_
  try simp (decide := true) only [sw_eq, sw_ne, ne_eq, Nat.reduceEqDiff, not_false_eq_true, nI_pred, nI_1, gPay_ne, hn, hs, ht, cl n, cl s, ha, hb, hc, cl a, cl b, cl c]
  refine aj_iconst (q := 9) (v := 1) dX10_begin_8 rfl (by decide) ?_
  refine aj_isub (q := 10) dX10_begin_9 rfl ?_
  try simp (decide := true) only [sw_eq, sw_ne, ne_eq, Nat.reduceEqDiff, not_false_eq_true, nI_pred, nI_1, gPay_ne, hn, hs, ht, cl n, cl s, ha, hb, hc, cl a, cl b, cl c]
  refine aj_iaload (q := 11) (f := 1600) dX10_begin_10 rfl lM_16 rfl (vp_in_nI (by omega) (by omega)) ?_
  try simp (decide := true) only [sw_eq, sw_ne, ne_eq, Nat.reduceEqDiff, not_false_eq_true, nI_pred, nI_1, gPay_ne, hn, hs, ht, cl n, cl s, ha, hb, hc, cl a, cl b, cl c]
  refine aj_istore_n (q := 12) (i := 1) (ls' := [_, _]) dX10_begin_11 rfl rfl (by decide) rfl ?_
  refine aj_aload_n (q := 13) (i := 0) dX10_begin_12 rfl rfl rfl ?_
  refine aj_getR (q := 16) fl_X10_13 dX10_begin_13 rfl lM_0 rfl ?_
  refine aj_iload_n (q := 17) (i := 1) dX10_begin_16 rfl rfl rfl ?_
  refine aj_iaload (q := 18) (f := 100) dX10_begin_17 rfl lM_1 rfl (vp_in_nI (by omega) (by omega)) ?_
  try simp (decide := true) only [sw_eq, sw_ne, ne_eq, Nat.reduceEqDiff, not_false_eq_true, nI_pred, nI_1, gPay_ne, hn, hs, ht, cl n, cl s, ha, hb, hc, cl a, cl b, cl c]
  refine aj_tsOut (tgt := 194) dX10_begin_18 (by rw [show (_ : Int32) = 7 from rfl]; decide) (by decide) ?_
  refine aj_aload_n (q := 195) (i := 0) dX10_begin_194 rfl rfl rfl ?_
  refine aj_iload_n (q := 196) (i := 1) dX10_begin_195 rfl rfl rfl ?_
  refine aj_callV (q := 199) (As := [_]) cl_X10_192 mk_X10_simple dX10_begin_196 rfl lM_0 rfl rfl (Nat.le_of_ble_eq_true rfl) (sp_X10_simple_7 hn hnb hsb ht ha hab hb hbb hc hcb hst hx hcell ?_)
  refine aj_return dX10_begin_199 rfl ?_
  first | contradiction | with_reducible exact hQ | (simp (decide := true) only [↓reduceIte, Bool.false_eq_true, bi_t, bi_f, sw_eq, sw_ne, ne_eq, Nat.reduceEqDiff, not_false_eq_true, nI_pred, nI_1, gPay_ne, hn, hs, ht, cl n, cl s, ha, hb, hc, cl a, cl b, cl c, ] at hQ ⊢; with_reducible exact hQ)
theorem sp_X10_begin_8 {d : Nat} {S : Sx} {Q : Option Value → Sx → Prop} {n s a b c : Nat} (hn : S 30 0 = nI (n + 1)) (hnb : n + 1 < 180) (hs : S 1600 n = nI s) (hsb : s < 120) (ht : S 100 s = 8) (ha : S 200 s = nI a) (hab : a < 4) (hb : S 300 s = nI b) (hbb : b < 8) (hc : S 400 s = nI c) (hcb : c < 8) (hst : S 37 0 = -1) (hx : ¬ S 800 a = -1 → vp_in (S 800 a) 300) (hcell : gHasB S a (S 700 b) = true → vp_in (S 1100 (S 800 a).toNatClampNeg + S 700 b) 1400)  (hQ : Q none (if gHasB S a (S 700 b) then gComes (sw S 1200 (S 1100 (S 800 a).toNatClampNeg + S 700 b).toNatClampNeg (S 700 c)) n 0 else gHasS S n a (S 700 b))) : CC (d + 5) kX10_begin layM [.ref 0] S Q := by
  refine cc_intro [some _, none] (by decide) (cc_cat (by rfl)) (Nat.le_of_ble_eq_true rfl) (cc_ls (by rfl)) ?_
  refine aj_aload_n (q := 1) (i := 0) dX10_begin_0 rfl rfl rfl ?_
  refine aj_getR (q := 4) fl_X10_62 dX10_begin_1 rfl lM_0 rfl ?_
  refine aj_aload_n (q := 5) (i := 0) dX10_begin_4 rfl rfl rfl ?_
  refine aj_getI (q := 8) (f := 30) fl_X10_106 dX10_begin_5 rfl lM_0 rfl rfl ?_
  try simp (decide := true) only [sw_eq, sw_ne, ne_eq, Nat.reduceEqDiff, not_false_eq_true, nI_pred, nI_1, gPay_ne, hn, hs, ht, cl n, cl s, ha, hb, hc, cl a, cl b, cl c]
  refine aj_iconst (q := 9) (v := 1) dX10_begin_8 rfl (by decide) ?_
  refine aj_isub (q := 10) dX10_begin_9 rfl ?_
  try simp (decide := true) only [sw_eq, sw_ne, ne_eq, Nat.reduceEqDiff, not_false_eq_true, nI_pred, nI_1, gPay_ne, hn, hs, ht, cl n, cl s, ha, hb, hc, cl a, cl b, cl c]
  refine aj_iaload (q := 11) (f := 1600) dX10_begin_10 rfl lM_16 rfl (vp_in_nI (by omega) (by omega)) ?_
  try simp (decide := true) only [sw_eq, sw_ne, ne_eq, Nat.reduceEqDiff, not_false_eq_true, nI_pred, nI_1, gPay_ne, hn, hs, ht, cl n, cl s, ha, hb, hc, cl a, cl b, cl c]
  refine aj_istore_n (q := 12) (i := 1) (ls' := [_, _]) dX10_begin_11 rfl rfl (by decide) rfl ?_
  refine aj_aload_n (q := 13) (i := 0) dX10_begin_12 rfl rfl rfl ?_
  refine aj_getR (q := 16) fl_X10_13 dX10_begin_13 rfl lM_0 rfl ?_
  refine aj_iload_n (q := 17) (i := 1) dX10_begin_16 rfl rfl rfl ?_
  refine aj_iaload (q := 18) (f := 100) dX10_begin_17 rfl lM_1 rfl (vp_in_nI (by omega) (by omega)) ?_
  try simp (decide := true) only [sw_eq, sw_ne, ne_eq, Nat.reduceEqDiff, not_false_eq_true, nI_pred, nI_1, gPay_ne, hn, hs, ht, cl n, cl s, ha, hb, hc, cl a, cl b, cl c]
  refine aj_tsOut (tgt := 194) dX10_begin_18 (by rw [show (_ : Int32) = 8 from rfl]; decide) (by decide) ?_
  refine aj_aload_n (q := 195) (i := 0) dX10_begin_194 rfl rfl rfl ?_
  refine aj_iload_n (q := 196) (i := 1) dX10_begin_195 rfl rfl rfl ?_
  refine aj_callV (q := 199) (As := [_]) cl_X10_192 mk_X10_simple dX10_begin_196 rfl lM_0 rfl rfl (Nat.le_of_ble_eq_true rfl) (sp_X10_simple_8 hn hnb hsb ht ha hab hb hbb hc hcb hst hx hcell ?_)
  refine aj_return dX10_begin_199 rfl ?_
  first | contradiction | with_reducible exact hQ | (simp (decide := true) only [↓reduceIte, Bool.false_eq_true, bi_t, bi_f, sw_eq, sw_ne, ne_eq, Nat.reduceEqDiff, not_false_eq_true, nI_pred, nI_1, gPay_ne, hn, hs, ht, cl n, cl s, ha, hb, hc, cl a, cl b, cl c, ] at hQ ⊢; with_reducible exact hQ)
theorem sp_X10_begin_9 {d : Nat} {S : Sx} {Q : Option Value → Sx → Prop} {n s a b : Nat} (hn : S 30 0 = nI (n + 1)) (hnb : n + 1 < 180) (hs : S 1600 n = nI s) (hsb : s < 120) (ht : S 100 s = 9) (ha : S 200 s = nI a) (hab : a < 8) (hb : S 300 s = nI b) (hbb : b < 4) (hx : ¬ S 800 b = -1 → vp_in (S 800 b) 300)  (hQ : Q none (if S 800 b = -1 then gThrow S n 1 0 else gComes (sw S 700 a (S 1000 (S 800 b).toNatClampNeg)) n 0)) : CC (d + 5) kX10_begin layM [.ref 0] S Q := by
  refine cc_intro [some _, none] (by decide) (cc_cat (by rfl)) (Nat.le_of_ble_eq_true rfl) (cc_ls (by rfl)) ?_
  refine aj_aload_n (q := 1) (i := 0) dX10_begin_0 rfl rfl rfl ?_
  refine aj_getR (q := 4) fl_X10_62 dX10_begin_1 rfl lM_0 rfl ?_
  refine aj_aload_n (q := 5) (i := 0) dX10_begin_4 rfl rfl rfl ?_
  refine aj_getI (q := 8) (f := 30) fl_X10_106 dX10_begin_5 rfl lM_0 rfl rfl ?_
  try simp (decide := true) only [sw_eq, sw_ne, ne_eq, Nat.reduceEqDiff, not_false_eq_true, nI_pred, nI_1, gPay_ne, hn, hs, ht, cl n, cl s, ha, hb, cl a, cl b]
  refine aj_iconst (q := 9) (v := 1) dX10_begin_8 rfl (by decide) ?_
  refine aj_isub (q := 10) dX10_begin_9 rfl ?_
  try simp (decide := true) only [sw_eq, sw_ne, ne_eq, Nat.reduceEqDiff, not_false_eq_true, nI_pred, nI_1, gPay_ne, hn, hs, ht, cl n, cl s, ha, hb, cl a, cl b]
  refine aj_iaload (q := 11) (f := 1600) dX10_begin_10 rfl lM_16 rfl (vp_in_nI (by omega) (by omega)) ?_
  try simp (decide := true) only [sw_eq, sw_ne, ne_eq, Nat.reduceEqDiff, not_false_eq_true, nI_pred, nI_1, gPay_ne, hn, hs, ht, cl n, cl s, ha, hb, cl a, cl b]
  refine aj_istore_n (q := 12) (i := 1) (ls' := [_, _]) dX10_begin_11 rfl rfl (by decide) rfl ?_
  refine aj_aload_n (q := 13) (i := 0) dX10_begin_12 rfl rfl rfl ?_
  refine aj_getR (q := 16) fl_X10_13 dX10_begin_13 rfl lM_0 rfl ?_
  refine aj_iload_n (q := 17) (i := 1) dX10_begin_16 rfl rfl rfl ?_
  refine aj_iaload (q := 18) (f := 100) dX10_begin_17 rfl lM_1 rfl (vp_in_nI (by omega) (by omega)) ?_
  try simp (decide := true) only [sw_eq, sw_ne, ne_eq, Nat.reduceEqDiff, not_false_eq_true, nI_pred, nI_1, gPay_ne, hn, hs, ht, cl n, cl s, ha, hb, cl a, cl b]
  refine aj_tsOut (tgt := 194) dX10_begin_18 (by rw [show (_ : Int32) = 9 from rfl]; decide) (by decide) ?_
  refine aj_aload_n (q := 195) (i := 0) dX10_begin_194 rfl rfl rfl ?_
  refine aj_iload_n (q := 196) (i := 1) dX10_begin_195 rfl rfl rfl ?_
  refine aj_callV (q := 199) (As := [_]) cl_X10_192 mk_X10_simple dX10_begin_196 rfl lM_0 rfl rfl (Nat.le_of_ble_eq_true rfl) (sp_X10_simple_9 hn hnb hsb ht ha hab hb hbb hx ?_)
  refine aj_return dX10_begin_199 rfl ?_
  first | contradiction | with_reducible exact hQ | (simp (decide := true) only [↓reduceIte, Bool.false_eq_true, bi_t, bi_f, sw_eq, sw_ne, ne_eq, Nat.reduceEqDiff, not_false_eq_true, nI_pred, nI_1, gPay_ne, hn, hs, ht, cl n, cl s, ha, hb, cl a, cl b, ] at hQ ⊢; with_reducible exact hQ)
theorem sp_X10_begin_10 {d : Nat} {S : Sx} {Q : Option Value → Sx → Prop} {n s a : Nat} (hn : S 30 0 = nI (n + 1)) (hnb : n + 1 < 180) (hs : S 1600 n = nI s) (hsb : s < 120) (ht : S 100 s = 10) (ha : S 200 s = nI a) (hab : a < 4)  (hQ : Q none (gComes (sw S 800 a (-1)) n 0)) : CC (d + 5) kX10_begin layM [.ref 0] S Q := by
  refine cc_intro [some _, none] (by decide) (cc_cat (by rfl)) (Nat.le_of_ble_eq_true rfl) (cc_ls (by rfl)) ?_
  refine aj_aload_n (q := 1) (i := 0) dX10_begin_0 rfl rfl rfl ?_
  refine aj_getR (q := 4) fl_X10_62 dX10_begin_1 rfl lM_0 rfl ?_
  refine aj_aload_n (q := 5) (i := 0) dX10_begin_4 rfl rfl rfl ?_
  refine aj_getI (q := 8) (f := 30) fl_X10_106 dX10_begin_5 rfl lM_0 rfl rfl ?_
  try simp (decide := true) only [sw_eq, sw_ne, ne_eq, Nat.reduceEqDiff, not_false_eq_true, nI_pred, nI_1, gPay_ne, hn, hs, ht, cl n, cl s, ha, cl a]
  refine aj_iconst (q := 9) (v := 1) dX10_begin_8 rfl (by decide) ?_
  refine aj_isub (q := 10) dX10_begin_9 rfl ?_
  try simp (decide := true) only [sw_eq, sw_ne, ne_eq, Nat.reduceEqDiff, not_false_eq_true, nI_pred, nI_1, gPay_ne, hn, hs, ht, cl n, cl s, ha, cl a]
  refine aj_iaload (q := 11) (f := 1600) dX10_begin_10 rfl lM_16 rfl (vp_in_nI (by omega) (by omega)) ?_
  try simp (decide := true) only [sw_eq, sw_ne, ne_eq, Nat.reduceEqDiff, not_false_eq_true, nI_pred, nI_1, gPay_ne, hn, hs, ht, cl n, cl s, ha, cl a]
  refine aj_istore_n (q := 12) (i := 1) (ls' := [_, _]) dX10_begin_11 rfl rfl (by decide) rfl ?_
  refine aj_aload_n (q := 13) (i := 0) dX10_begin_12 rfl rfl rfl ?_
  refine aj_getR (q := 16) fl_X10_13 dX10_begin_13 rfl lM_0 rfl ?_
  refine aj_iload_n (q := 17) (i := 1) dX10_begin_16 rfl rfl rfl ?_
  refine aj_iaload (q := 18) (f := 100) dX10_begin_17 rfl lM_1 rfl (vp_in_nI (by omega) (by omega)) ?_
  try simp (decide := true) only [sw_eq, sw_ne, ne_eq, Nat.reduceEqDiff, not_false_eq_true, nI_pred, nI_1, gPay_ne, hn, hs, ht, cl n, cl s, ha, cl a]
  refine aj_tsOut (tgt := 194) dX10_begin_18 (by rw [show (_ : Int32) = 10 from rfl]; decide) (by decide) ?_
  refine aj_aload_n (q := 195) (i := 0) dX10_begin_194 rfl rfl rfl ?_
  refine aj_iload_n (q := 196) (i := 1) dX10_begin_195 rfl rfl rfl ?_
  refine aj_callV (q := 199) (As := [_]) cl_X10_192 mk_X10_simple dX10_begin_196 rfl lM_0 rfl rfl (Nat.le_of_ble_eq_true rfl) (sp_X10_simple_10 hn hnb hsb ht ha hab ?_)
  refine aj_return dX10_begin_199 rfl ?_
  first | contradiction | with_reducible exact hQ | (simp (decide := true) only [↓reduceIte, Bool.false_eq_true, bi_t, bi_f, sw_eq, sw_ne, ne_eq, Nat.reduceEqDiff, not_false_eq_true, nI_pred, nI_1, gPay_ne, hn, hs, ht, cl n, cl s, ha, cl a, ] at hQ ⊢; with_reducible exact hQ)
theorem sp_X10_begin_11 {d : Nat} {S : Sx} {Q : Option Value → Sx → Prop} {n s a b : Nat} (hn : S 30 0 = nI (n + 1)) (hnb : n + 1 < 180) (hs : S 1600 n = nI s) (hsb : s < 120) (ht : S 100 s = 11) (ha : S 200 s = nI a) (hab : a < 4) (hb : S 300 s = nI b) (hbb : b < 4)  (hQ : Q none (gComes (sw S 800 a (S 800 b)) n 0)) : CC (d + 5) kX10_begin layM [.ref 0] S Q := by
  refine cc_intro [some _, none] (by decide) (cc_cat (by rfl)) (Nat.le_of_ble_eq_true rfl) (cc_ls (by rfl)) ?_
  refine aj_aload_n (q := 1) (i := 0) dX10_begin_0 rfl rfl rfl ?_
  refine aj_getR (q := 4) fl_X10_62 dX10_begin_1 rfl lM_0 rfl ?_
  refine aj_aload_n (q := 5) (i := 0) dX10_begin_4 rfl rfl rfl ?_
  refine aj_getI (q := 8) (f := 30) fl_X10_106 dX10_begin_5 rfl lM_0 rfl rfl ?_
  try simp (decide := true) only [sw_eq, sw_ne, ne_eq, Nat.reduceEqDiff, not_false_eq_true, nI_pred, nI_1, gPay_ne, hn, hs, ht, cl n, cl s, ha, hb, cl a, cl b]
  refine aj_iconst (q := 9) (v := 1) dX10_begin_8 rfl (by decide) ?_
  refine aj_isub (q := 10) dX10_begin_9 rfl ?_
  try simp (decide := true) only [sw_eq, sw_ne, ne_eq, Nat.reduceEqDiff, not_false_eq_true, nI_pred, nI_1, gPay_ne, hn, hs, ht, cl n, cl s, ha, hb, cl a, cl b]
  refine aj_iaload (q := 11) (f := 1600) dX10_begin_10 rfl lM_16 rfl (vp_in_nI (by omega) (by omega)) ?_
  try simp (decide := true) only [sw_eq, sw_ne, ne_eq, Nat.reduceEqDiff, not_false_eq_true, nI_pred, nI_1, gPay_ne, hn, hs, ht, cl n, cl s, ha, hb, cl a, cl b]
  refine aj_istore_n (q := 12) (i := 1) (ls' := [_, _]) dX10_begin_11 rfl rfl (by decide) rfl ?_
  refine aj_aload_n (q := 13) (i := 0) dX10_begin_12 rfl rfl rfl ?_
  refine aj_getR (q := 16) fl_X10_13 dX10_begin_13 rfl lM_0 rfl ?_
  refine aj_iload_n (q := 17) (i := 1) dX10_begin_16 rfl rfl rfl ?_
  refine aj_iaload (q := 18) (f := 100) dX10_begin_17 rfl lM_1 rfl (vp_in_nI (by omega) (by omega)) ?_
  try simp (decide := true) only [sw_eq, sw_ne, ne_eq, Nat.reduceEqDiff, not_false_eq_true, nI_pred, nI_1, gPay_ne, hn, hs, ht, cl n, cl s, ha, hb, cl a, cl b]
  refine aj_tsOut (tgt := 194) dX10_begin_18 (by rw [show (_ : Int32) = 11 from rfl]; decide) (by decide) ?_
  refine aj_aload_n (q := 195) (i := 0) dX10_begin_194 rfl rfl rfl ?_
  refine aj_iload_n (q := 196) (i := 1) dX10_begin_195 rfl rfl rfl ?_
  refine aj_callV (q := 199) (As := [_]) cl_X10_192 mk_X10_simple dX10_begin_196 rfl lM_0 rfl rfl (Nat.le_of_ble_eq_true rfl) (sp_X10_simple_11 hn hnb hsb ht ha hab hb hbb ?_)
  refine aj_return dX10_begin_199 rfl ?_
  first | contradiction | with_reducible exact hQ | (simp (decide := true) only [↓reduceIte, Bool.false_eq_true, bi_t, bi_f, sw_eq, sw_ne, ne_eq, Nat.reduceEqDiff, not_false_eq_true, nI_pred, nI_1, gPay_ne, hn, hs, ht, cl n, cl s, ha, hb, cl a, cl b, ] at hQ ⊢; with_reducible exact hQ)
theorem sp_X10_begin_16 {d : Nat} {S : Sx} {Q : Option Value → Sx → Prop} {n s a : Nat} (hn : S 30 0 = nI (n + 1)) (hnb : n + 1 < 180) (hs : S 1600 n = nI s) (hsb : s < 120) (ht : S 100 s = 16) (ha : S 200 s = nI a) (hab : a < 8)  (hQ : Q none (gComes (sw S 23 0 (S 700 a)) n 1)) : CC (d + 5) kX10_begin layM [.ref 0] S Q := by
  refine cc_intro [some _, none] (by decide) (cc_cat (by rfl)) (Nat.le_of_ble_eq_true rfl) (cc_ls (by rfl)) ?_
  refine aj_aload_n (q := 1) (i := 0) dX10_begin_0 rfl rfl rfl ?_
  refine aj_getR (q := 4) fl_X10_62 dX10_begin_1 rfl lM_0 rfl ?_
  refine aj_aload_n (q := 5) (i := 0) dX10_begin_4 rfl rfl rfl ?_
  refine aj_getI (q := 8) (f := 30) fl_X10_106 dX10_begin_5 rfl lM_0 rfl rfl ?_
  try simp (decide := true) only [sw_eq, sw_ne, ne_eq, Nat.reduceEqDiff, not_false_eq_true, nI_pred, nI_1, gPay_ne, hn, hs, ht, cl n, cl s, ha, cl a]
  refine aj_iconst (q := 9) (v := 1) dX10_begin_8 rfl (by decide) ?_
  refine aj_isub (q := 10) dX10_begin_9 rfl ?_
  try simp (decide := true) only [sw_eq, sw_ne, ne_eq, Nat.reduceEqDiff, not_false_eq_true, nI_pred, nI_1, gPay_ne, hn, hs, ht, cl n, cl s, ha, cl a]
  refine aj_iaload (q := 11) (f := 1600) dX10_begin_10 rfl lM_16 rfl (vp_in_nI (by omega) (by omega)) ?_
  try simp (decide := true) only [sw_eq, sw_ne, ne_eq, Nat.reduceEqDiff, not_false_eq_true, nI_pred, nI_1, gPay_ne, hn, hs, ht, cl n, cl s, ha, cl a]
  refine aj_istore_n (q := 12) (i := 1) (ls' := [_, _]) dX10_begin_11 rfl rfl (by decide) rfl ?_
  refine aj_aload_n (q := 13) (i := 0) dX10_begin_12 rfl rfl rfl ?_
  refine aj_getR (q := 16) fl_X10_13 dX10_begin_13 rfl lM_0 rfl ?_
  refine aj_iload_n (q := 17) (i := 1) dX10_begin_16 rfl rfl rfl ?_
  refine aj_iaload (q := 18) (f := 100) dX10_begin_17 rfl lM_1 rfl (vp_in_nI (by omega) (by omega)) ?_
  try simp (decide := true) only [sw_eq, sw_ne, ne_eq, Nat.reduceEqDiff, not_false_eq_true, nI_pred, nI_1, gPay_ne, hn, hs, ht, cl n, cl s, ha, cl a]
  refine aj_tsIn (tgt := 194) (off := 176) dX10_begin_18 (by rw [show (_ : Int32) = 16 from rfl]; decide) (by rw [show (_ : Int32) = 16 from rfl]; decide) (by rw [show (_ : Int32) = 16 from rfl]; rfl) (by decide) ?_
  refine aj_aload_n (q := 195) (i := 0) dX10_begin_194 rfl rfl rfl ?_
  refine aj_iload_n (q := 196) (i := 1) dX10_begin_195 rfl rfl rfl ?_
  refine aj_callV (q := 199) (As := [_]) cl_X10_192 mk_X10_simple dX10_begin_196 rfl lM_0 rfl rfl (Nat.le_of_ble_eq_true rfl) (sp_X10_simple_16 hn hnb hsb ht ha hab ?_)
  refine aj_return dX10_begin_199 rfl ?_
  first | contradiction | with_reducible exact hQ | (simp (decide := true) only [↓reduceIte, Bool.false_eq_true, bi_t, bi_f, sw_eq, sw_ne, ne_eq, Nat.reduceEqDiff, not_false_eq_true, nI_pred, nI_1, gPay_ne, hn, hs, ht, cl n, cl s, ha, cl a, ] at hQ ⊢; with_reducible exact hQ)
theorem sp_X10_begin_17 {d : Nat} {S : Sx} {Q : Option Value → Sx → Prop} {n s a : Nat} (hn : S 30 0 = nI (n + 1)) (hnb : n + 1 < 180) (hs : S 1600 n = nI s) (hsb : s < 120) (ht : S 100 s = 17) (ha : S 200 s = nI a) (hab : a < 8)  (hQ : Q none (gThrow S n 5 (S 700 a))) : CC (d + 5) kX10_begin layM [.ref 0] S Q := by
  refine cc_intro [some _, none] (by decide) (cc_cat (by rfl)) (Nat.le_of_ble_eq_true rfl) (cc_ls (by rfl)) ?_
  refine aj_aload_n (q := 1) (i := 0) dX10_begin_0 rfl rfl rfl ?_
  refine aj_getR (q := 4) fl_X10_62 dX10_begin_1 rfl lM_0 rfl ?_
  refine aj_aload_n (q := 5) (i := 0) dX10_begin_4 rfl rfl rfl ?_
  refine aj_getI (q := 8) (f := 30) fl_X10_106 dX10_begin_5 rfl lM_0 rfl rfl ?_
  try simp (decide := true) only [sw_eq, sw_ne, ne_eq, Nat.reduceEqDiff, not_false_eq_true, nI_pred, nI_1, gPay_ne, hn, hs, ht, cl n, cl s, ha, cl a]
  refine aj_iconst (q := 9) (v := 1) dX10_begin_8 rfl (by decide) ?_
  refine aj_isub (q := 10) dX10_begin_9 rfl ?_
  try simp (decide := true) only [sw_eq, sw_ne, ne_eq, Nat.reduceEqDiff, not_false_eq_true, nI_pred, nI_1, gPay_ne, hn, hs, ht, cl n, cl s, ha, cl a]
  refine aj_iaload (q := 11) (f := 1600) dX10_begin_10 rfl lM_16 rfl (vp_in_nI (by omega) (by omega)) ?_
  try simp (decide := true) only [sw_eq, sw_ne, ne_eq, Nat.reduceEqDiff, not_false_eq_true, nI_pred, nI_1, gPay_ne, hn, hs, ht, cl n, cl s, ha, cl a]
  refine aj_istore_n (q := 12) (i := 1) (ls' := [_, _]) dX10_begin_11 rfl rfl (by decide) rfl ?_
  refine aj_aload_n (q := 13) (i := 0) dX10_begin_12 rfl rfl rfl ?_
  refine aj_getR (q := 16) fl_X10_13 dX10_begin_13 rfl lM_0 rfl ?_
  refine aj_iload_n (q := 17) (i := 1) dX10_begin_16 rfl rfl rfl ?_
  refine aj_iaload (q := 18) (f := 100) dX10_begin_17 rfl lM_1 rfl (vp_in_nI (by omega) (by omega)) ?_
  try simp (decide := true) only [sw_eq, sw_ne, ne_eq, Nat.reduceEqDiff, not_false_eq_true, nI_pred, nI_1, gPay_ne, hn, hs, ht, cl n, cl s, ha, cl a]
  refine aj_tsIn (tgt := 194) (off := 176) dX10_begin_18 (by rw [show (_ : Int32) = 17 from rfl]; decide) (by rw [show (_ : Int32) = 17 from rfl]; decide) (by rw [show (_ : Int32) = 17 from rfl]; rfl) (by decide) ?_
  refine aj_aload_n (q := 195) (i := 0) dX10_begin_194 rfl rfl rfl ?_
  refine aj_iload_n (q := 196) (i := 1) dX10_begin_195 rfl rfl rfl ?_
  refine aj_callV (q := 199) (As := [_]) cl_X10_192 mk_X10_simple dX10_begin_196 rfl lM_0 rfl rfl (Nat.le_of_ble_eq_true rfl) (sp_X10_simple_17 hn hnb hsb ht ha hab ?_)
  refine aj_return dX10_begin_199 rfl ?_
  first | contradiction | with_reducible exact hQ | (simp (decide := true) only [↓reduceIte, Bool.false_eq_true, bi_t, bi_f, sw_eq, sw_ne, ne_eq, Nat.reduceEqDiff, not_false_eq_true, nI_pred, nI_1, gPay_ne, hn, hs, ht, cl n, cl s, ha, cl a, ] at hQ ⊢; with_reducible exact hQ)
theorem sp_X10_begin_21 {d : Nat} {S : Sx} {Q : Option Value → Sx → Prop} {n s a : Nat} (hn : S 30 0 = nI (n + 1)) (hnb : n + 1 < 180) (hs : S 1600 n = nI s) (hsb : s < 120) (ht : S 100 s = 21) (ha : S 200 s = nI a) (hab : a < 8)  (hQ : Q none (gComes (sw S 700 a (S 23 0)) n 0)) : CC (d + 5) kX10_begin layM [.ref 0] S Q := by
  refine cc_intro [some _, none] (by decide) (cc_cat (by rfl)) (Nat.le_of_ble_eq_true rfl) (cc_ls (by rfl)) ?_
  refine aj_aload_n (q := 1) (i := 0) dX10_begin_0 rfl rfl rfl ?_
  refine aj_getR (q := 4) fl_X10_62 dX10_begin_1 rfl lM_0 rfl ?_
  refine aj_aload_n (q := 5) (i := 0) dX10_begin_4 rfl rfl rfl ?_
  refine aj_getI (q := 8) (f := 30) fl_X10_106 dX10_begin_5 rfl lM_0 rfl rfl ?_
  try simp (decide := true) only [sw_eq, sw_ne, ne_eq, Nat.reduceEqDiff, not_false_eq_true, nI_pred, nI_1, gPay_ne, hn, hs, ht, cl n, cl s, ha, cl a]
  refine aj_iconst (q := 9) (v := 1) dX10_begin_8 rfl (by decide) ?_
  refine aj_isub (q := 10) dX10_begin_9 rfl ?_
  try simp (decide := true) only [sw_eq, sw_ne, ne_eq, Nat.reduceEqDiff, not_false_eq_true, nI_pred, nI_1, gPay_ne, hn, hs, ht, cl n, cl s, ha, cl a]
  refine aj_iaload (q := 11) (f := 1600) dX10_begin_10 rfl lM_16 rfl (vp_in_nI (by omega) (by omega)) ?_
  try simp (decide := true) only [sw_eq, sw_ne, ne_eq, Nat.reduceEqDiff, not_false_eq_true, nI_pred, nI_1, gPay_ne, hn, hs, ht, cl n, cl s, ha, cl a]
  refine aj_istore_n (q := 12) (i := 1) (ls' := [_, _]) dX10_begin_11 rfl rfl (by decide) rfl ?_
  refine aj_aload_n (q := 13) (i := 0) dX10_begin_12 rfl rfl rfl ?_
  refine aj_getR (q := 16) fl_X10_13 dX10_begin_13 rfl lM_0 rfl ?_
  refine aj_iload_n (q := 17) (i := 1) dX10_begin_16 rfl rfl rfl ?_
  refine aj_iaload (q := 18) (f := 100) dX10_begin_17 rfl lM_1 rfl (vp_in_nI (by omega) (by omega)) ?_
  try simp (decide := true) only [sw_eq, sw_ne, ne_eq, Nat.reduceEqDiff, not_false_eq_true, nI_pred, nI_1, gPay_ne, hn, hs, ht, cl n, cl s, ha, cl a]
  refine aj_tsOut (tgt := 194) dX10_begin_18 (by rw [show (_ : Int32) = 21 from rfl]; decide) (by decide) ?_
  refine aj_aload_n (q := 195) (i := 0) dX10_begin_194 rfl rfl rfl ?_
  refine aj_iload_n (q := 196) (i := 1) dX10_begin_195 rfl rfl rfl ?_
  refine aj_callV (q := 199) (As := [_]) cl_X10_192 mk_X10_simple dX10_begin_196 rfl lM_0 rfl rfl (Nat.le_of_ble_eq_true rfl) (sp_X10_simple_21 hn hnb hsb ht ha hab ?_)
  refine aj_return dX10_begin_199 rfl ?_
  first | contradiction | with_reducible exact hQ | (simp (decide := true) only [↓reduceIte, Bool.false_eq_true, bi_t, bi_f, sw_eq, sw_ne, ne_eq, Nat.reduceEqDiff, not_false_eq_true, nI_pred, nI_1, gPay_ne, hn, hs, ht, cl n, cl s, ha, cl a, ] at hQ ⊢; with_reducible exact hQ)
theorem sp_X10_begin_1 {d : Nat} {S : Sx} {Q : Option Value → Sx → Prop} {n s a b c : Nat} (hn : S 30 0 = nI (n + 1)) (hnb : n + 1 < 180) (hs : S 1600 n = nI s) (hsb : s < 120) (ht : S 100 s = 1) (ha : S 200 s = nI a) (hab : a < 8) (hb : S 300 s = nI b) (hbb : b < 8) (hc : S 400 s = nI c) (hcb : c < 8)  (hQ : Q none (gComes (sw S 700 a (S 700 b + S 700 c)) n 0)) : CC (d + 5) kX10_begin layM [.ref 0] S Q := by
  refine cc_intro [some _, none] (by decide) (cc_cat (by rfl)) (Nat.le_of_ble_eq_true rfl) (cc_ls (by rfl)) ?_
  refine aj_aload_n (q := 1) (i := 0) dX10_begin_0 rfl rfl rfl ?_
  refine aj_getR (q := 4) fl_X10_62 dX10_begin_1 rfl lM_0 rfl ?_
  refine aj_aload_n (q := 5) (i := 0) dX10_begin_4 rfl rfl rfl ?_
  refine aj_getI (q := 8) (f := 30) fl_X10_106 dX10_begin_5 rfl lM_0 rfl rfl ?_
  try simp (decide := true) only [sw_eq, sw_ne, ne_eq, Nat.reduceEqDiff, not_false_eq_true, nI_pred, nI_1, gPay_ne, hn, hs, ht, cl n, cl s, ha, hb, hc, cl a, cl b, cl c]
  refine aj_iconst (q := 9) (v := 1) dX10_begin_8 rfl (by decide) ?_
  refine aj_isub (q := 10) dX10_begin_9 rfl ?_
  try simp (decide := true) only [sw_eq, sw_ne, ne_eq, Nat.reduceEqDiff, not_false_eq_true, nI_pred, nI_1, gPay_ne, hn, hs, ht, cl n, cl s, ha, hb, hc, cl a, cl b, cl c]
  refine aj_iaload (q := 11) (f := 1600) dX10_begin_10 rfl lM_16 rfl (vp_in_nI (by omega) (by omega)) ?_
  try simp (decide := true) only [sw_eq, sw_ne, ne_eq, Nat.reduceEqDiff, not_false_eq_true, nI_pred, nI_1, gPay_ne, hn, hs, ht, cl n, cl s, ha, hb, hc, cl a, cl b, cl c]
  refine aj_istore_n (q := 12) (i := 1) (ls' := [_, _]) dX10_begin_11 rfl rfl (by decide) rfl ?_
  refine aj_aload_n (q := 13) (i := 0) dX10_begin_12 rfl rfl rfl ?_
  refine aj_getR (q := 16) fl_X10_13 dX10_begin_13 rfl lM_0 rfl ?_
  refine aj_iload_n (q := 17) (i := 1) dX10_begin_16 rfl rfl rfl ?_
  refine aj_iaload (q := 18) (f := 100) dX10_begin_17 rfl lM_1 rfl (vp_in_nI (by omega) (by omega)) ?_
  try simp (decide := true) only [sw_eq, sw_ne, ne_eq, Nat.reduceEqDiff, not_false_eq_true, nI_pred, nI_1, gPay_ne, hn, hs, ht, cl n, cl s, ha, hb, hc, cl a, cl b, cl c]
  refine aj_tsOut (tgt := 194) dX10_begin_18 (by rw [show (_ : Int32) = 1 from rfl]; decide) (by decide) ?_
  refine aj_aload_n (q := 195) (i := 0) dX10_begin_194 rfl rfl rfl ?_
  refine aj_iload_n (q := 196) (i := 1) dX10_begin_195 rfl rfl rfl ?_
  refine aj_callV (q := 199) (As := [_]) cl_X10_192 mk_X10_simple dX10_begin_196 rfl lM_0 rfl rfl (Nat.le_of_ble_eq_true rfl) (sp_X10_simple_1 hn hnb hsb ht ha hab hb hbb hc hcb ?_)
  refine aj_return dX10_begin_199 rfl ?_
  first | contradiction | with_reducible exact hQ | (simp (decide := true) only [↓reduceIte, Bool.false_eq_true, bi_t, bi_f, sw_eq, sw_ne, ne_eq, Nat.reduceEqDiff, not_false_eq_true, nI_pred, nI_1, gPay_ne, hn, hs, ht, cl n, cl s, ha, hb, hc, cl a, cl b, cl c, ] at hQ ⊢; with_reducible exact hQ)
theorem sp_X10_begin_2 {d : Nat} {S : Sx} {Q : Option Value → Sx → Prop} {n s a b c : Nat} (hn : S 30 0 = nI (n + 1)) (hnb : n + 1 < 180) (hs : S 1600 n = nI s) (hsb : s < 120) (ht : S 100 s = 2) (ha : S 200 s = nI a) (hab : a < 8) (hb : S 300 s = nI b) (hbb : b < 8) (hc : S 400 s = nI c) (hcb : c < 8)  (hQ : Q none (gComes (sw S 700 a (S 700 b - S 700 c)) n 0)) : CC (d + 5) kX10_begin layM [.ref 0] S Q := by
  refine cc_intro [some _, none] (by decide) (cc_cat (by rfl)) (Nat.le_of_ble_eq_true rfl) (cc_ls (by rfl)) ?_
  refine aj_aload_n (q := 1) (i := 0) dX10_begin_0 rfl rfl rfl ?_
  refine aj_getR (q := 4) fl_X10_62 dX10_begin_1 rfl lM_0 rfl ?_
  refine aj_aload_n (q := 5) (i := 0) dX10_begin_4 rfl rfl rfl ?_
  refine aj_getI (q := 8) (f := 30) fl_X10_106 dX10_begin_5 rfl lM_0 rfl rfl ?_
  try simp (decide := true) only [sw_eq, sw_ne, ne_eq, Nat.reduceEqDiff, not_false_eq_true, nI_pred, nI_1, gPay_ne, hn, hs, ht, cl n, cl s, ha, hb, hc, cl a, cl b, cl c]
  refine aj_iconst (q := 9) (v := 1) dX10_begin_8 rfl (by decide) ?_
  refine aj_isub (q := 10) dX10_begin_9 rfl ?_
  try simp (decide := true) only [sw_eq, sw_ne, ne_eq, Nat.reduceEqDiff, not_false_eq_true, nI_pred, nI_1, gPay_ne, hn, hs, ht, cl n, cl s, ha, hb, hc, cl a, cl b, cl c]
  refine aj_iaload (q := 11) (f := 1600) dX10_begin_10 rfl lM_16 rfl (vp_in_nI (by omega) (by omega)) ?_
  try simp (decide := true) only [sw_eq, sw_ne, ne_eq, Nat.reduceEqDiff, not_false_eq_true, nI_pred, nI_1, gPay_ne, hn, hs, ht, cl n, cl s, ha, hb, hc, cl a, cl b, cl c]
  refine aj_istore_n (q := 12) (i := 1) (ls' := [_, _]) dX10_begin_11 rfl rfl (by decide) rfl ?_
  refine aj_aload_n (q := 13) (i := 0) dX10_begin_12 rfl rfl rfl ?_
  refine aj_getR (q := 16) fl_X10_13 dX10_begin_13 rfl lM_0 rfl ?_
  refine aj_iload_n (q := 17) (i := 1) dX10_begin_16 rfl rfl rfl ?_
  refine aj_iaload (q := 18) (f := 100) dX10_begin_17 rfl lM_1 rfl (vp_in_nI (by omega) (by omega)) ?_
  try simp (decide := true) only [sw_eq, sw_ne, ne_eq, Nat.reduceEqDiff, not_false_eq_true, nI_pred, nI_1, gPay_ne, hn, hs, ht, cl n, cl s, ha, hb, hc, cl a, cl b, cl c]
  refine aj_tsOut (tgt := 194) dX10_begin_18 (by rw [show (_ : Int32) = 2 from rfl]; decide) (by decide) ?_
  refine aj_aload_n (q := 195) (i := 0) dX10_begin_194 rfl rfl rfl ?_
  refine aj_iload_n (q := 196) (i := 1) dX10_begin_195 rfl rfl rfl ?_
  refine aj_callV (q := 199) (As := [_]) cl_X10_192 mk_X10_simple dX10_begin_196 rfl lM_0 rfl rfl (Nat.le_of_ble_eq_true rfl) (sp_X10_simple_2 hn hnb hsb ht ha hab hb hbb hc hcb ?_)
  refine aj_return dX10_begin_199 rfl ?_
  first | contradiction | with_reducible exact hQ | (simp (decide := true) only [↓reduceIte, Bool.false_eq_true, bi_t, bi_f, sw_eq, sw_ne, ne_eq, Nat.reduceEqDiff, not_false_eq_true, nI_pred, nI_1, gPay_ne, hn, hs, ht, cl n, cl s, ha, hb, hc, cl a, cl b, cl c, ] at hQ ⊢; with_reducible exact hQ)
theorem sp_X10_begin_3 {d : Nat} {S : Sx} {Q : Option Value → Sx → Prop} {n s a b c : Nat} (hn : S 30 0 = nI (n + 1)) (hnb : n + 1 < 180) (hs : S 1600 n = nI s) (hsb : s < 120) (ht : S 100 s = 3) (ha : S 200 s = nI a) (hab : a < 8) (hb : S 300 s = nI b) (hbb : b < 8) (hc : S 400 s = nI c) (hcb : c < 8)  (hQ : Q none (gComes (sw S 700 a (S 700 b * S 700 c)) n 0)) : CC (d + 5) kX10_begin layM [.ref 0] S Q := by
  refine cc_intro [some _, none] (by decide) (cc_cat (by rfl)) (Nat.le_of_ble_eq_true rfl) (cc_ls (by rfl)) ?_
  refine aj_aload_n (q := 1) (i := 0) dX10_begin_0 rfl rfl rfl ?_
  refine aj_getR (q := 4) fl_X10_62 dX10_begin_1 rfl lM_0 rfl ?_
  refine aj_aload_n (q := 5) (i := 0) dX10_begin_4 rfl rfl rfl ?_
  refine aj_getI (q := 8) (f := 30) fl_X10_106 dX10_begin_5 rfl lM_0 rfl rfl ?_
  try simp (decide := true) only [sw_eq, sw_ne, ne_eq, Nat.reduceEqDiff, not_false_eq_true, nI_pred, nI_1, gPay_ne, hn, hs, ht, cl n, cl s, ha, hb, hc, cl a, cl b, cl c]
  refine aj_iconst (q := 9) (v := 1) dX10_begin_8 rfl (by decide) ?_
  refine aj_isub (q := 10) dX10_begin_9 rfl ?_
  try simp (decide := true) only [sw_eq, sw_ne, ne_eq, Nat.reduceEqDiff, not_false_eq_true, nI_pred, nI_1, gPay_ne, hn, hs, ht, cl n, cl s, ha, hb, hc, cl a, cl b, cl c]
  refine aj_iaload (q := 11) (f := 1600) dX10_begin_10 rfl lM_16 rfl (vp_in_nI (by omega) (by omega)) ?_
  try simp (decide := true) only [sw_eq, sw_ne, ne_eq, Nat.reduceEqDiff, not_false_eq_true, nI_pred, nI_1, gPay_ne, hn, hs, ht, cl n, cl s, ha, hb, hc, cl a, cl b, cl c]
  refine aj_istore_n (q := 12) (i := 1) (ls' := [_, _]) dX10_begin_11 rfl rfl (by decide) rfl ?_
  refine aj_aload_n (q := 13) (i := 0) dX10_begin_12 rfl rfl rfl ?_
  refine aj_getR (q := 16) fl_X10_13 dX10_begin_13 rfl lM_0 rfl ?_
  refine aj_iload_n (q := 17) (i := 1) dX10_begin_16 rfl rfl rfl ?_
  refine aj_iaload (q := 18) (f := 100) dX10_begin_17 rfl lM_1 rfl (vp_in_nI (by omega) (by omega)) ?_
  try simp (decide := true) only [sw_eq, sw_ne, ne_eq, Nat.reduceEqDiff, not_false_eq_true, nI_pred, nI_1, gPay_ne, hn, hs, ht, cl n, cl s, ha, hb, hc, cl a, cl b, cl c]
  refine aj_tsOut (tgt := 194) dX10_begin_18 (by rw [show (_ : Int32) = 3 from rfl]; decide) (by decide) ?_
  refine aj_aload_n (q := 195) (i := 0) dX10_begin_194 rfl rfl rfl ?_
  refine aj_iload_n (q := 196) (i := 1) dX10_begin_195 rfl rfl rfl ?_
  refine aj_callV (q := 199) (As := [_]) cl_X10_192 mk_X10_simple dX10_begin_196 rfl lM_0 rfl rfl (Nat.le_of_ble_eq_true rfl) (sp_X10_simple_3 hn hnb hsb ht ha hab hb hbb hc hcb ?_)
  refine aj_return dX10_begin_199 rfl ?_
  first | contradiction | with_reducible exact hQ | (simp (decide := true) only [↓reduceIte, Bool.false_eq_true, bi_t, bi_f, sw_eq, sw_ne, ne_eq, Nat.reduceEqDiff, not_false_eq_true, nI_pred, nI_1, gPay_ne, hn, hs, ht, cl n, cl s, ha, hb, hc, cl a, cl b, cl c, ] at hQ ⊢; with_reducible exact hQ)
theorem sp_X10_begin_4 {d : Nat} {S : Sx} {Q : Option Value → Sx → Prop} {n s a b c : Nat} (hn : S 30 0 = nI (n + 1)) (hnb : n + 1 < 180) (hs : S 1600 n = nI s) (hsb : s < 120) (ht : S 100 s = 4) (ha : S 200 s = nI a) (hab : a < 8) (hb : S 300 s = nI b) (hbb : b < 8) (hc : S 400 s = nI c) (hcb : c < 8)  (hQ : Q none (if S 700 c = 0 then gThrow S n 4 0 else gComes (sw S 700 a (S 700 b / S 700 c)) n 0)) : CC (d + 5) kX10_begin layM [.ref 0] S Q := by
  refine cc_intro [some _, none] (by decide) (cc_cat (by rfl)) (Nat.le_of_ble_eq_true rfl) (cc_ls (by rfl)) ?_
  refine aj_aload_n (q := 1) (i := 0) dX10_begin_0 rfl rfl rfl ?_
  refine aj_getR (q := 4) fl_X10_62 dX10_begin_1 rfl lM_0 rfl ?_
  refine aj_aload_n (q := 5) (i := 0) dX10_begin_4 rfl rfl rfl ?_
  refine aj_getI (q := 8) (f := 30) fl_X10_106 dX10_begin_5 rfl lM_0 rfl rfl ?_
  try simp (decide := true) only [sw_eq, sw_ne, ne_eq, Nat.reduceEqDiff, not_false_eq_true, nI_pred, nI_1, gPay_ne, hn, hs, ht, cl n, cl s, ha, hb, hc, cl a, cl b, cl c]
  refine aj_iconst (q := 9) (v := 1) dX10_begin_8 rfl (by decide) ?_
  refine aj_isub (q := 10) dX10_begin_9 rfl ?_
  try simp (decide := true) only [sw_eq, sw_ne, ne_eq, Nat.reduceEqDiff, not_false_eq_true, nI_pred, nI_1, gPay_ne, hn, hs, ht, cl n, cl s, ha, hb, hc, cl a, cl b, cl c]
  refine aj_iaload (q := 11) (f := 1600) dX10_begin_10 rfl lM_16 rfl (vp_in_nI (by omega) (by omega)) ?_
  try simp (decide := true) only [sw_eq, sw_ne, ne_eq, Nat.reduceEqDiff, not_false_eq_true, nI_pred, nI_1, gPay_ne, hn, hs, ht, cl n, cl s, ha, hb, hc, cl a, cl b, cl c]
  refine aj_istore_n (q := 12) (i := 1) (ls' := [_, _]) dX10_begin_11 rfl rfl (by decide) rfl ?_
  refine aj_aload_n (q := 13) (i := 0) dX10_begin_12 rfl rfl rfl ?_
  refine aj_getR (q := 16) fl_X10_13 dX10_begin_13 rfl lM_0 rfl ?_
  refine aj_iload_n (q := 17) (i := 1) dX10_begin_16 rfl rfl rfl ?_
  refine aj_iaload (q := 18) (f := 100) dX10_begin_17 rfl lM_1 rfl (vp_in_nI (by omega) (by omega)) ?_
  try simp (decide := true) only [sw_eq, sw_ne, ne_eq, Nat.reduceEqDiff, not_false_eq_true, nI_pred, nI_1, gPay_ne, hn, hs, ht, cl n, cl s, ha, hb, hc, cl a, cl b, cl c]
  refine aj_tsOut (tgt := 194) dX10_begin_18 (by rw [show (_ : Int32) = 4 from rfl]; decide) (by decide) ?_
  refine aj_aload_n (q := 195) (i := 0) dX10_begin_194 rfl rfl rfl ?_
  refine aj_iload_n (q := 196) (i := 1) dX10_begin_195 rfl rfl rfl ?_
  refine aj_callV (q := 199) (As := [_]) cl_X10_192 mk_X10_simple dX10_begin_196 rfl lM_0 rfl rfl (Nat.le_of_ble_eq_true rfl) (sp_X10_simple_4 hn hnb hsb ht ha hab hb hbb hc hcb ?_)
  refine aj_return dX10_begin_199 rfl ?_
  first | contradiction | with_reducible exact hQ | (simp (decide := true) only [↓reduceIte, Bool.false_eq_true, bi_t, bi_f, sw_eq, sw_ne, ne_eq, Nat.reduceEqDiff, not_false_eq_true, nI_pred, nI_1, gPay_ne, hn, hs, ht, cl n, cl s, ha, hb, hc, cl a, cl b, cl c, ] at hQ ⊢; with_reducible exact hQ)
theorem sp_X10_begin_5 {d : Nat} {S : Sx} {Q : Option Value → Sx → Prop} {n s a b c : Nat} (hn : S 30 0 = nI (n + 1)) (hnb : n + 1 < 180) (hs : S 1600 n = nI s) (hsb : s < 120) (ht : S 100 s = 5) (ha : S 200 s = nI a) (hab : a < 8) (hb : S 300 s = nI b) (hbb : b < 8) (hc : S 400 s = nI c) (hcb : c < 8)  (hQ : Q none (if S 700 c = 0 then gThrow S n 4 0 else gComes (sw S 700 a (S 700 b - S 700 b / S 700 c * S 700 c)) n 0)) : CC (d + 5) kX10_begin layM [.ref 0] S Q := by
  refine cc_intro [some _, none] (by decide) (cc_cat (by rfl)) (Nat.le_of_ble_eq_true rfl) (cc_ls (by rfl)) ?_
  refine aj_aload_n (q := 1) (i := 0) dX10_begin_0 rfl rfl rfl ?_
  refine aj_getR (q := 4) fl_X10_62 dX10_begin_1 rfl lM_0 rfl ?_
  refine aj_aload_n (q := 5) (i := 0) dX10_begin_4 rfl rfl rfl ?_
  refine aj_getI (q := 8) (f := 30) fl_X10_106 dX10_begin_5 rfl lM_0 rfl rfl ?_
  try simp (decide := true) only [sw_eq, sw_ne, ne_eq, Nat.reduceEqDiff, not_false_eq_true, nI_pred, nI_1, gPay_ne, hn, hs, ht, cl n, cl s, ha, hb, hc, cl a, cl b, cl c]
  refine aj_iconst (q := 9) (v := 1) dX10_begin_8 rfl (by decide) ?_
  refine aj_isub (q := 10) dX10_begin_9 rfl ?_
  try simp (decide := true) only [sw_eq, sw_ne, ne_eq, Nat.reduceEqDiff, not_false_eq_true, nI_pred, nI_1, gPay_ne, hn, hs, ht, cl n, cl s, ha, hb, hc, cl a, cl b, cl c]
  refine aj_iaload (q := 11) (f := 1600) dX10_begin_10 rfl lM_16 rfl (vp_in_nI (by omega) (by omega)) ?_
  try simp (decide := true) only [sw_eq, sw_ne, ne_eq, Nat.reduceEqDiff, not_false_eq_true, nI_pred, nI_1, gPay_ne, hn, hs, ht, cl n, cl s, ha, hb, hc, cl a, cl b, cl c]
  refine aj_istore_n (q := 12) (i := 1) (ls' := [_, _]) dX10_begin_11 rfl rfl (by decide) rfl ?_
  refine aj_aload_n (q := 13) (i := 0) dX10_begin_12 rfl rfl rfl ?_
  refine aj_getR (q := 16) fl_X10_13 dX10_begin_13 rfl lM_0 rfl ?_
  refine aj_iload_n (q := 17) (i := 1) dX10_begin_16 rfl rfl rfl ?_
  refine aj_iaload (q := 18) (f := 100) dX10_begin_17 rfl lM_1 rfl (vp_in_nI (by omega) (by omega)) ?_
  try simp (decide := true) only [sw_eq, sw_ne, ne_eq, Nat.reduceEqDiff, not_false_eq_true, nI_pred, nI_1, gPay_ne, hn, hs, ht, cl n, cl s, ha, hb, hc, cl a, cl b, cl c]
  refine aj_tsOut (tgt := 194) dX10_begin_18 (by rw [show (_ : Int32) = 5 from rfl]; decide) (by decide) ?_
  refine aj_aload_n (q := 195) (i := 0) dX10_begin_194 rfl rfl rfl ?_
  refine aj_iload_n (q := 196) (i := 1) dX10_begin_195 rfl rfl rfl ?_
  refine aj_callV (q := 199) (As := [_]) cl_X10_192 mk_X10_simple dX10_begin_196 rfl lM_0 rfl rfl (Nat.le_of_ble_eq_true rfl) (sp_X10_simple_5 hn hnb hsb ht ha hab hb hbb hc hcb ?_)
  refine aj_return dX10_begin_199 rfl ?_
  first | contradiction | with_reducible exact hQ | (simp (decide := true) only [↓reduceIte, Bool.false_eq_true, bi_t, bi_f, sw_eq, sw_ne, ne_eq, Nat.reduceEqDiff, not_false_eq_true, nI_pred, nI_1, gPay_ne, hn, hs, ht, cl n, cl s, ha, hb, hc, cl a, cl b, cl c, ] at hQ ⊢; with_reducible exact hQ)
theorem sp_X10_begin_6_no {d : Nat} {S : Sx} {Q : Option Value → Sx → Prop} {n s a b : Nat} (hn : S 30 0 = nI (n + 1)) (hnb : n + 1 < 180) (hs : S 1600 n = nI s) (hsb : s < 120) (ht : S 100 s = 6) (hD : DrOk S) (ha : S 200 s = nI a) (hab : a < 4) (hb : S 300 s = nI b) (hbb : b < 8) (hp : gPayB S (mkPrice (S 700 b)) = false)  (hQ : Q none (gPayS S 4 (mkPrice (S 700 b)))) : CC (d + 5) kX10_begin layM [.ref 0] S Q := by
  refine cc_intro [some _, none] (by decide) (cc_cat (by rfl)) (Nat.le_of_ble_eq_true rfl) (cc_ls (by rfl)) ?_
  refine aj_aload_n (q := 1) (i := 0) dX10_begin_0 rfl rfl rfl ?_
  refine aj_getR (q := 4) fl_X10_62 dX10_begin_1 rfl lM_0 rfl ?_
  refine aj_aload_n (q := 5) (i := 0) dX10_begin_4 rfl rfl rfl ?_
  refine aj_getI (q := 8) (f := 30) fl_X10_106 dX10_begin_5 rfl lM_0 rfl rfl ?_
  try simp (decide := true) only [sw_eq, sw_ne, ne_eq, Nat.reduceEqDiff, not_false_eq_true, nI_pred, nI_1, gPay_ne, hn, hs, ht, cl n, cl s, ha, hb, cl a, cl b]
  refine aj_iconst (q := 9) (v := 1) dX10_begin_8 rfl (by decide) ?_
  refine aj_isub (q := 10) dX10_begin_9 rfl ?_
  try simp (decide := true) only [sw_eq, sw_ne, ne_eq, Nat.reduceEqDiff, not_false_eq_true, nI_pred, nI_1, gPay_ne, hn, hs, ht, cl n, cl s, ha, hb, cl a, cl b]
  refine aj_iaload (q := 11) (f := 1600) dX10_begin_10 rfl lM_16 rfl (vp_in_nI (by omega) (by omega)) ?_
  try simp (decide := true) only [sw_eq, sw_ne, ne_eq, Nat.reduceEqDiff, not_false_eq_true, nI_pred, nI_1, gPay_ne, hn, hs, ht, cl n, cl s, ha, hb, cl a, cl b]
  refine aj_istore_n (q := 12) (i := 1) (ls' := [_, _]) dX10_begin_11 rfl rfl (by decide) rfl ?_
  refine aj_aload_n (q := 13) (i := 0) dX10_begin_12 rfl rfl rfl ?_
  refine aj_getR (q := 16) fl_X10_13 dX10_begin_13 rfl lM_0 rfl ?_
  refine aj_iload_n (q := 17) (i := 1) dX10_begin_16 rfl rfl rfl ?_
  refine aj_iaload (q := 18) (f := 100) dX10_begin_17 rfl lM_1 rfl (vp_in_nI (by omega) (by omega)) ?_
  try simp (decide := true) only [sw_eq, sw_ne, ne_eq, Nat.reduceEqDiff, not_false_eq_true, nI_pred, nI_1, gPay_ne, hn, hs, ht, cl n, cl s, ha, hb, cl a, cl b]
  refine aj_tsOut (tgt := 194) dX10_begin_18 (by rw [show (_ : Int32) = 6 from rfl]; decide) (by decide) ?_
  refine aj_aload_n (q := 195) (i := 0) dX10_begin_194 rfl rfl rfl ?_
  refine aj_iload_n (q := 196) (i := 1) dX10_begin_195 rfl rfl rfl ?_
  refine aj_callV (q := 199) (As := [_]) cl_X10_192 mk_X10_simple dX10_begin_196 rfl lM_0 rfl rfl (Nat.le_of_ble_eq_true rfl) (sp_X10_simple_6_no hn hnb hsb ht hD ha hab hb hbb hp ?_)
  refine aj_return dX10_begin_199 rfl ?_
  first | contradiction | with_reducible exact hQ | (simp (decide := true) only [↓reduceIte, Bool.false_eq_true, bi_t, bi_f, sw_eq, sw_ne, ne_eq, Nat.reduceEqDiff, not_false_eq_true, nI_pred, nI_1, gPay_ne, hn, hs, ht, cl n, cl s, ha, hb, cl a, cl b, ] at hQ ⊢; with_reducible exact hQ)
theorem sp_X10_begin_6_neg {d : Nat} {S : Sx} {Q : Option Value → Sx → Prop} {n s a b : Nat} (hn : S 30 0 = nI (n + 1)) (hnb : n + 1 < 180) (hs : S 1600 n = nI s) (hsb : s < 120) (ht : S 100 s = 6) (hD : DrOk S) (ha : S 200 s = nI a) (hab : a < 4) (hb : S 300 s = nI b) (hbb : b < 8) (h0 : ¬ 0 ≤ S 700 b) (hp : gPayB S (mkPrice (S 700 b)) = true)  (hQ : Q none (gThrow (gPayS S 4 (mkPrice (S 700 b))) n 3 0)) : CC (d + 5) kX10_begin layM [.ref 0] S Q := by
  refine cc_intro [some _, none] (by decide) (cc_cat (by rfl)) (Nat.le_of_ble_eq_true rfl) (cc_ls (by rfl)) ?_
  refine aj_aload_n (q := 1) (i := 0) dX10_begin_0 rfl rfl rfl ?_
  refine aj_getR (q := 4) fl_X10_62 dX10_begin_1 rfl lM_0 rfl ?_
  refine aj_aload_n (q := 5) (i := 0) dX10_begin_4 rfl rfl rfl ?_
  refine aj_getI (q := 8) (f := 30) fl_X10_106 dX10_begin_5 rfl lM_0 rfl rfl ?_
  try simp (decide := true) only [sw_eq, sw_ne, ne_eq, Nat.reduceEqDiff, not_false_eq_true, nI_pred, nI_1, gPay_ne, hn, hs, ht, cl n, cl s, ha, hb, cl a, cl b]
  refine aj_iconst (q := 9) (v := 1) dX10_begin_8 rfl (by decide) ?_
  refine aj_isub (q := 10) dX10_begin_9 rfl ?_
  try simp (decide := true) only [sw_eq, sw_ne, ne_eq, Nat.reduceEqDiff, not_false_eq_true, nI_pred, nI_1, gPay_ne, hn, hs, ht, cl n, cl s, ha, hb, cl a, cl b]
  refine aj_iaload (q := 11) (f := 1600) dX10_begin_10 rfl lM_16 rfl (vp_in_nI (by omega) (by omega)) ?_
  try simp (decide := true) only [sw_eq, sw_ne, ne_eq, Nat.reduceEqDiff, not_false_eq_true, nI_pred, nI_1, gPay_ne, hn, hs, ht, cl n, cl s, ha, hb, cl a, cl b]
  refine aj_istore_n (q := 12) (i := 1) (ls' := [_, _]) dX10_begin_11 rfl rfl (by decide) rfl ?_
  refine aj_aload_n (q := 13) (i := 0) dX10_begin_12 rfl rfl rfl ?_
  refine aj_getR (q := 16) fl_X10_13 dX10_begin_13 rfl lM_0 rfl ?_
  refine aj_iload_n (q := 17) (i := 1) dX10_begin_16 rfl rfl rfl ?_
  refine aj_iaload (q := 18) (f := 100) dX10_begin_17 rfl lM_1 rfl (vp_in_nI (by omega) (by omega)) ?_
  try simp (decide := true) only [sw_eq, sw_ne, ne_eq, Nat.reduceEqDiff, not_false_eq_true, nI_pred, nI_1, gPay_ne, hn, hs, ht, cl n, cl s, ha, hb, cl a, cl b]
  refine aj_tsOut (tgt := 194) dX10_begin_18 (by rw [show (_ : Int32) = 6 from rfl]; decide) (by decide) ?_
  refine aj_aload_n (q := 195) (i := 0) dX10_begin_194 rfl rfl rfl ?_
  refine aj_iload_n (q := 196) (i := 1) dX10_begin_195 rfl rfl rfl ?_
  refine aj_callV (q := 199) (As := [_]) cl_X10_192 mk_X10_simple dX10_begin_196 rfl lM_0 rfl rfl (Nat.le_of_ble_eq_true rfl) (sp_X10_simple_6_neg hn hnb hsb ht hD ha hab hb hbb h0 hp ?_)
  refine aj_return dX10_begin_199 rfl ?_
  first | contradiction | with_reducible exact hQ | (simp (decide := true) only [↓reduceIte, Bool.false_eq_true, bi_t, bi_f, sw_eq, sw_ne, ne_eq, Nat.reduceEqDiff, not_false_eq_true, nI_pred, nI_1, gPay_ne, hn, hs, ht, cl n, cl s, ha, hb, cl a, cl b, ] at hQ ⊢; with_reducible exact hQ)
theorem sp_X10_begin_6_ok {d : Nat} {S : Sx} {Q : Option Value → Sx → Prop} {n s a b w u z : Nat} (hn : S 30 0 = nI (n + 1)) (hnb : n + 1 < 180) (hs : S 1600 n = nI s) (hsb : s < 120) (ht : S 100 s = 6) (hD : DrOk S) (ha : S 200 s = nI a) (hab : a < 4) (hb : S 300 s = nI b) (hbb : b < 8) (hp : gPayB S (mkPrice (nI z)) = true) (hz : S 700 b = nI z) (hw : S 11 0 = nI w) (hwb : w < 300) (hu : S 14 0 = nI u) (huz : u + z ≤ 1400)  (hQ : Q none (gMade (gPayS S 4 (mkPrice (nI z))) n a w u z)) : CC (d + 5) kX10_begin layM [.ref 0] S Q := by
  refine cc_intro [some _, none] (by decide) (cc_cat (by rfl)) (Nat.le_of_ble_eq_true rfl) (cc_ls (by rfl)) ?_
  refine aj_aload_n (q := 1) (i := 0) dX10_begin_0 rfl rfl rfl ?_
  refine aj_getR (q := 4) fl_X10_62 dX10_begin_1 rfl lM_0 rfl ?_
  refine aj_aload_n (q := 5) (i := 0) dX10_begin_4 rfl rfl rfl ?_
  refine aj_getI (q := 8) (f := 30) fl_X10_106 dX10_begin_5 rfl lM_0 rfl rfl ?_
  try simp (decide := true) only [sw_eq, sw_ne, ne_eq, Nat.reduceEqDiff, not_false_eq_true, nI_pred, nI_1, gPay_ne, hn, hs, ht, cl n, cl s, ha, hb, cl a, cl b]
  refine aj_iconst (q := 9) (v := 1) dX10_begin_8 rfl (by decide) ?_
  refine aj_isub (q := 10) dX10_begin_9 rfl ?_
  try simp (decide := true) only [sw_eq, sw_ne, ne_eq, Nat.reduceEqDiff, not_false_eq_true, nI_pred, nI_1, gPay_ne, hn, hs, ht, cl n, cl s, ha, hb, cl a, cl b]
  refine aj_iaload (q := 11) (f := 1600) dX10_begin_10 rfl lM_16 rfl (vp_in_nI (by omega) (by omega)) ?_
  try simp (decide := true) only [sw_eq, sw_ne, ne_eq, Nat.reduceEqDiff, not_false_eq_true, nI_pred, nI_1, gPay_ne, hn, hs, ht, cl n, cl s, ha, hb, cl a, cl b]
  refine aj_istore_n (q := 12) (i := 1) (ls' := [_, _]) dX10_begin_11 rfl rfl (by decide) rfl ?_
  refine aj_aload_n (q := 13) (i := 0) dX10_begin_12 rfl rfl rfl ?_
  refine aj_getR (q := 16) fl_X10_13 dX10_begin_13 rfl lM_0 rfl ?_
  refine aj_iload_n (q := 17) (i := 1) dX10_begin_16 rfl rfl rfl ?_
  refine aj_iaload (q := 18) (f := 100) dX10_begin_17 rfl lM_1 rfl (vp_in_nI (by omega) (by omega)) ?_
  try simp (decide := true) only [sw_eq, sw_ne, ne_eq, Nat.reduceEqDiff, not_false_eq_true, nI_pred, nI_1, gPay_ne, hn, hs, ht, cl n, cl s, ha, hb, cl a, cl b]
  refine aj_tsOut (tgt := 194) dX10_begin_18 (by rw [show (_ : Int32) = 6 from rfl]; decide) (by decide) ?_
  refine aj_aload_n (q := 195) (i := 0) dX10_begin_194 rfl rfl rfl ?_
  refine aj_iload_n (q := 196) (i := 1) dX10_begin_195 rfl rfl rfl ?_
  refine aj_callV (q := 199) (As := [_]) cl_X10_192 mk_X10_simple dX10_begin_196 rfl lM_0 rfl rfl (Nat.le_of_ble_eq_true rfl) (sp_X10_simple_6_ok hn hnb hsb ht hD ha hab hb hbb hp hz hw hwb hu huz ?_)
  refine aj_return dX10_begin_199 rfl ?_
  first | contradiction | with_reducible exact hQ | (simp (decide := true) only [↓reduceIte, Bool.false_eq_true, bi_t, bi_f, sw_eq, sw_ne, ne_eq, Nat.reduceEqDiff, not_false_eq_true, nI_pred, nI_1, gPay_ne, hn, hs, ht, cl n, cl s, ha, hb, cl a, cl b, ] at hQ ⊢; with_reducible exact hQ)
theorem sp_X10_begin_12 {d : Nat} {S : Sx} {Q : Option Value → Sx → Prop} {n s : Nat} (hn : S 30 0 = nI (n + 1)) (hnb : n + 1 < 180) (hs : S 1600 n = nI s) (hsb : s < 120) (ht : S 100 s = 12)  (hQ : Q none (gPush (sw S 1700 n 1) (n + 1) (S 200 s))) : CC (d + 5) kX10_begin layM [.ref 0] S Q := by
  refine cc_intro [some _, none] (by decide) (cc_cat (by rfl)) (Nat.le_of_ble_eq_true rfl) (cc_ls (by rfl)) ?_
  refine aj_aload_n (q := 1) (i := 0) dX10_begin_0 rfl rfl rfl ?_
  refine aj_getR (q := 4) fl_X10_62 dX10_begin_1 rfl lM_0 rfl ?_
  refine aj_aload_n (q := 5) (i := 0) dX10_begin_4 rfl rfl rfl ?_
  refine aj_getI (q := 8) (f := 30) fl_X10_106 dX10_begin_5 rfl lM_0 rfl rfl ?_
  try simp (decide := true) only [sw_eq, sw_ne, ne_eq, Nat.reduceEqDiff, not_false_eq_true, nI_pred, nI_1, gPay_ne, hn, hs, ht, cl n, cl s]
  refine aj_iconst (q := 9) (v := 1) dX10_begin_8 rfl (by decide) ?_
  refine aj_isub (q := 10) dX10_begin_9 rfl ?_
  try simp (decide := true) only [sw_eq, sw_ne, ne_eq, Nat.reduceEqDiff, not_false_eq_true, nI_pred, nI_1, gPay_ne, hn, hs, ht, cl n, cl s]
  refine aj_iaload (q := 11) (f := 1600) dX10_begin_10 rfl lM_16 rfl (vp_in_nI (by omega) (by omega)) ?_
  try simp (decide := true) only [sw_eq, sw_ne, ne_eq, Nat.reduceEqDiff, not_false_eq_true, nI_pred, nI_1, gPay_ne, hn, hs, ht, cl n, cl s]
  refine aj_istore_n (q := 12) (i := 1) (ls' := [_, _]) dX10_begin_11 rfl rfl (by decide) rfl ?_
  refine aj_aload_n (q := 13) (i := 0) dX10_begin_12 rfl rfl rfl ?_
  refine aj_getR (q := 16) fl_X10_13 dX10_begin_13 rfl lM_0 rfl ?_
  refine aj_iload_n (q := 17) (i := 1) dX10_begin_16 rfl rfl rfl ?_
  refine aj_iaload (q := 18) (f := 100) dX10_begin_17 rfl lM_1 rfl (vp_in_nI (by omega) (by omega)) ?_
  try simp (decide := true) only [sw_eq, sw_ne, ne_eq, Nat.reduceEqDiff, not_false_eq_true, nI_pred, nI_1, gPay_ne, hn, hs, ht, cl n, cl s]
  refine aj_tsIn (tgt := 68) (off := 50) dX10_begin_18 (by rw [show (_ : Int32) = 12 from rfl]; decide) (by rw [show (_ : Int32) = 12 from rfl]; decide) (by rw [show (_ : Int32) = 12 from rfl]; rfl) (by decide) ?_
  refine aj_aload_n (q := 69) (i := 0) dX10_begin_68 rfl rfl rfl ?_
  refine aj_getR (q := 72) fl_X10_65 dX10_begin_69 rfl lM_0 rfl ?_
  refine aj_aload_n (q := 73) (i := 0) dX10_begin_72 rfl rfl rfl ?_
  refine aj_getI (q := 76) (f := 30) fl_X10_106 dX10_begin_73 rfl lM_0 rfl rfl ?_
  try simp (decide := true) only [sw_eq, sw_ne, ne_eq, Nat.reduceEqDiff, not_false_eq_true, nI_pred, nI_1, gPay_ne, hn, hs, ht, cl n, cl s]
  refine aj_iconst (q := 77) (v := 1) dX10_begin_76 rfl (by decide) ?_
  refine aj_isub (q := 78) dX10_begin_77 rfl ?_
  try simp (decide := true) only [sw_eq, sw_ne, ne_eq, Nat.reduceEqDiff, not_false_eq_true, nI_pred, nI_1, gPay_ne, hn, hs, ht, cl n, cl s]
  refine aj_iconst (q := 79) (v := 1) dX10_begin_78 rfl (by decide) ?_
  refine aj_iastore (q := 80) (f := 1700) okM dX10_begin_79 rfl lM_17 rfl (vp_in_nI (by omega) (by omega)) ?_
  refine aj_aload_n (q := 81) (i := 0) dX10_begin_80 rfl rfl rfl ?_
  refine aj_aload_n (q := 82) (i := 0) dX10_begin_81 rfl rfl rfl ?_
  refine aj_getR (q := 85) fl_X10_17 dX10_begin_82 rfl lM_0 rfl ?_
  refine aj_iload_n (q := 86) (i := 1) dX10_begin_85 rfl rfl rfl ?_
  refine aj_iaload (q := 87) (f := 200) dX10_begin_86 rfl lM_2 rfl (vp_in_nI (by omega) (by omega)) ?_
  try simp (decide := true) only [sw_eq, sw_ne, ne_eq, Nat.reduceEqDiff, not_false_eq_true, nI_pred, nI_1, gPay_ne, hn, hs, ht, cl n, cl s]
  refine aj_callV (q := 90) (As := [_]) cl_X10_180 mk_X10_push dX10_begin_87 rfl lM_0 rfl rfl (Nat.le_of_ble_eq_true rfl) (sp_X10_push (n := n + 1) (by simp (decide := true) only [sw_eq, sw_ne, ne_eq, Nat.reduceEqDiff, not_false_eq_true, gPay_ne, hn]) (by omega) ?_)
  refine aj_return dX10_begin_90 rfl ?_
  first | contradiction | with_reducible exact hQ | (simp (decide := true) only [↓reduceIte, Bool.false_eq_true, bi_t, bi_f, sw_eq, sw_ne, ne_eq, Nat.reduceEqDiff, not_false_eq_true, nI_pred, nI_1, gPay_ne, hn, hs, ht, cl n, cl s, ] at hQ ⊢; with_reducible exact hQ)
theorem sp_X10_begin_18 {d : Nat} {S : Sx} {Q : Option Value → Sx → Prop} {n s : Nat} (hn : S 30 0 = nI (n + 1)) (hnb : n + 1 < 180) (hs : S 1600 n = nI s) (hsb : s < 120) (ht : S 100 s = 18)  (hQ : Q none (gPush (sw S 1700 n 1) (n + 1) (S 200 s))) : CC (d + 5) kX10_begin layM [.ref 0] S Q := by
  refine cc_intro [some _, none] (by decide) (cc_cat (by rfl)) (Nat.le_of_ble_eq_true rfl) (cc_ls (by rfl)) ?_
  refine aj_aload_n (q := 1) (i := 0) dX10_begin_0 rfl rfl rfl ?_
  refine aj_getR (q := 4) fl_X10_62 dX10_begin_1 rfl lM_0 rfl ?_
  refine aj_aload_n (q := 5) (i := 0) dX10_begin_4 rfl rfl rfl ?_
  refine aj_getI (q := 8) (f := 30) fl_X10_106 dX10_begin_5 rfl lM_0 rfl rfl ?_
  try simp (decide := true) only [sw_eq, sw_ne, ne_eq, Nat.reduceEqDiff, not_false_eq_true, nI_pred, nI_1, gPay_ne, hn, hs, ht, cl n, cl s]
  refine aj_iconst (q := 9) (v := 1) dX10_begin_8 rfl (by decide) ?_
  refine aj_isub (q := 10) dX10_begin_9 rfl ?_
  try simp (decide := true) only [sw_eq, sw_ne, ne_eq, Nat.reduceEqDiff, not_false_eq_true, nI_pred, nI_1, gPay_ne, hn, hs, ht, cl n, cl s]
  refine aj_iaload (q := 11) (f := 1600) dX10_begin_10 rfl lM_16 rfl (vp_in_nI (by omega) (by omega)) ?_
  try simp (decide := true) only [sw_eq, sw_ne, ne_eq, Nat.reduceEqDiff, not_false_eq_true, nI_pred, nI_1, gPay_ne, hn, hs, ht, cl n, cl s]
  refine aj_istore_n (q := 12) (i := 1) (ls' := [_, _]) dX10_begin_11 rfl rfl (by decide) rfl ?_
  refine aj_aload_n (q := 13) (i := 0) dX10_begin_12 rfl rfl rfl ?_
  refine aj_getR (q := 16) fl_X10_13 dX10_begin_13 rfl lM_0 rfl ?_
  refine aj_iload_n (q := 17) (i := 1) dX10_begin_16 rfl rfl rfl ?_
  refine aj_iaload (q := 18) (f := 100) dX10_begin_17 rfl lM_1 rfl (vp_in_nI (by omega) (by omega)) ?_
  try simp (decide := true) only [sw_eq, sw_ne, ne_eq, Nat.reduceEqDiff, not_false_eq_true, nI_pred, nI_1, gPay_ne, hn, hs, ht, cl n, cl s]
  refine aj_tsIn (tgt := 68) (off := 50) dX10_begin_18 (by rw [show (_ : Int32) = 18 from rfl]; decide) (by rw [show (_ : Int32) = 18 from rfl]; decide) (by rw [show (_ : Int32) = 18 from rfl]; rfl) (by decide) ?_
  refine aj_aload_n (q := 69) (i := 0) dX10_begin_68 rfl rfl rfl ?_
  refine aj_getR (q := 72) fl_X10_65 dX10_begin_69 rfl lM_0 rfl ?_
  refine aj_aload_n (q := 73) (i := 0) dX10_begin_72 rfl rfl rfl ?_
  refine aj_getI (q := 76) (f := 30) fl_X10_106 dX10_begin_73 rfl lM_0 rfl rfl ?_
  try simp (decide := true) only [sw_eq, sw_ne, ne_eq, Nat.reduceEqDiff, not_false_eq_true, nI_pred, nI_1, gPay_ne, hn, hs, ht, cl n, cl s]
  refine aj_iconst (q := 77) (v := 1) dX10_begin_76 rfl (by decide) ?_
  refine aj_isub (q := 78) dX10_begin_77 rfl ?_
  try simp (decide := true) only [sw_eq, sw_ne, ne_eq, Nat.reduceEqDiff, not_false_eq_true, nI_pred, nI_1, gPay_ne, hn, hs, ht, cl n, cl s]
  refine aj_iconst (q := 79) (v := 1) dX10_begin_78 rfl (by decide) ?_
  refine aj_iastore (q := 80) (f := 1700) okM dX10_begin_79 rfl lM_17 rfl (vp_in_nI (by omega) (by omega)) ?_
  refine aj_aload_n (q := 81) (i := 0) dX10_begin_80 rfl rfl rfl ?_
  refine aj_aload_n (q := 82) (i := 0) dX10_begin_81 rfl rfl rfl ?_
  refine aj_getR (q := 85) fl_X10_17 dX10_begin_82 rfl lM_0 rfl ?_
  refine aj_iload_n (q := 86) (i := 1) dX10_begin_85 rfl rfl rfl ?_
  refine aj_iaload (q := 87) (f := 200) dX10_begin_86 rfl lM_2 rfl (vp_in_nI (by omega) (by omega)) ?_
  try simp (decide := true) only [sw_eq, sw_ne, ne_eq, Nat.reduceEqDiff, not_false_eq_true, nI_pred, nI_1, gPay_ne, hn, hs, ht, cl n, cl s]
  refine aj_callV (q := 90) (As := [_]) cl_X10_180 mk_X10_push dX10_begin_87 rfl lM_0 rfl rfl (Nat.le_of_ble_eq_true rfl) (sp_X10_push (n := n + 1) (by simp (decide := true) only [sw_eq, sw_ne, ne_eq, Nat.reduceEqDiff, not_false_eq_true, gPay_ne, hn]) (by omega) ?_)
  refine aj_return dX10_begin_90 rfl ?_
  first | contradiction | with_reducible exact hQ | (simp (decide := true) only [↓reduceIte, Bool.false_eq_true, bi_t, bi_f, sw_eq, sw_ne, ne_eq, Nat.reduceEqDiff, not_false_eq_true, nI_pred, nI_1, gPay_ne, hn, hs, ht, cl n, cl s, ] at hQ ⊢; with_reducible exact hQ)
theorem sp_X10_begin_19 {d : Nat} {S : Sx} {Q : Option Value → Sx → Prop} {n s : Nat} (hn : S 30 0 = nI (n + 1)) (hnb : n + 1 < 180) (hs : S 1600 n = nI s) (hsb : s < 120) (ht : S 100 s = 19)  (hQ : Q none (gPush (sw S 1700 n 1) (n + 1) (S 200 s))) : CC (d + 5) kX10_begin layM [.ref 0] S Q := by
  refine cc_intro [some _, none] (by decide) (cc_cat (by rfl)) (Nat.le_of_ble_eq_true rfl) (cc_ls (by rfl)) ?_
  refine aj_aload_n (q := 1) (i := 0) dX10_begin_0 rfl rfl rfl ?_
  refine aj_getR (q := 4) fl_X10_62 dX10_begin_1 rfl lM_0 rfl ?_
  refine aj_aload_n (q := 5) (i := 0) dX10_begin_4 rfl rfl rfl ?_
  refine aj_getI (q := 8) (f := 30) fl_X10_106 dX10_begin_5 rfl lM_0 rfl rfl ?_
  try simp (decide := true) only [sw_eq, sw_ne, ne_eq, Nat.reduceEqDiff, not_false_eq_true, nI_pred, nI_1, gPay_ne, hn, hs, ht, cl n, cl s]
  refine aj_iconst (q := 9) (v := 1) dX10_begin_8 rfl (by decide) ?_
  refine aj_isub (q := 10) dX10_begin_9 rfl ?_
  try simp (decide := true) only [sw_eq, sw_ne, ne_eq, Nat.reduceEqDiff, not_false_eq_true, nI_pred, nI_1, gPay_ne, hn, hs, ht, cl n, cl s]
  refine aj_iaload (q := 11) (f := 1600) dX10_begin_10 rfl lM_16 rfl (vp_in_nI (by omega) (by omega)) ?_
  try simp (decide := true) only [sw_eq, sw_ne, ne_eq, Nat.reduceEqDiff, not_false_eq_true, nI_pred, nI_1, gPay_ne, hn, hs, ht, cl n, cl s]
  refine aj_istore_n (q := 12) (i := 1) (ls' := [_, _]) dX10_begin_11 rfl rfl (by decide) rfl ?_
  refine aj_aload_n (q := 13) (i := 0) dX10_begin_12 rfl rfl rfl ?_
  refine aj_getR (q := 16) fl_X10_13 dX10_begin_13 rfl lM_0 rfl ?_
  refine aj_iload_n (q := 17) (i := 1) dX10_begin_16 rfl rfl rfl ?_
  refine aj_iaload (q := 18) (f := 100) dX10_begin_17 rfl lM_1 rfl (vp_in_nI (by omega) (by omega)) ?_
  try simp (decide := true) only [sw_eq, sw_ne, ne_eq, Nat.reduceEqDiff, not_false_eq_true, nI_pred, nI_1, gPay_ne, hn, hs, ht, cl n, cl s]
  refine aj_tsIn (tgt := 68) (off := 50) dX10_begin_18 (by rw [show (_ : Int32) = 19 from rfl]; decide) (by rw [show (_ : Int32) = 19 from rfl]; decide) (by rw [show (_ : Int32) = 19 from rfl]; rfl) (by decide) ?_
  refine aj_aload_n (q := 69) (i := 0) dX10_begin_68 rfl rfl rfl ?_
  refine aj_getR (q := 72) fl_X10_65 dX10_begin_69 rfl lM_0 rfl ?_
  refine aj_aload_n (q := 73) (i := 0) dX10_begin_72 rfl rfl rfl ?_
  refine aj_getI (q := 76) (f := 30) fl_X10_106 dX10_begin_73 rfl lM_0 rfl rfl ?_
  try simp (decide := true) only [sw_eq, sw_ne, ne_eq, Nat.reduceEqDiff, not_false_eq_true, nI_pred, nI_1, gPay_ne, hn, hs, ht, cl n, cl s]
  refine aj_iconst (q := 77) (v := 1) dX10_begin_76 rfl (by decide) ?_
  refine aj_isub (q := 78) dX10_begin_77 rfl ?_
  try simp (decide := true) only [sw_eq, sw_ne, ne_eq, Nat.reduceEqDiff, not_false_eq_true, nI_pred, nI_1, gPay_ne, hn, hs, ht, cl n, cl s]
  refine aj_iconst (q := 79) (v := 1) dX10_begin_78 rfl (by decide) ?_
  refine aj_iastore (q := 80) (f := 1700) okM dX10_begin_79 rfl lM_17 rfl (vp_in_nI (by omega) (by omega)) ?_
  refine aj_aload_n (q := 81) (i := 0) dX10_begin_80 rfl rfl rfl ?_
  refine aj_aload_n (q := 82) (i := 0) dX10_begin_81 rfl rfl rfl ?_
  refine aj_getR (q := 85) fl_X10_17 dX10_begin_82 rfl lM_0 rfl ?_
  refine aj_iload_n (q := 86) (i := 1) dX10_begin_85 rfl rfl rfl ?_
  refine aj_iaload (q := 87) (f := 200) dX10_begin_86 rfl lM_2 rfl (vp_in_nI (by omega) (by omega)) ?_
  try simp (decide := true) only [sw_eq, sw_ne, ne_eq, Nat.reduceEqDiff, not_false_eq_true, nI_pred, nI_1, gPay_ne, hn, hs, ht, cl n, cl s]
  refine aj_callV (q := 90) (As := [_]) cl_X10_180 mk_X10_push dX10_begin_87 rfl lM_0 rfl rfl (Nat.le_of_ble_eq_true rfl) (sp_X10_push (n := n + 1) (by simp (decide := true) only [sw_eq, sw_ne, ne_eq, Nat.reduceEqDiff, not_false_eq_true, gPay_ne, hn]) (by omega) ?_)
  refine aj_return dX10_begin_90 rfl ?_
  first | contradiction | with_reducible exact hQ | (simp (decide := true) only [↓reduceIte, Bool.false_eq_true, bi_t, bi_f, sw_eq, sw_ne, ne_eq, Nat.reduceEqDiff, not_false_eq_true, nI_pred, nI_1, gPay_ne, hn, hs, ht, cl n, cl s, ] at hQ ⊢; with_reducible exact hQ)
theorem sp_X10_begin_13 {d : Nat} {S : Sx} {Q : Option Value → Sx → Prop} {n s a : Nat} (hn : S 30 0 = nI (n + 1)) (hnb : n + 1 < 180) (hs : S 1600 n = nI s) (hsb : s < 120) (ht : S 100 s = 13) (ha : S 200 s = nI a) (hab : a < 8)  (hQ : Q none (if S 700 a = 0 then gPush (sw S 1700 n 1) (n + 1) (S 400 s) else gPush (sw S 1700 n 1) (n + 1) (S 300 s))) : CC (d + 5) kX10_begin layM [.ref 0] S Q := by
  refine cc_intro [some _, none] (by decide) (cc_cat (by rfl)) (Nat.le_of_ble_eq_true rfl) (cc_ls (by rfl)) ?_
  refine aj_aload_n (q := 1) (i := 0) dX10_begin_0 rfl rfl rfl ?_
  refine aj_getR (q := 4) fl_X10_62 dX10_begin_1 rfl lM_0 rfl ?_
  refine aj_aload_n (q := 5) (i := 0) dX10_begin_4 rfl rfl rfl ?_
  refine aj_getI (q := 8) (f := 30) fl_X10_106 dX10_begin_5 rfl lM_0 rfl rfl ?_
  try simp (decide := true) only [sw_eq, sw_ne, ne_eq, Nat.reduceEqDiff, not_false_eq_true, nI_pred, nI_1, gPay_ne, hn, hs, ht, cl n, cl s, ha, cl a]
  refine aj_iconst (q := 9) (v := 1) dX10_begin_8 rfl (by decide) ?_
  refine aj_isub (q := 10) dX10_begin_9 rfl ?_
  try simp (decide := true) only [sw_eq, sw_ne, ne_eq, Nat.reduceEqDiff, not_false_eq_true, nI_pred, nI_1, gPay_ne, hn, hs, ht, cl n, cl s, ha, cl a]
  refine aj_iaload (q := 11) (f := 1600) dX10_begin_10 rfl lM_16 rfl (vp_in_nI (by omega) (by omega)) ?_
  try simp (decide := true) only [sw_eq, sw_ne, ne_eq, Nat.reduceEqDiff, not_false_eq_true, nI_pred, nI_1, gPay_ne, hn, hs, ht, cl n, cl s, ha, cl a]
  refine aj_istore_n (q := 12) (i := 1) (ls' := [_, _]) dX10_begin_11 rfl rfl (by decide) rfl ?_
  refine aj_aload_n (q := 13) (i := 0) dX10_begin_12 rfl rfl rfl ?_
  refine aj_getR (q := 16) fl_X10_13 dX10_begin_13 rfl lM_0 rfl ?_
  refine aj_iload_n (q := 17) (i := 1) dX10_begin_16 rfl rfl rfl ?_
  refine aj_iaload (q := 18) (f := 100) dX10_begin_17 rfl lM_1 rfl (vp_in_nI (by omega) (by omega)) ?_
  try simp (decide := true) only [sw_eq, sw_ne, ne_eq, Nat.reduceEqDiff, not_false_eq_true, nI_pred, nI_1, gPay_ne, hn, hs, ht, cl n, cl s, ha, cl a]
  refine aj_tsIn (tgt := 91) (off := 73) dX10_begin_18 (by rw [show (_ : Int32) = 13 from rfl]; decide) (by rw [show (_ : Int32) = 13 from rfl]; decide) (by rw [show (_ : Int32) = 13 from rfl]; rfl) (by decide) ?_
  refine aj_aload_n (q := 92) (i := 0) dX10_begin_91 rfl rfl rfl ?_
  refine aj_getR (q := 95) fl_X10_65 dX10_begin_92 rfl lM_0 rfl ?_
  refine aj_aload_n (q := 96) (i := 0) dX10_begin_95 rfl rfl rfl ?_
  refine aj_getI (q := 99) (f := 30) fl_X10_106 dX10_begin_96 rfl lM_0 rfl rfl ?_
  try simp (decide := true) only [sw_eq, sw_ne, ne_eq, Nat.reduceEqDiff, not_false_eq_true, nI_pred, nI_1, gPay_ne, hn, hs, ht, cl n, cl s, ha, cl a]
  refine aj_iconst (q := 100) (v := 1) dX10_begin_99 rfl (by decide) ?_
  refine aj_isub (q := 101) dX10_begin_100 rfl ?_
  try simp (decide := true) only [sw_eq, sw_ne, ne_eq, Nat.reduceEqDiff, not_false_eq_true, nI_pred, nI_1, gPay_ne, hn, hs, ht, cl n, cl s, ha, cl a]
  refine aj_iconst (q := 102) (v := 1) dX10_begin_101 rfl (by decide) ?_
  refine aj_iastore (q := 103) (f := 1700) okM dX10_begin_102 rfl lM_17 rfl (vp_in_nI (by omega) (by omega)) ?_
  refine aj_aload_n (q := 104) (i := 0) dX10_begin_103 rfl rfl rfl ?_
  refine aj_aload_n (q := 105) (i := 0) dX10_begin_104 rfl rfl rfl ?_
  refine aj_getR (q := 108) fl_X10_32 dX10_begin_105 rfl lM_0 rfl ?_
  refine aj_aload_n (q := 109) (i := 0) dX10_begin_108 rfl rfl rfl ?_
  refine aj_getR (q := 112) fl_X10_17 dX10_begin_109 rfl lM_0 rfl ?_
  refine aj_iload_n (q := 113) (i := 1) dX10_begin_112 rfl rfl rfl ?_
  refine aj_iaload (q := 114) (f := 200) dX10_begin_113 rfl lM_2 rfl (vp_in_nI (by omega) (by omega)) ?_
  try simp (decide := true) only [sw_eq, sw_ne, ne_eq, Nat.reduceEqDiff, not_false_eq_true, nI_pred, nI_1, gPay_ne, hn, hs, ht, cl n, cl s, ha, cl a]
  refine aj_iaload (q := 115) (f := 700) dX10_begin_114 rfl lM_7 rfl (vp_in_nI (by omega) (by omega)) ?_
  try simp (decide := true) only [sw_eq, sw_ne, ne_eq, Nat.reduceEqDiff, not_false_eq_true, nI_pred, nI_1, gPay_ne, hn, hs, ht, cl n, cl s, ha, cl a]
  refine aj_if_eq (q := 118) (tgt := 127) dX10_begin_115 rfl (by decide) (fun c115_1 => ?_) (fun c115_1 => ?_)
  · refine aj_aload_n (q := 128) (i := 0) dX10_begin_127 rfl rfl rfl ?_
    refine aj_getR (q := 131) fl_X10_23 dX10_begin_128 rfl lM_0 rfl ?_
    refine aj_iload_n (q := 132) (i := 1) dX10_begin_131 rfl rfl rfl ?_
    refine aj_iaload (q := 133) (f := 400) dX10_begin_132 rfl lM_4 rfl (vp_in_nI (by omega) (by omega)) ?_
    try simp (decide := true) only [sw_eq, sw_ne, ne_eq, Nat.reduceEqDiff, not_false_eq_true, nI_pred, nI_1, gPay_ne, hn, hs, ht, cl n, cl s, ha, cl a, c115_1]
    refine aj_callV (q := 136) (As := [_]) cl_X10_180 mk_X10_push dX10_begin_133 rfl lM_0 rfl rfl (Nat.le_of_ble_eq_true rfl) (sp_X10_push (n := n + 1) (by simp (decide := true) only [sw_eq, sw_ne, ne_eq, Nat.reduceEqDiff, not_false_eq_true, gPay_ne, hn, c115_1]) (by omega) ?_)
    refine aj_return dX10_begin_136 rfl ?_
    first | contradiction | with_reducible exact hQ | (simp (decide := true) only [↓reduceIte, Bool.false_eq_true, bi_t, bi_f, sw_eq, sw_ne, ne_eq, Nat.reduceEqDiff, not_false_eq_true, nI_pred, nI_1, gPay_ne, hn, hs, ht, cl n, cl s, ha, cl a, c115_1] at hQ ⊢; with_reducible exact hQ)
  · refine aj_aload_n (q := 119) (i := 0) dX10_begin_118 rfl rfl rfl ?_
    refine aj_getR (q := 122) fl_X10_20 dX10_begin_119 rfl lM_0 rfl ?_
    refine aj_iload_n (q := 123) (i := 1) dX10_begin_122 rfl rfl rfl ?_
    refine aj_iaload (q := 124) (f := 300) dX10_begin_123 rfl lM_3 rfl (vp_in_nI (by omega) (by omega)) ?_
    try simp (decide := true) only [sw_eq, sw_ne, ne_eq, Nat.reduceEqDiff, not_false_eq_true, nI_pred, nI_1, gPay_ne, hn, hs, ht, cl n, cl s, ha, cl a, c115_1]
    refine aj_goto (tgt := 133) dX10_begin_124 (by decide) ?_
    refine aj_callV (q := 136) (As := [_]) cl_X10_180 mk_X10_push dX10_begin_133 rfl lM_0 rfl rfl (Nat.le_of_ble_eq_true rfl) (sp_X10_push (n := n + 1) (by simp (decide := true) only [sw_eq, sw_ne, ne_eq, Nat.reduceEqDiff, not_false_eq_true, gPay_ne, hn, c115_1]) (by omega) ?_)
    refine aj_return dX10_begin_136 rfl ?_
    first | contradiction | with_reducible exact hQ | (simp (decide := true) only [↓reduceIte, Bool.false_eq_true, bi_t, bi_f, sw_eq, sw_ne, ne_eq, Nat.reduceEqDiff, not_false_eq_true, nI_pred, nI_1, gPay_ne, hn, hs, ht, cl n, cl s, ha, cl a, c115_1] at hQ ⊢; with_reducible exact hQ)
theorem sp_X10_begin_14 {d : Nat} {S : Sx} {Q : Option Value → Sx → Prop} {n s a : Nat} (hn : S 30 0 = nI (n + 1)) (hnb : n + 1 < 180) (hs : S 1600 n = nI s) (hsb : s < 120) (ht : S 100 s = 14) (ha : S 200 s = nI a) (hab : a < 8)  (hQ : Q none (if S 700 a = 0 then gComes S n 0 else gPush (sw S 1700 n 1) (n + 1) (S 300 s))) : CC (d + 5) kX10_begin layM [.ref 0] S Q := by
  refine cc_intro [some _, none] (by decide) (cc_cat (by rfl)) (Nat.le_of_ble_eq_true rfl) (cc_ls (by rfl)) ?_
  refine aj_aload_n (q := 1) (i := 0) dX10_begin_0 rfl rfl rfl ?_
  refine aj_getR (q := 4) fl_X10_62 dX10_begin_1 rfl lM_0 rfl ?_
  refine aj_aload_n (q := 5) (i := 0) dX10_begin_4 rfl rfl rfl ?_
  refine aj_getI (q := 8) (f := 30) fl_X10_106 dX10_begin_5 rfl lM_0 rfl rfl ?_
  try simp (decide := true) only [sw_eq, sw_ne, ne_eq, Nat.reduceEqDiff, not_false_eq_true, nI_pred, nI_1, gPay_ne, hn, hs, ht, cl n, cl s, ha, cl a]
  refine aj_iconst (q := 9) (v := 1) dX10_begin_8 rfl (by decide) ?_
  refine aj_isub (q := 10) dX10_begin_9 rfl ?_
  try simp (decide := true) only [sw_eq, sw_ne, ne_eq, Nat.reduceEqDiff, not_false_eq_true, nI_pred, nI_1, gPay_ne, hn, hs, ht, cl n, cl s, ha, cl a]
  refine aj_iaload (q := 11) (f := 1600) dX10_begin_10 rfl lM_16 rfl (vp_in_nI (by omega) (by omega)) ?_
  try simp (decide := true) only [sw_eq, sw_ne, ne_eq, Nat.reduceEqDiff, not_false_eq_true, nI_pred, nI_1, gPay_ne, hn, hs, ht, cl n, cl s, ha, cl a]
  refine aj_istore_n (q := 12) (i := 1) (ls' := [_, _]) dX10_begin_11 rfl rfl (by decide) rfl ?_
  refine aj_aload_n (q := 13) (i := 0) dX10_begin_12 rfl rfl rfl ?_
  refine aj_getR (q := 16) fl_X10_13 dX10_begin_13 rfl lM_0 rfl ?_
  refine aj_iload_n (q := 17) (i := 1) dX10_begin_16 rfl rfl rfl ?_
  refine aj_iaload (q := 18) (f := 100) dX10_begin_17 rfl lM_1 rfl (vp_in_nI (by omega) (by omega)) ?_
  try simp (decide := true) only [sw_eq, sw_ne, ne_eq, Nat.reduceEqDiff, not_false_eq_true, nI_pred, nI_1, gPay_ne, hn, hs, ht, cl n, cl s, ha, cl a]
  refine aj_tsIn (tgt := 137) (off := 119) dX10_begin_18 (by rw [show (_ : Int32) = 14 from rfl]; decide) (by rw [show (_ : Int32) = 14 from rfl]; decide) (by rw [show (_ : Int32) = 14 from rfl]; rfl) (by decide) ?_
  refine aj_aload_n (q := 138) (i := 0) dX10_begin_137 rfl rfl rfl ?_
  refine aj_getR (q := 141) fl_X10_32 dX10_begin_138 rfl lM_0 rfl ?_
  refine aj_aload_n (q := 142) (i := 0) dX10_begin_141 rfl rfl rfl ?_
  refine aj_getR (q := 145) fl_X10_17 dX10_begin_142 rfl lM_0 rfl ?_
  refine aj_iload_n (q := 146) (i := 1) dX10_begin_145 rfl rfl rfl ?_
  refine aj_iaload (q := 147) (f := 200) dX10_begin_146 rfl lM_2 rfl (vp_in_nI (by omega) (by omega)) ?_
  try simp (decide := true) only [sw_eq, sw_ne, ne_eq, Nat.reduceEqDiff, not_false_eq_true, nI_pred, nI_1, gPay_ne, hn, hs, ht, cl n, cl s, ha, cl a]
  refine aj_iaload (q := 148) (f := 700) dX10_begin_147 rfl lM_7 rfl (vp_in_nI (by omega) (by omega)) ?_
  try simp (decide := true) only [sw_eq, sw_ne, ne_eq, Nat.reduceEqDiff, not_false_eq_true, nI_pred, nI_1, gPay_ne, hn, hs, ht, cl n, cl s, ha, cl a]
  refine aj_if_ne (q := 151) (tgt := 159) dX10_begin_148 rfl (by decide) (fun c148_1 => ?_) (fun c148_1 => ?_)
  · refine aj_aload_n (q := 160) (i := 0) dX10_begin_159 rfl rfl rfl ?_
    refine aj_getR (q := 163) fl_X10_65 dX10_begin_160 rfl lM_0 rfl ?_
    refine aj_aload_n (q := 164) (i := 0) dX10_begin_163 rfl rfl rfl ?_
    refine aj_getI (q := 167) (f := 30) fl_X10_106 dX10_begin_164 rfl lM_0 rfl rfl ?_
    try simp (decide := true) only [sw_eq, sw_ne, ne_eq, Nat.reduceEqDiff, not_false_eq_true, nI_pred, nI_1, gPay_ne, hn, hs, ht, cl n, cl s, ha, cl a, c148_1]
    refine aj_iconst (q := 168) (v := 1) dX10_begin_167 rfl (by decide) ?_
    refine aj_isub (q := 169) dX10_begin_168 rfl ?_
    try simp (decide := true) only [sw_eq, sw_ne, ne_eq, Nat.reduceEqDiff, not_false_eq_true, nI_pred, nI_1, gPay_ne, hn, hs, ht, cl n, cl s, ha, cl a, c148_1]
    refine aj_iconst (q := 170) (v := 1) dX10_begin_169 rfl (by decide) ?_
    refine aj_iastore (q := 171) (f := 1700) okM dX10_begin_170 rfl lM_17 rfl (vp_in_nI (by omega) (by omega)) ?_
    refine aj_aload_n (q := 172) (i := 0) dX10_begin_171 rfl rfl rfl ?_
    refine aj_aload_n (q := 173) (i := 0) dX10_begin_172 rfl rfl rfl ?_
    refine aj_getR (q := 176) fl_X10_20 dX10_begin_173 rfl lM_0 rfl ?_
    refine aj_iload_n (q := 177) (i := 1) dX10_begin_176 rfl rfl rfl ?_
    refine aj_iaload (q := 178) (f := 300) dX10_begin_177 rfl lM_3 rfl (vp_in_nI (by omega) (by omega)) ?_
    try simp (decide := true) only [sw_eq, sw_ne, ne_eq, Nat.reduceEqDiff, not_false_eq_true, nI_pred, nI_1, gPay_ne, hn, hs, ht, cl n, cl s, ha, cl a, c148_1]
    refine aj_callV (q := 181) (As := [_]) cl_X10_180 mk_X10_push dX10_begin_178 rfl lM_0 rfl rfl (Nat.le_of_ble_eq_true rfl) (sp_X10_push (n := n + 1) (by simp (decide := true) only [sw_eq, sw_ne, ne_eq, Nat.reduceEqDiff, not_false_eq_true, gPay_ne, hn, c148_1]) (by omega) ?_)
    refine aj_return dX10_begin_181 rfl ?_
    first | contradiction | with_reducible exact hQ | (simp (decide := true) only [↓reduceIte, Bool.false_eq_true, bi_t, bi_f, sw_eq, sw_ne, ne_eq, Nat.reduceEqDiff, not_false_eq_true, nI_pred, nI_1, gPay_ne, hn, hs, ht, cl n, cl s, ha, cl a, c148_1] at hQ ⊢; with_reducible exact hQ)
  · refine aj_aload_n (q := 152) (i := 0) dX10_begin_151 rfl rfl rfl ?_
    refine aj_iconst (q := 153) (v := 0) dX10_begin_152 rfl (by decide) ?_
    refine aj_callV (q := 156) (As := [_]) cl_X10_118 mk_X10_comes dX10_begin_153 rfl lM_0 rfl rfl (Nat.le_of_ble_eq_true rfl) (sp_X10_comes (n := n) (by simp (decide := true) only [sw_eq, sw_ne, ne_eq, Nat.reduceEqDiff, not_false_eq_true, gPay_ne, hn, c148_1]) ?_)
    refine aj_goto (tgt := 181) dX10_begin_156 (by decide) ?_
    refine aj_return dX10_begin_181 rfl ?_
    first | contradiction | with_reducible exact hQ | (simp (decide := true) only [↓reduceIte, Bool.false_eq_true, bi_t, bi_f, sw_eq, sw_ne, ne_eq, Nat.reduceEqDiff, not_false_eq_true, nI_pred, nI_1, gPay_ne, hn, hs, ht, cl n, cl s, ha, cl a, c148_1] at hQ ⊢; with_reducible exact hQ)
theorem sp_X10_begin_15 {d : Nat} {S : Sx} {Q : Option Value → Sx → Prop} {n s a : Nat} (hn : S 30 0 = nI (n + 1)) (hnb : n + 1 < 180) (hs : S 1600 n = nI s) (hsb : s < 120) (ht : S 100 s = 15) (hD : DrOk S) (ha : S 200 s = nI a) (hab : a < 8)  (hQ : Q none (gCalls S n a)) : CC (d + 5) kX10_begin layM [.ref 0] S Q := by
  refine cc_intro [some _, none] (by decide) (cc_cat (by rfl)) (Nat.le_of_ble_eq_true rfl) (cc_ls (by rfl)) ?_
  refine aj_aload_n (q := 1) (i := 0) dX10_begin_0 rfl rfl rfl ?_
  refine aj_getR (q := 4) fl_X10_62 dX10_begin_1 rfl lM_0 rfl ?_
  refine aj_aload_n (q := 5) (i := 0) dX10_begin_4 rfl rfl rfl ?_
  refine aj_getI (q := 8) (f := 30) fl_X10_106 dX10_begin_5 rfl lM_0 rfl rfl ?_
  try simp (decide := true) only [sw_eq, sw_ne, ne_eq, Nat.reduceEqDiff, not_false_eq_true, nI_pred, nI_1, gPay_ne, hn, hs, ht, cl n, cl s, ha, cl a]
  refine aj_iconst (q := 9) (v := 1) dX10_begin_8 rfl (by decide) ?_
  refine aj_isub (q := 10) dX10_begin_9 rfl ?_
  try simp (decide := true) only [sw_eq, sw_ne, ne_eq, Nat.reduceEqDiff, not_false_eq_true, nI_pred, nI_1, gPay_ne, hn, hs, ht, cl n, cl s, ha, cl a]
  refine aj_iaload (q := 11) (f := 1600) dX10_begin_10 rfl lM_16 rfl (vp_in_nI (by omega) (by omega)) ?_
  try simp (decide := true) only [sw_eq, sw_ne, ne_eq, Nat.reduceEqDiff, not_false_eq_true, nI_pred, nI_1, gPay_ne, hn, hs, ht, cl n, cl s, ha, cl a]
  refine aj_istore_n (q := 12) (i := 1) (ls' := [_, _]) dX10_begin_11 rfl rfl (by decide) rfl ?_
  refine aj_aload_n (q := 13) (i := 0) dX10_begin_12 rfl rfl rfl ?_
  refine aj_getR (q := 16) fl_X10_13 dX10_begin_13 rfl lM_0 rfl ?_
  refine aj_iload_n (q := 17) (i := 1) dX10_begin_16 rfl rfl rfl ?_
  refine aj_iaload (q := 18) (f := 100) dX10_begin_17 rfl lM_1 rfl (vp_in_nI (by omega) (by omega)) ?_
  try simp (decide := true) only [sw_eq, sw_ne, ne_eq, Nat.reduceEqDiff, not_false_eq_true, nI_pred, nI_1, gPay_ne, hn, hs, ht, cl n, cl s, ha, cl a]
  refine aj_tsIn (tgt := 182) (off := 164) dX10_begin_18 (by rw [show (_ : Int32) = 15 from rfl]; decide) (by rw [show (_ : Int32) = 15 from rfl]; decide) (by rw [show (_ : Int32) = 15 from rfl]; rfl) (by decide) ?_
  refine aj_aload_n (q := 183) (i := 0) dX10_begin_182 rfl rfl rfl ?_
  refine aj_iload_n (q := 184) (i := 1) dX10_begin_183 rfl rfl rfl ?_
  refine aj_callV (q := 187) (As := [_]) cl_X10_186 mk_X10_calls dX10_begin_184 rfl lM_0 rfl rfl (Nat.le_of_ble_eq_true rfl) (sp_X10_calls hn hnb hD hsb ha hab ?_)
  refine aj_return dX10_begin_187 rfl ?_
  first | contradiction | with_reducible exact hQ | (simp (decide := true) only [↓reduceIte, Bool.false_eq_true, bi_t, bi_f, sw_eq, sw_ne, ne_eq, Nat.reduceEqDiff, not_false_eq_true, nI_pred, nI_1, gPay_ne, hn, hs, ht, cl n, cl s, ha, cl a, ] at hQ ⊢; with_reducible exact hQ)
theorem sp_X10_begin_20 {d : Nat} {S : Sx} {Q : Option Value → Sx → Prop} {n s a : Nat} (hn : S 30 0 = nI (n + 1)) (hnb : n + 1 < 180) (hs : S 1600 n = nI s) (hsb : s < 120) (ht : S 100 s = 20) (ha : S 200 s = nI a) (hab : a < 4)  (hQ : Q none (gPush (sw (gLkM S a) 1700 n 1) (n + 1) (S 300 s))) : CC (d + 5) kX10_begin layM [.ref 0] S Q := by
  refine cc_intro [some _, none] (by decide) (cc_cat (by rfl)) (Nat.le_of_ble_eq_true rfl) (cc_ls (by rfl)) ?_
  refine aj_aload_n (q := 1) (i := 0) dX10_begin_0 rfl rfl rfl ?_
  refine aj_getR (q := 4) fl_X10_62 dX10_begin_1 rfl lM_0 rfl ?_
  refine aj_aload_n (q := 5) (i := 0) dX10_begin_4 rfl rfl rfl ?_
  refine aj_getI (q := 8) (f := 30) fl_X10_106 dX10_begin_5 rfl lM_0 rfl rfl ?_
  try simp (decide := true) only [sw_eq, sw_ne, ne_eq, Nat.reduceEqDiff, not_false_eq_true, nI_pred, nI_1, gPay_ne, hn, hs, ht, cl n, cl s, ha, cl a]
  refine aj_iconst (q := 9) (v := 1) dX10_begin_8 rfl (by decide) ?_
  refine aj_isub (q := 10) dX10_begin_9 rfl ?_
  try simp (decide := true) only [sw_eq, sw_ne, ne_eq, Nat.reduceEqDiff, not_false_eq_true, nI_pred, nI_1, gPay_ne, hn, hs, ht, cl n, cl s, ha, cl a]
  refine aj_iaload (q := 11) (f := 1600) dX10_begin_10 rfl lM_16 rfl (vp_in_nI (by omega) (by omega)) ?_
  try simp (decide := true) only [sw_eq, sw_ne, ne_eq, Nat.reduceEqDiff, not_false_eq_true, nI_pred, nI_1, gPay_ne, hn, hs, ht, cl n, cl s, ha, cl a]
  refine aj_istore_n (q := 12) (i := 1) (ls' := [_, _]) dX10_begin_11 rfl rfl (by decide) rfl ?_
  refine aj_aload_n (q := 13) (i := 0) dX10_begin_12 rfl rfl rfl ?_
  refine aj_getR (q := 16) fl_X10_13 dX10_begin_13 rfl lM_0 rfl ?_
  refine aj_iload_n (q := 17) (i := 1) dX10_begin_16 rfl rfl rfl ?_
  refine aj_iaload (q := 18) (f := 100) dX10_begin_17 rfl lM_1 rfl (vp_in_nI (by omega) (by omega)) ?_
  try simp (decide := true) only [sw_eq, sw_ne, ne_eq, Nat.reduceEqDiff, not_false_eq_true, nI_pred, nI_1, gPay_ne, hn, hs, ht, cl n, cl s, ha, cl a]
  refine aj_tsIn (tgt := 188) (off := 170) dX10_begin_18 (by rw [show (_ : Int32) = 20 from rfl]; decide) (by rw [show (_ : Int32) = 20 from rfl]; decide) (by rw [show (_ : Int32) = 20 from rfl]; rfl) (by decide) ?_
  refine aj_aload_n (q := 189) (i := 0) dX10_begin_188 rfl rfl rfl ?_
  refine aj_iload_n (q := 190) (i := 1) dX10_begin_189 rfl rfl rfl ?_
  refine aj_callV (q := 193) (As := [_]) cl_X10_189 mk_X10_locks dX10_begin_190 rfl lM_0 rfl rfl (Nat.le_of_ble_eq_true rfl) (sp_X10_locks hn hnb hsb ha hab ?_)
  refine aj_return dX10_begin_193 rfl ?_
  first | contradiction | with_reducible exact hQ | (simp (decide := true) only [↓reduceIte, Bool.false_eq_true, bi_t, bi_f, sw_eq, sw_ne, ne_eq, Nat.reduceEqDiff, not_false_eq_true, nI_pred, nI_1, gPay_ne, hn, hs, ht, cl n, cl s, ha, cl a, ] at hQ ⊢; with_reducible exact hQ)
