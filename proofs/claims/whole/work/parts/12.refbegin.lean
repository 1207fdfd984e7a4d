def gSecond (S : Sx) (n : Nat) (p : Int32) : Sx := gPush (sw S 1700 n 2) (n + 1) p
def gEntM (P : Sx) : Sx := sw (sw P 36 0 (P 36 0 + 1)) 24 0 (if P 36 0 + 1 ≤ P 24 0 then P 24 0 else P 36 0 + 1)
def gEnter (S : Sx) (n : Nat) (b : Int32) : Sx := if gPayB S 2 then gPush (sw (gEntM (gPayS S 1 2)) 1700 n 1) (n + 1) b else gPayS S 1 2
def gCalls (S : Sx) (n a : Nat) : Sx := if S 36 0 = 8 then gThrow S n 6 0 else if S 600 a = -1 then gThrow S n 1 0 else gEnter S n (S 600 a)
def gLkM (S : Sx) (k : Nat) : Sx := sw (sw S 900 k (S 900 k + 1)) 25 0 (if S 900 k + 1 ≤ S 25 0 then S 25 0 else S 900 k + 1)
def gHasB (S : Sx) (r : Nat) (i : Int32) : Bool := if S 800 r = -1 then false else inb i (S 1000 (S 800 r).toNatClampNeg)
def gHasS (S : Sx) (n r : Nat) (i : Int32) : Sx := if S 800 r = -1 then gThrow S n 1 0 else if inb i (S 1000 (S 800 r).toNatClampNeg) then S else gThrow S n 2 0
theorem gHas_t {S : Sx} {n r : Nat} {i : Int32} (h : gHasB S r i = true) : gHasS S n r i = S := by
  unfold gHasB at h
  unfold gHasS
  split
  · rename_i e; rw [if_pos e] at h; cases h
  · rename_i e; rw [if_neg e] at h; rw [if_pos h]
theorem gHas_n {S : Sx} {r : Nat} {i : Int32} (h : gHasB S r i = true) : ¬ S 800 r = -1 := by
  intro e
  rw [gHasB, if_pos e] at h
  cases h
def zr (S : Sx) (f u z : Nat) : Sx := fun g j => if g = f ∧ u ≤ j ∧ j < u + z then 0 else S g j
theorem zr_ne {S : Sx} {f u z g j : Nat} (h : g ≠ f) : zr S f u z g j = S g j := by unfold zr; rw [if_neg (fun e => h e.1)]
theorem sp_X10_second {d : Nat} {S : Sx} {Q : Option Value → Sx → Prop} {p : Int32} {n : Nat} (hn : S 30 0 = nI (n + 1)) (hnb : n + 1 < 180)  (hQ : Q none (gSecond S n p)) : CC (d + 1) kX10_second layM [.ref 0, .int p] S Q := by
  refine cc_intro [some _, some _] (by decide) (cc_cat (by rfl)) (Nat.le_of_ble_eq_true rfl) (cc_ls (by rfl)) ?_
  refine aj_aload_n (q := 1) (i := 0) dX10_second_0 rfl rfl rfl ?_
  refine aj_getR (q := 4) fl_X10_65 dX10_second_1 rfl lM_0 rfl ?_
  refine aj_aload_n (q := 5) (i := 0) dX10_second_4 rfl rfl rfl ?_
  refine aj_getI (q := 8) (f := 30) fl_X10_106 dX10_second_5 rfl lM_0 rfl rfl ?_
  try simp (decide := true) only [sw_eq, sw_ne, ne_eq, Nat.reduceEqDiff, not_false_eq_true, nI_pred, nI_1, gPay_ne, hn, cl n]
  refine aj_iconst (q := 9) (v := 1) dX10_second_8 rfl (by decide) ?_
  refine aj_isub (q := 10) dX10_second_9 rfl ?_
  try simp (decide := true) only [sw_eq, sw_ne, ne_eq, Nat.reduceEqDiff, not_false_eq_true, nI_pred, nI_1, gPay_ne, hn, cl n]
  refine aj_iconst (q := 11) (v := 2) dX10_second_10 rfl (by decide) ?_
  refine aj_iastore (q := 12) (f := 1700) okM dX10_second_11 rfl lM_17 rfl (vp_in_nI (by omega) (by omega)) ?_
  refine aj_aload_n (q := 13) (i := 0) dX10_second_12 rfl rfl rfl ?_
  refine aj_iload_n (q := 14) (i := 1) dX10_second_13 rfl rfl rfl ?_
  refine aj_callV (q := 17) (As := [_]) cl_X10_180 mk_X10_push dX10_second_14 rfl lM_0 rfl rfl (Nat.le_of_ble_eq_true rfl) (sp_X10_push (n := n + 1) (by simp (decide := true) only [sw_eq, sw_ne, ne_eq, Nat.reduceEqDiff, not_false_eq_true, gPay_ne, hn]) (by omega) ?_)
  refine aj_return dX10_second_17 rfl ?_
  first | contradiction | with_reducible exact hQ | (simp (decide := true) only [↓reduceIte, Bool.false_eq_true, bi_t, bi_f, sw_eq, sw_ne, ne_eq, Nat.reduceEqDiff, not_false_eq_true, nI_pred, nI_1, gPay_ne, gSecond, hn, cl n, ] at hQ ⊢; with_reducible exact hQ)
theorem sp_X10_enter {d : Nat} {S : Sx} {Q : Option Value → Sx → Prop} {b : Int32} {n : Nat} (hn : S 30 0 = nI (n + 1)) (hnb : n + 1 < 180) (hD : DrOk S) (hQ : Q none (gEnter S n b)) : CC (d + 3) kX10_enter layM [.ref 0, .int b] S Q := by
  refine cc_intro [some _, some _] (by decide) (cc_cat (by rfl)) (Nat.le_of_ble_eq_true rfl) (cc_ls (by rfl)) ?_
  refine aj_aload_n (q := 1) (i := 0) dX10_enter_0 rfl rfl rfl ?_
  refine aj_iconst (q := 2) (v := 1) dX10_enter_1 rfl (by decide) ?_
  refine aj_iconst (q := 3) (v := 2) dX10_enter_2 rfl (by decide) ?_
  refine aj_callV (q := 6) (As := [_, _]) cl_X10_153 mk_X10_pays dX10_enter_3 rfl lM_0 rfl rfl (Nat.le_of_ble_eq_true rfl) (sp_X10_pays (vp_in_iff.mpr (by decide)) hD ?_)
  refine aj_ifB_ne (q := 9) (tgt := 10) dX10_enter_6 rfl (by decide) (fun c6_1 => ?_) (fun c6_1 => ?_)
  · refine aj_aload_n (q := 11) (i := 0) dX10_enter_10 rfl rfl rfl ?_
    refine aj_dup (q := 12) dX10_enter_11 rfl rfl ?_
    refine aj_getI (q := 15) (f := 36) fl_X10_143 dX10_enter_12 rfl lM_0 rfl rfl ?_
    try simp (decide := true) only [sw_eq, sw_ne, ne_eq, Nat.reduceEqDiff, not_false_eq_true, nI_pred, nI_1, gPay_ne, hn, cl n, c6_1]
    refine aj_iconst (q := 16) (v := 1) dX10_enter_15 rfl (by decide) ?_
    refine aj_iadd (q := 17) dX10_enter_16 rfl ?_
    try simp (decide := true) only [sw_eq, sw_ne, ne_eq, Nat.reduceEqDiff, not_false_eq_true, nI_pred, nI_1, gPay_ne, hn, cl n, c6_1]
    refine aj_putI (q := 20) (f := 36) okM fp_X10_143 dX10_enter_17 rfl lM_0 rfl rfl ?_
    refine aj_aload_n (q := 21) (i := 0) dX10_enter_20 rfl rfl rfl ?_
    refine aj_aload_n (q := 22) (i := 0) dX10_enter_21 rfl rfl rfl ?_
    refine aj_getI (q := 25) (f := 36) fl_X10_143 dX10_enter_22 rfl lM_0 rfl rfl ?_
    try simp (decide := true) only [sw_eq, sw_ne, ne_eq, Nat.reduceEqDiff, not_false_eq_true, nI_pred, nI_1, gPay_ne, hn, cl n, c6_1]
    refine aj_aload_n (q := 26) (i := 0) dX10_enter_25 rfl rfl rfl ?_
    refine aj_getI (q := 29) (f := 24) fl_X10_177 dX10_enter_26 rfl lM_0 rfl rfl ?_
    try simp (decide := true) only [sw_eq, sw_ne, ne_eq, Nat.reduceEqDiff, not_false_eq_true, nI_pred, nI_1, gPay_ne, hn, cl n, c6_1]
    refine aj_icmp_le (q := 32) (tgt := 39) dX10_enter_29 rfl (by decide) (fun c29_2 => ?_) (fun c29_2 => ?_)
    · refine aj_aload_n (q := 40) (i := 0) dX10_enter_39 rfl rfl rfl ?_
      refine aj_getI (q := 43) (f := 24) fl_X10_177 dX10_enter_40 rfl lM_0 rfl rfl ?_
      try simp (decide := true) only [sw_eq, sw_ne, ne_eq, Nat.reduceEqDiff, not_false_eq_true, nI_pred, nI_1, gPay_ne, hn, cl n, c6_1, c29_2]
      refine aj_putI (q := 46) (f := 24) okM fp_X10_177 dX10_enter_43 rfl lM_0 rfl rfl ?_
      refine aj_aload_n (q := 47) (i := 0) dX10_enter_46 rfl rfl rfl ?_
      refine aj_getR (q := 50) fl_X10_65 dX10_enter_47 rfl lM_0 rfl ?_
      refine aj_aload_n (q := 51) (i := 0) dX10_enter_50 rfl rfl rfl ?_
      refine aj_getI (q := 54) (f := 30) fl_X10_106 dX10_enter_51 rfl lM_0 rfl rfl ?_
      try simp (decide := true) only [sw_eq, sw_ne, ne_eq, Nat.reduceEqDiff, not_false_eq_true, nI_pred, nI_1, gPay_ne, hn, cl n, c6_1, c29_2]
      refine aj_iconst (q := 55) (v := 1) dX10_enter_54 rfl (by decide) ?_
      refine aj_isub (q := 56) dX10_enter_55 rfl ?_
      try simp (decide := true) only [sw_eq, sw_ne, ne_eq, Nat.reduceEqDiff, not_false_eq_true, nI_pred, nI_1, gPay_ne, hn, cl n, c6_1, c29_2]
      refine aj_iconst (q := 57) (v := 1) dX10_enter_56 rfl (by decide) ?_
      refine aj_iastore (q := 58) (f := 1700) okM dX10_enter_57 rfl lM_17 rfl (vp_in_nI (by omega) (by omega)) ?_
      refine aj_aload_n (q := 59) (i := 0) dX10_enter_58 rfl rfl rfl ?_
      refine aj_iload_n (q := 60) (i := 1) dX10_enter_59 rfl rfl rfl ?_
      refine aj_callV (q := 63) (As := [_]) cl_X10_180 mk_X10_push dX10_enter_60 rfl lM_0 rfl rfl (Nat.le_of_ble_eq_true rfl) (sp_X10_push (n := n + 1) (by simp (decide := true) only [sw_eq, sw_ne, ne_eq, Nat.reduceEqDiff, not_false_eq_true, gPay_ne, hn, c6_1, c29_2]) (by omega) ?_)
      refine aj_return dX10_enter_63 rfl ?_
      first | contradiction | with_reducible exact hQ | (simp (decide := true) only [↓reduceIte, Bool.false_eq_true, bi_t, bi_f, sw_eq, sw_ne, ne_eq, Nat.reduceEqDiff, not_false_eq_true, nI_pred, nI_1, gPay_ne, gEnter, gEntM, hn, cl n, c6_1, c29_2] at hQ ⊢; with_reducible exact hQ)
    · refine aj_aload_n (q := 33) (i := 0) dX10_enter_32 rfl rfl rfl ?_
      refine aj_getI (q := 36) (f := 36) fl_X10_143 dX10_enter_33 rfl lM_0 rfl rfl ?_
      try simp (decide := true) only [sw_eq, sw_ne, ne_eq, Nat.reduceEqDiff, not_false_eq_true, nI_pred, nI_1, gPay_ne, hn, cl n, c6_1, c29_2]
      refine aj_goto (tgt := 43) dX10_enter_36 (by decide) ?_
      refine aj_putI (q := 46) (f := 24) okM fp_X10_177 dX10_enter_43 rfl lM_0 rfl rfl ?_
      refine aj_aload_n (q := 47) (i := 0) dX10_enter_46 rfl rfl rfl ?_
      refine aj_getR (q := 50) fl_X10_65 dX10_enter_47 rfl lM_0 rfl ?_
      refine aj_aload_n (q := 51) (i := 0) dX10_enter_50 rfl rfl rfl ?_
      refine aj_getI (q := 54) (f := 30) fl_X10_106 dX10_enter_51 rfl lM_0 rfl rfl ?_
      try simp (decide := true) only [sw_eq, sw_ne, ne_eq, Nat.reduceEqDiff, not_false_eq_true, nI_pred, nI_1, gPay_ne, hn, cl n, c6_1, c29_2]
      refine aj_iconst (q := 55) (v := 1) dX10_enter_54 rfl (by decide) ?_
      refine aj_isub (q := 56) dX10_enter_55 rfl ?_
      try simp (decide := true) only [sw_eq, sw_ne, ne_eq, Nat.reduceEqDiff, not_false_eq_true, nI_pred, nI_1, gPay_ne, hn, cl n, c6_1, c29_2]
      refine aj_iconst (q := 57) (v := 1) dX10_enter_56 rfl (by decide) ?_
      refine aj_iastore (q := 58) (f := 1700) okM dX10_enter_57 rfl lM_17 rfl (vp_in_nI (by omega) (by omega)) ?_
      refine aj_aload_n (q := 59) (i := 0) dX10_enter_58 rfl rfl rfl ?_
      refine aj_iload_n (q := 60) (i := 1) dX10_enter_59 rfl rfl rfl ?_
      refine aj_callV (q := 63) (As := [_]) cl_X10_180 mk_X10_push dX10_enter_60 rfl lM_0 rfl rfl (Nat.le_of_ble_eq_true rfl) (sp_X10_push (n := n + 1) (by simp (decide := true) only [sw_eq, sw_ne, ne_eq, Nat.reduceEqDiff, not_false_eq_true, gPay_ne, hn, c6_1, c29_2]) (by omega) ?_)
      refine aj_return dX10_enter_63 rfl ?_
      first | contradiction | with_reducible exact hQ | (simp (decide := true) only [↓reduceIte, Bool.false_eq_true, bi_t, bi_f, sw_eq, sw_ne, ne_eq, Nat.reduceEqDiff, not_false_eq_true, nI_pred, nI_1, gPay_ne, gEnter, gEntM, hn, cl n, c6_1, c29_2] at hQ ⊢; with_reducible exact hQ)
  · refine aj_return dX10_enter_9 rfl ?_
    first | contradiction | with_reducible exact hQ | (simp (decide := true) only [↓reduceIte, Bool.false_eq_true, bi_t, bi_f, sw_eq, sw_ne, ne_eq, Nat.reduceEqDiff, not_false_eq_true, nI_pred, nI_1, gPay_ne, gEnter, gEntM, hn, cl n, c6_1] at hQ ⊢; with_reducible exact hQ)
theorem sp_X10_calls {d : Nat} {S : Sx} {Q : Option Value → Sx → Prop} {n s a : Nat} (hn : S 30 0 = nI (n + 1)) (hnb : n + 1 < 180) (hD : DrOk S) (hsb : s < 120) (ha : S 200 s = nI a) (hab : a < 8) (hQ : Q none (gCalls S n a)) : CC (d + 4) kX10_calls layM [.ref 0, .int (nI s)] S Q := by
  refine cc_intro [some _, some _, none] (by decide) (cc_cat (by rfl)) (Nat.le_of_ble_eq_true rfl) (cc_ls (by rfl)) ?_
  refine aj_aload_n (q := 1) (i := 0) dX10_calls_0 rfl rfl rfl ?_
  refine aj_getR (q := 4) fl_X10_29 dX10_calls_1 rfl lM_0 rfl ?_
  refine aj_aload_n (q := 5) (i := 0) dX10_calls_4 rfl rfl rfl ?_
  refine aj_getR (q := 8) fl_X10_17 dX10_calls_5 rfl lM_0 rfl ?_
  refine aj_iload_n (q := 9) (i := 1) dX10_calls_8 rfl rfl rfl ?_
  refine aj_iaload (q := 10) (f := 200) dX10_calls_9 rfl lM_2 rfl (vp_in_nI (by omega) (by omega)) ?_
  try simp (decide := true) only [sw_eq, sw_ne, ne_eq, Nat.reduceEqDiff, not_false_eq_true, nI_pred, nI_1, gPay_ne, hn, cl n, cl s, cl a, ha]
  refine aj_iaload (q := 11) (f := 600) dX10_calls_10 rfl lM_6 rfl (vp_in_nI (by omega) (by omega)) ?_
  try simp (decide := true) only [sw_eq, sw_ne, ne_eq, Nat.reduceEqDiff, not_false_eq_true, nI_pred, nI_1, gPay_ne, hn, cl n, cl s, cl a, ha]
  refine aj_istore_n (q := 12) (i := 2) (ls' := [_, _, _]) dX10_calls_11 rfl rfl (by decide) rfl ?_
  refine aj_aload_n (q := 13) (i := 0) dX10_calls_12 rfl rfl rfl ?_
  refine aj_getI (q := 16) (f := 36) fl_X10_143 dX10_calls_13 rfl lM_0 rfl rfl ?_
  try simp (decide := true) only [sw_eq, sw_ne, ne_eq, Nat.reduceEqDiff, not_false_eq_true, nI_pred, nI_1, gPay_ne, hn, cl n, cl s, cl a, ha]
  refine aj_bipush (q := 18) (v := 8) dX10_calls_16 rfl (by decide) ?_
  refine aj_icmp_ne (q := 21) (tgt := 31) dX10_calls_18 rfl (by decide) (fun c18_1 => ?_) (fun c18_1 => ?_)
  · refine aj_iload_n (q := 32) (i := 2) dX10_calls_31 rfl rfl rfl ?_
    refine aj_iconst (q := 33) (v := (-1)) dX10_calls_32 rfl (by decide) ?_
    refine aj_icmp_ne (q := 36) (tgt := 45) dX10_calls_33 rfl (by decide) (fun c33_2 => ?_) (fun c33_2 => ?_)
    · refine aj_aload_n (q := 46) (i := 0) dX10_calls_45 rfl rfl rfl ?_
      refine aj_iload_n (q := 47) (i := 2) dX10_calls_46 rfl rfl rfl ?_
      refine aj_callV (q := 50) (As := [_]) cl_X10_174 mk_X10_enter dX10_calls_47 rfl lM_0 rfl rfl (Nat.le_of_ble_eq_true rfl) (sp_X10_enter (n := n) hn hnb hD ?_)
      refine aj_return dX10_calls_50 rfl ?_
      first | contradiction | with_reducible exact hQ | (simp (decide := true) only [↓reduceIte, Bool.false_eq_true, bi_t, bi_f, sw_eq, sw_ne, ne_eq, Nat.reduceEqDiff, not_false_eq_true, nI_pred, nI_1, gPay_ne, gCalls, hn, cl n, cl s, cl a, ha, c18_1, c33_2] at hQ ⊢; with_reducible exact hQ)
    · refine aj_aload_n (q := 37) (i := 0) dX10_calls_36 rfl rfl rfl ?_
      refine aj_iconst (q := 38) (v := 1) dX10_calls_37 rfl (by decide) ?_
      refine aj_iconst (q := 39) (v := 0) dX10_calls_38 rfl (by decide) ?_
      refine aj_callV (q := 42) (As := [_, _]) cl_X10_149 mk_X10_throwing dX10_calls_39 rfl lM_0 rfl rfl (Nat.le_of_ble_eq_true rfl) (sp_X10_throwing (n := n) (by simp (decide := true) only [sw_eq, sw_ne, ne_eq, Nat.reduceEqDiff, not_false_eq_true, gPay_ne, hn, c18_1, c33_2]) ?_)
      refine aj_goto (tgt := 50) dX10_calls_42 (by decide) ?_
      refine aj_return dX10_calls_50 rfl ?_
      first | contradiction | with_reducible exact hQ | (simp (decide := true) only [↓reduceIte, Bool.false_eq_true, bi_t, bi_f, sw_eq, sw_ne, ne_eq, Nat.reduceEqDiff, not_false_eq_true, nI_pred, nI_1, gPay_ne, gCalls, hn, cl n, cl s, cl a, ha, c18_1, c33_2] at hQ ⊢; with_reducible exact hQ)
  · refine aj_aload_n (q := 22) (i := 0) dX10_calls_21 rfl rfl rfl ?_
    refine aj_bipush (q := 24) (v := 6) dX10_calls_22 rfl (by decide) ?_
    refine aj_iconst (q := 25) (v := 0) dX10_calls_24 rfl (by decide) ?_
    refine aj_callV (q := 28) (As := [_, _]) cl_X10_149 mk_X10_throwing dX10_calls_25 rfl lM_0 rfl rfl (Nat.le_of_ble_eq_true rfl) (sp_X10_throwing (n := n) (by simp (decide := true) only [sw_eq, sw_ne, ne_eq, Nat.reduceEqDiff, not_false_eq_true, gPay_ne, hn, c18_1]) ?_)
    refine aj_goto (tgt := 50) dX10_calls_28 (by decide) ?_
    refine aj_return dX10_calls_50 rfl ?_
    first | contradiction | with_reducible exact hQ | (simp (decide := true) only [↓reduceIte, Bool.false_eq_true, bi_t, bi_f, sw_eq, sw_ne, ne_eq, Nat.reduceEqDiff, not_false_eq_true, nI_pred, nI_1, gPay_ne, gCalls, hn, cl n, cl s, cl a, ha, c18_1] at hQ ⊢; with_reducible exact hQ)
theorem sp_X10_locks {d : Nat} {S : Sx} {Q : Option Value → Sx → Prop} {n s a : Nat} (hn : S 30 0 = nI (n + 1)) (hnb : n + 1 < 180) (hsb : s < 120) (ha : S 200 s = nI a) (hab : a < 4) (hQ : Q none (gPush (sw (gLkM S a) 1700 n 1) (n + 1) (S 300 s))) : CC (d + 1) kX10_locks layM [.ref 0, .int (nI s)] S Q := by
  refine cc_intro [some _, some _, none] (by decide) (cc_cat (by rfl)) (Nat.le_of_ble_eq_true rfl) (cc_ls (by rfl)) ?_
  refine aj_aload_n (q := 1) (i := 0) dX10_locks_0 rfl rfl rfl ?_
  refine aj_getR (q := 4) fl_X10_17 dX10_locks_1 rfl lM_0 rfl ?_
  refine aj_iload_n (q := 5) (i := 1) dX10_locks_4 rfl rfl rfl ?_
  refine aj_iaload (q := 6) (f := 200) dX10_locks_5 rfl lM_2 rfl (vp_in_nI (by omega) (by omega)) ?_
  try simp (decide := true) only [sw_eq, sw_ne, ne_eq, Nat.reduceEqDiff, not_false_eq_true, nI_pred, nI_1, gPay_ne, hn, cl n, cl s, cl a, ha]
  refine aj_istore_n (q := 7) (i := 2) (ls' := [_, _, _]) dX10_locks_6 rfl rfl (by decide) rfl ?_
  refine aj_aload_n (q := 8) (i := 0) dX10_locks_7 rfl rfl rfl ?_
  refine aj_getR (q := 11) fl_X10_38 dX10_locks_8 rfl lM_0 rfl ?_
  refine aj_iload_n (q := 12) (i := 2) dX10_locks_11 rfl rfl rfl ?_
  refine aj_dup2 (q := 13) dX10_locks_12 rfl rfl rfl ?_
  refine aj_iaload (q := 14) (f := 900) dX10_locks_13 rfl lM_9 rfl (vp_in_nI (by omega) (by omega)) ?_
  try simp (decide := true) only [sw_eq, sw_ne, ne_eq, Nat.reduceEqDiff, not_false_eq_true, nI_pred, nI_1, gPay_ne, hn, cl n, cl s, cl a, ha]
  refine aj_iconst (q := 15) (v := 1) dX10_locks_14 rfl (by decide) ?_
  refine aj_iadd (q := 16) dX10_locks_15 rfl ?_
  try simp (decide := true) only [sw_eq, sw_ne, ne_eq, Nat.reduceEqDiff, not_false_eq_true, nI_pred, nI_1, gPay_ne, hn, cl n, cl s, cl a, ha]
  refine aj_iastore (q := 17) (f := 900) okM dX10_locks_16 rfl lM_9 rfl (vp_in_nI (by omega) (by omega)) ?_
  refine aj_aload_n (q := 18) (i := 0) dX10_locks_17 rfl rfl rfl ?_
  refine aj_aload_n (q := 19) (i := 0) dX10_locks_18 rfl rfl rfl ?_
  refine aj_getR (q := 22) fl_X10_38 dX10_locks_19 rfl lM_0 rfl ?_
  refine aj_iload_n (q := 23) (i := 2) dX10_locks_22 rfl rfl rfl ?_
  refine aj_iaload (q := 24) (f := 900) dX10_locks_23 rfl lM_9 rfl (vp_in_nI (by omega) (by omega)) ?_
  try simp (decide := true) only [sw_eq, sw_ne, ne_eq, Nat.reduceEqDiff, not_false_eq_true, nI_pred, nI_1, gPay_ne, hn, cl n, cl s, cl a, ha]
  refine aj_aload_n (q := 25) (i := 0) dX10_locks_24 rfl rfl rfl ?_
  refine aj_getI (q := 28) (f := 25) fl_X10_183 dX10_locks_25 rfl lM_0 rfl rfl ?_
  try simp (decide := true) only [sw_eq, sw_ne, ne_eq, Nat.reduceEqDiff, not_false_eq_true, nI_pred, nI_1, gPay_ne, hn, cl n, cl s, cl a, ha]
  refine aj_icmp_le (q := 31) (tgt := 40) dX10_locks_28 rfl (by decide) (fun c28_1 => ?_) (fun c28_1 => ?_)
  · refine aj_aload_n (q := 41) (i := 0) dX10_locks_40 rfl rfl rfl ?_
    refine aj_getI (q := 44) (f := 25) fl_X10_183 dX10_locks_41 rfl lM_0 rfl rfl ?_
    try simp (decide := true) only [sw_eq, sw_ne, ne_eq, Nat.reduceEqDiff, not_false_eq_true, nI_pred, nI_1, gPay_ne, hn, cl n, cl s, cl a, ha, c28_1]
    refine aj_putI (q := 47) (f := 25) okM fp_X10_183 dX10_locks_44 rfl lM_0 rfl rfl ?_
    refine aj_aload_n (q := 48) (i := 0) dX10_locks_47 rfl rfl rfl ?_
    refine aj_getR (q := 51) fl_X10_65 dX10_locks_48 rfl lM_0 rfl ?_
    refine aj_aload_n (q := 52) (i := 0) dX10_locks_51 rfl rfl rfl ?_
    refine aj_getI (q := 55) (f := 30) fl_X10_106 dX10_locks_52 rfl lM_0 rfl rfl ?_
    try simp (decide := true) only [sw_eq, sw_ne, ne_eq, Nat.reduceEqDiff, not_false_eq_true, nI_pred, nI_1, gPay_ne, hn, cl n, cl s, cl a, ha, c28_1]
    refine aj_iconst (q := 56) (v := 1) dX10_locks_55 rfl (by decide) ?_
    refine aj_isub (q := 57) dX10_locks_56 rfl ?_
    try simp (decide := true) only [sw_eq, sw_ne, ne_eq, Nat.reduceEqDiff, not_false_eq_true, nI_pred, nI_1, gPay_ne, hn, cl n, cl s, cl a, ha, c28_1]
    refine aj_iconst (q := 58) (v := 1) dX10_locks_57 rfl (by decide) ?_
    refine aj_iastore (q := 59) (f := 1700) okM dX10_locks_58 rfl lM_17 rfl (vp_in_nI (by omega) (by omega)) ?_
    refine aj_aload_n (q := 60) (i := 0) dX10_locks_59 rfl rfl rfl ?_
    refine aj_aload_n (q := 61) (i := 0) dX10_locks_60 rfl rfl rfl ?_
    refine aj_getR (q := 64) fl_X10_20 dX10_locks_61 rfl lM_0 rfl ?_
    refine aj_iload_n (q := 65) (i := 1) dX10_locks_64 rfl rfl rfl ?_
    refine aj_iaload (q := 66) (f := 300) dX10_locks_65 rfl lM_3 rfl (vp_in_nI (by omega) (by omega)) ?_
    try simp (decide := true) only [sw_eq, sw_ne, ne_eq, Nat.reduceEqDiff, not_false_eq_true, nI_pred, nI_1, gPay_ne, hn, cl n, cl s, cl a, ha, c28_1]
    refine aj_callV (q := 69) (As := [_]) cl_X10_180 mk_X10_push dX10_locks_66 rfl lM_0 rfl rfl (Nat.le_of_ble_eq_true rfl) (sp_X10_push (n := n + 1) (by simp (decide := true) only [sw_eq, sw_ne, ne_eq, Nat.reduceEqDiff, not_false_eq_true, gPay_ne, hn, c28_1]) (by omega) ?_)
    refine aj_return dX10_locks_69 rfl ?_
    first | contradiction | with_reducible exact hQ | (simp (decide := true) only [↓reduceIte, Bool.false_eq_true, bi_t, bi_f, sw_eq, sw_ne, ne_eq, Nat.reduceEqDiff, not_false_eq_true, nI_pred, nI_1, gPay_ne, gLkM, hn, cl n, cl s, cl a, ha, c28_1] at hQ ⊢; with_reducible exact hQ)
  · refine aj_aload_n (q := 32) (i := 0) dX10_locks_31 rfl rfl rfl ?_
    refine aj_getR (q := 35) fl_X10_38 dX10_locks_32 rfl lM_0 rfl ?_
    refine aj_iload_n (q := 36) (i := 2) dX10_locks_35 rfl rfl rfl ?_
    refine aj_iaload (q := 37) (f := 900) dX10_locks_36 rfl lM_9 rfl (vp_in_nI (by omega) (by omega)) ?_
    try simp (decide := true) only [sw_eq, sw_ne, ne_eq, Nat.reduceEqDiff, not_false_eq_true, nI_pred, nI_1, gPay_ne, hn, cl n, cl s, cl a, ha, c28_1]
    refine aj_goto (tgt := 44) dX10_locks_37 (by decide) ?_
    refine aj_putI (q := 47) (f := 25) okM fp_X10_183 dX10_locks_44 rfl lM_0 rfl rfl ?_
    refine aj_aload_n (q := 48) (i := 0) dX10_locks_47 rfl rfl rfl ?_
    refine aj_getR (q := 51) fl_X10_65 dX10_locks_48 rfl lM_0 rfl ?_
    refine aj_aload_n (q := 52) (i := 0) dX10_locks_51 rfl rfl rfl ?_
    refine aj_getI (q := 55) (f := 30) fl_X10_106 dX10_locks_52 rfl lM_0 rfl rfl ?_
    try simp (decide := true) only [sw_eq, sw_ne, ne_eq, Nat.reduceEqDiff, not_false_eq_true, nI_pred, nI_1, gPay_ne, hn, cl n, cl s, cl a, ha, c28_1]
    refine aj_iconst (q := 56) (v := 1) dX10_locks_55 rfl (by decide) ?_
    refine aj_isub (q := 57) dX10_locks_56 rfl ?_
    try simp (decide := true) only [sw_eq, sw_ne, ne_eq, Nat.reduceEqDiff, not_false_eq_true, nI_pred, nI_1, gPay_ne, hn, cl n, cl s, cl a, ha, c28_1]
    refine aj_iconst (q := 58) (v := 1) dX10_locks_57 rfl (by decide) ?_
    refine aj_iastore (q := 59) (f := 1700) okM dX10_locks_58 rfl lM_17 rfl (vp_in_nI (by omega) (by omega)) ?_
    refine aj_aload_n (q := 60) (i := 0) dX10_locks_59 rfl rfl rfl ?_
    refine aj_aload_n (q := 61) (i := 0) dX10_locks_60 rfl rfl rfl ?_
    refine aj_getR (q := 64) fl_X10_20 dX10_locks_61 rfl lM_0 rfl ?_
    refine aj_iload_n (q := 65) (i := 1) dX10_locks_64 rfl rfl rfl ?_
    refine aj_iaload (q := 66) (f := 300) dX10_locks_65 rfl lM_3 rfl (vp_in_nI (by omega) (by omega)) ?_
    try simp (decide := true) only [sw_eq, sw_ne, ne_eq, Nat.reduceEqDiff, not_false_eq_true, nI_pred, nI_1, gPay_ne, hn, cl n, cl s, cl a, ha, c28_1]
    refine aj_callV (q := 69) (As := [_]) cl_X10_180 mk_X10_push dX10_locks_66 rfl lM_0 rfl rfl (Nat.le_of_ble_eq_true rfl) (sp_X10_push (n := n + 1) (by simp (decide := true) only [sw_eq, sw_ne, ne_eq, Nat.reduceEqDiff, not_false_eq_true, gPay_ne, hn, c28_1]) (by omega) ?_)
    refine aj_return dX10_locks_69 rfl ?_
    first | contradiction | with_reducible exact hQ | (simp (decide := true) only [↓reduceIte, Bool.false_eq_true, bi_t, bi_f, sw_eq, sw_ne, ne_eq, Nat.reduceEqDiff, not_false_eq_true, nI_pred, nI_1, gPay_ne, gLkM, hn, cl n, cl s, cl a, ha, c28_1] at hQ ⊢; with_reducible exact hQ)
theorem sp_X10_reckon_1 {d : Nat} {S : Sx} {Q : Option Value → Sx → Prop} {n s a b c : Nat} (hn : S 30 0 = nI (n + 1)) (hnb : n + 1 < 180) (hsb : s < 120) (ht : S 100 s = 1) (ha : S 200 s = nI a) (hab : a < 8) (hb : S 300 s = nI b) (hbb : b < 8) (hc : S 400 s = nI c) (hcb : c < 8) (hQ : Q none (gComes (sw S 700 a (S 700 b + S 700 c)) n 0)) : CC (d + 2) kX10_reckon layM [.ref 0, .int (nI s)] S Q := by
  refine cc_intro [some _, some _, none, none, none] (by decide) (cc_cat (by rfl)) (Nat.le_of_ble_eq_true rfl) (cc_ls (by rfl)) ?_
  refine aj_aload_n (q := 1) (i := 0) dX10_reckon_0 rfl rfl rfl ?_
  refine aj_getR (q := 4) fl_X10_32 dX10_reckon_1 rfl lM_0 rfl ?_
  refine aj_aload_n (q := 5) (i := 0) dX10_reckon_4 rfl rfl rfl ?_
  refine aj_getR (q := 8) fl_X10_20 dX10_reckon_5 rfl lM_0 rfl ?_
  refine aj_iload_n (q := 9) (i := 1) dX10_reckon_8 rfl rfl rfl ?_
  refine aj_iaload (q := 10) (f := 300) dX10_reckon_9 rfl lM_3 rfl (vp_in_nI (by omega) (by omega)) ?_
  try simp (decide := true) only [sw_eq, sw_ne, ne_eq, Nat.reduceEqDiff, not_false_eq_true, nI_pred, nI_1, gPay_ne, hn, ht, ha, hb, hc, cl n, cl s, cl a, cl b, cl c]
  refine aj_iaload (q := 11) (f := 700) dX10_reckon_10 rfl lM_7 rfl (vp_in_nI (by omega) (by omega)) ?_
  try simp (decide := true) only [sw_eq, sw_ne, ne_eq, Nat.reduceEqDiff, not_false_eq_true, nI_pred, nI_1, gPay_ne, hn, ht, ha, hb, hc, cl n, cl s, cl a, cl b, cl c]
  refine aj_istore_n (q := 12) (i := 2) (ls' := [_, _, _, _, _]) dX10_reckon_11 rfl rfl (by decide) rfl ?_
  refine aj_aload_n (q := 13) (i := 0) dX10_reckon_12 rfl rfl rfl ?_
  refine aj_getR (q := 16) fl_X10_32 dX10_reckon_13 rfl lM_0 rfl ?_
  refine aj_aload_n (q := 17) (i := 0) dX10_reckon_16 rfl rfl rfl ?_
  refine aj_getR (q := 20) fl_X10_23 dX10_reckon_17 rfl lM_0 rfl ?_
  refine aj_iload_n (q := 21) (i := 1) dX10_reckon_20 rfl rfl rfl ?_
  refine aj_iaload (q := 22) (f := 400) dX10_reckon_21 rfl lM_4 rfl (vp_in_nI (by omega) (by omega)) ?_
  try simp (decide := true) only [sw_eq, sw_ne, ne_eq, Nat.reduceEqDiff, not_false_eq_true, nI_pred, nI_1, gPay_ne, hn, ht, ha, hb, hc, cl n, cl s, cl a, cl b, cl c]
  refine aj_iaload (q := 23) (f := 700) dX10_reckon_22 rfl lM_7 rfl (vp_in_nI (by omega) (by omega)) ?_
  try simp (decide := true) only [sw_eq, sw_ne, ne_eq, Nat.reduceEqDiff, not_false_eq_true, nI_pred, nI_1, gPay_ne, hn, ht, ha, hb, hc, cl n, cl s, cl a, cl b, cl c]
  refine aj_istore_n (q := 24) (i := 3) (ls' := [_, _, _, _, _]) dX10_reckon_23 rfl rfl (by decide) rfl ?_
  refine aj_aload_n (q := 25) (i := 0) dX10_reckon_24 rfl rfl rfl ?_
  refine aj_getR (q := 28) fl_X10_13 dX10_reckon_25 rfl lM_0 rfl ?_
  refine aj_iload_n (q := 29) (i := 1) dX10_reckon_28 rfl rfl rfl ?_
  refine aj_iaload (q := 30) (f := 100) dX10_reckon_29 rfl lM_1 rfl (vp_in_nI (by omega) (by omega)) ?_
  try simp (decide := true) only [sw_eq, sw_ne, ne_eq, Nat.reduceEqDiff, not_false_eq_true, nI_pred, nI_1, gPay_ne, hn, ht, ha, hb, hc, cl n, cl s, cl a, cl b, cl c]
  refine aj_istore (q := 32) (i := 4) (ls' := [_, _, _, _, _]) dX10_reckon_30 rfl (by decide) rfl ?_
  refine aj_iload (q := 34) (i := 4) dX10_reckon_32 rfl rfl ?_
  refine aj_iconst (q := 35) (v := 3) dX10_reckon_34 rfl (by decide) ?_
  refine aj_icmp_le (q := 38) (tgt := 49) dX10_reckon_35 rfl (by decide) (fun _ => ?_) (fun c => absurd c (by decide))
  refine aj_aload_n (q := 50) (i := 0) dX10_reckon_49 rfl rfl rfl ?_
  refine aj_getR (q := 53) fl_X10_32 dX10_reckon_50 rfl lM_0 rfl ?_
  refine aj_aload_n (q := 54) (i := 0) dX10_reckon_53 rfl rfl rfl ?_
  refine aj_getR (q := 57) fl_X10_17 dX10_reckon_54 rfl lM_0 rfl ?_
  refine aj_iload_n (q := 58) (i := 1) dX10_reckon_57 rfl rfl rfl ?_
  refine aj_iaload (q := 59) (f := 200) dX10_reckon_58 rfl lM_2 rfl (vp_in_nI (by omega) (by omega)) ?_
  try simp (decide := true) only [sw_eq, sw_ne, ne_eq, Nat.reduceEqDiff, not_false_eq_true, nI_pred, nI_1, gPay_ne, hn, ht, ha, hb, hc, cl n, cl s, cl a, cl b, cl c]
  refine aj_iload (q := 61) (i := 4) dX10_reckon_59 rfl rfl ?_
  refine aj_iconst (q := 62) (v := 1) dX10_reckon_61 rfl (by decide) ?_
  refine aj_icmp_ne (q := 65) (tgt := 71) dX10_reckon_62 rfl (by decide) (fun c => absurd c (by decide)) (fun _ => ?_)
  refine aj_iload_n (q := 66) (i := 2) dX10_reckon_65 rfl rfl rfl ?_
  refine aj_iload_n (q := 67) (i := 3) dX10_reckon_66 rfl rfl rfl ?_
  refine aj_iadd (q := 68) dX10_reckon_67 rfl ?_
  try simp (decide := true) only [sw_eq, sw_ne, ne_eq, Nat.reduceEqDiff, not_false_eq_true, nI_pred, nI_1, gPay_ne, hn, ht, ha, hb, hc, cl n, cl s, cl a, cl b, cl c]
  refine aj_goto (tgt := 110) dX10_reckon_68 (by decide) ?_
  refine aj_iastore (q := 111) (f := 700) okM dX10_reckon_110 rfl lM_7 rfl (vp_in_nI (by omega) (by omega)) ?_
  refine aj_aload_n (q := 112) (i := 0) dX10_reckon_111 rfl rfl rfl ?_
  refine aj_iconst (q := 113) (v := 0) dX10_reckon_112 rfl (by decide) ?_
  refine aj_callV (q := 116) (As := [_]) cl_X10_118 mk_X10_comes dX10_reckon_113 rfl lM_0 rfl rfl (Nat.le_of_ble_eq_true rfl) (sp_X10_comes (n := n) (by simp (decide := true) only [sw_eq, sw_ne, ne_eq, Nat.reduceEqDiff, not_false_eq_true, gPay_ne, hn]) ?_)
  refine aj_return dX10_reckon_116 rfl ?_
  first | contradiction | with_reducible exact hQ | (simp (decide := true) only [↓reduceIte, Bool.false_eq_true, bi_t, bi_f, sw_eq, sw_ne, ne_eq, Nat.reduceEqDiff, not_false_eq_true, nI_pred, nI_1, gPay_ne, hn, ht, ha, hb, hc, cl n, cl s, cl a, cl b, cl c, ] at hQ ⊢; with_reducible exact hQ)
theorem sp_X10_reckon_2 {d : Nat} {S : Sx} {Q : Option Value → Sx → Prop} {n s a b c : Nat} (hn : S 30 0 = nI (n + 1)) (hnb : n + 1 < 180) (hsb : s < 120) (ht : S 100 s = 2) (ha : S 200 s = nI a) (hab : a < 8) (hb : S 300 s = nI b) (hbb : b < 8) (hc : S 400 s = nI c) (hcb : c < 8) (hQ : Q none (gComes (sw S 700 a (S 700 b - S 700 c)) n 0)) : CC (d + 2) kX10_reckon layM [.ref 0, .int (nI s)] S Q := by
  refine cc_intro [some _, some _, none, none, none] (by decide) (cc_cat (by rfl)) (Nat.le_of_ble_eq_true rfl) (cc_ls (by rfl)) ?_
  refine aj_aload_n (q := 1) (i := 0) dX10_reckon_0 rfl rfl rfl ?_
  refine aj_getR (q := 4) fl_X10_32 dX10_reckon_1 rfl lM_0 rfl ?_
  refine aj_aload_n (q := 5) (i := 0) dX10_reckon_4 rfl rfl rfl ?_
  refine aj_getR (q := 8) fl_X10_20 dX10_reckon_5 rfl lM_0 rfl ?_
  refine aj_iload_n (q := 9) (i := 1) dX10_reckon_8 rfl rfl rfl ?_
  refine aj_iaload (q := 10) (f := 300) dX10_reckon_9 rfl lM_3 rfl (vp_in_nI (by omega) (by omega)) ?_
  try simp (decide := true) only [sw_eq, sw_ne, ne_eq, Nat.reduceEqDiff, not_false_eq_true, nI_pred, nI_1, gPay_ne, hn, ht, ha, hb, hc, cl n, cl s, cl a, cl b, cl c]
  refine aj_iaload (q := 11) (f := 700) dX10_reckon_10 rfl lM_7 rfl (vp_in_nI (by omega) (by omega)) ?_
  try simp (decide := true) only [sw_eq, sw_ne, ne_eq, Nat.reduceEqDiff, not_false_eq_true, nI_pred, nI_1, gPay_ne, hn, ht, ha, hb, hc, cl n, cl s, cl a, cl b, cl c]
  refine aj_istore_n (q := 12) (i := 2) (ls' := [_, _, _, _, _]) dX10_reckon_11 rfl rfl (by decide) rfl ?_
  refine aj_aload_n (q := 13) (i := 0) dX10_reckon_12 rfl rfl rfl ?_
  refine aj_getR (q := 16) fl_X10_32 dX10_reckon_13 rfl lM_0 rfl ?_
  refine aj_aload_n (q := 17) (i := 0) dX10_reckon_16 rfl rfl rfl ?_
  refine aj_getR (q := 20) fl_X10_23 dX10_reckon_17 rfl lM_0 rfl ?_
  refine aj_iload_n (q := 21) (i := 1) dX10_reckon_20 rfl rfl rfl ?_
  refine aj_iaload (q := 22) (f := 400) dX10_reckon_21 rfl lM_4 rfl (vp_in_nI (by omega) (by omega)) ?_
  try simp (decide := true) only [sw_eq, sw_ne, ne_eq, Nat.reduceEqDiff, not_false_eq_true, nI_pred, nI_1, gPay_ne, hn, ht, ha, hb, hc, cl n, cl s, cl a, cl b, cl c]
  refine aj_iaload (q := 23) (f := 700) dX10_reckon_22 rfl lM_7 rfl (vp_in_nI (by omega) (by omega)) ?_
  try simp (decide := true) only [sw_eq, sw_ne, ne_eq, Nat.reduceEqDiff, not_false_eq_true, nI_pred, nI_1, gPay_ne, hn, ht, ha, hb, hc, cl n, cl s, cl a, cl b, cl c]
  refine aj_istore_n (q := 24) (i := 3) (ls' := [_, _, _, _, _]) dX10_reckon_23 rfl rfl (by decide) rfl ?_
  refine aj_aload_n (q := 25) (i := 0) dX10_reckon_24 rfl rfl rfl ?_
  refine aj_getR (q := 28) fl_X10_13 dX10_reckon_25 rfl lM_0 rfl ?_
  refine aj_iload_n (q := 29) (i := 1) dX10_reckon_28 rfl rfl rfl ?_
  refine aj_iaload (q := 30) (f := 100) dX10_reckon_29 rfl lM_1 rfl (vp_in_nI (by omega) (by omega)) ?_
  try simp (decide := true) only [sw_eq, sw_ne, ne_eq, Nat.reduceEqDiff, not_false_eq_true, nI_pred, nI_1, gPay_ne, hn, ht, ha, hb, hc, cl n, cl s, cl a, cl b, cl c]
  refine aj_istore (q := 32) (i := 4) (ls' := [_, _, _, _, _]) dX10_reckon_30 rfl (by decide) rfl ?_
  refine aj_iload (q := 34) (i := 4) dX10_reckon_32 rfl rfl ?_
  refine aj_iconst (q := 35) (v := 3) dX10_reckon_34 rfl (by decide) ?_
  refine aj_icmp_le (q := 38) (tgt := 49) dX10_reckon_35 rfl (by decide) (fun _ => ?_) (fun c => absurd c (by decide))
  refine aj_aload_n (q := 50) (i := 0) dX10_reckon_49 rfl rfl rfl ?_
  refine aj_getR (q := 53) fl_X10_32 dX10_reckon_50 rfl lM_0 rfl ?_
  refine aj_aload_n (q := 54) (i := 0) dX10_reckon_53 rfl rfl rfl ?_
  refine aj_getR (q := 57) fl_X10_17 dX10_reckon_54 rfl lM_0 rfl ?_
  refine aj_iload_n (q := 58) (i := 1) dX10_reckon_57 rfl rfl rfl ?_
  refine aj_iaload (q := 59) (f := 200) dX10_reckon_58 rfl lM_2 rfl (vp_in_nI (by omega) (by omega)) ?_
  try simp (decide := true) only [sw_eq, sw_ne, ne_eq, Nat.reduceEqDiff, not_false_eq_true, nI_pred, nI_1, gPay_ne, hn, ht, ha, hb, hc, cl n, cl s, cl a, cl b, cl c]
  refine aj_iload (q := 61) (i := 4) dX10_reckon_59 rfl rfl ?_
  refine aj_iconst (q := 62) (v := 1) dX10_reckon_61 rfl (by decide) ?_
  refine aj_icmp_ne (q := 65) (tgt := 71) dX10_reckon_62 rfl (by decide) (fun _ => ?_) (fun c => absurd c (by decide))
  refine aj_iload (q := 73) (i := 4) dX10_reckon_71 rfl rfl ?_
  refine aj_iconst (q := 74) (v := 2) dX10_reckon_73 rfl (by decide) ?_
  refine aj_icmp_ne (q := 77) (tgt := 83) dX10_reckon_74 rfl (by decide) (fun c => absurd c (by decide)) (fun _ => ?_)
  refine aj_iload_n (q := 78) (i := 2) dX10_reckon_77 rfl rfl rfl ?_
  refine aj_iload_n (q := 79) (i := 3) dX10_reckon_78 rfl rfl rfl ?_
  refine aj_isub (q := 80) dX10_reckon_79 rfl ?_
  try simp (decide := true) only [sw_eq, sw_ne, ne_eq, Nat.reduceEqDiff, not_false_eq_true, nI_pred, nI_1, gPay_ne, hn, ht, ha, hb, hc, cl n, cl s, cl a, cl b, cl c]
  refine aj_goto (tgt := 110) dX10_reckon_80 (by decide) ?_
  refine aj_iastore (q := 111) (f := 700) okM dX10_reckon_110 rfl lM_7 rfl (vp_in_nI (by omega) (by omega)) ?_
  refine aj_aload_n (q := 112) (i := 0) dX10_reckon_111 rfl rfl rfl ?_
  refine aj_iconst (q := 113) (v := 0) dX10_reckon_112 rfl (by decide) ?_
  refine aj_callV (q := 116) (As := [_]) cl_X10_118 mk_X10_comes dX10_reckon_113 rfl lM_0 rfl rfl (Nat.le_of_ble_eq_true rfl) (sp_X10_comes (n := n) (by simp (decide := true) only [sw_eq, sw_ne, ne_eq, Nat.reduceEqDiff, not_false_eq_true, gPay_ne, hn]) ?_)
  refine aj_return dX10_reckon_116 rfl ?_
  first | contradiction | with_reducible exact hQ | (simp (decide := true) only [↓reduceIte, Bool.false_eq_true, bi_t, bi_f, sw_eq, sw_ne, ne_eq, Nat.reduceEqDiff, not_false_eq_true, nI_pred, nI_1, gPay_ne, hn, ht, ha, hb, hc, cl n, cl s, cl a, cl b, cl c, ] at hQ ⊢; with_reducible exact hQ)
theorem sp_X10_reckon_3 {d : Nat} {S : Sx} {Q : Option Value → Sx → Prop} {n s a b c : Nat} (hn : S 30 0 = nI (n + 1)) (hnb : n + 1 < 180) (hsb : s < 120) (ht : S 100 s = 3) (ha : S 200 s = nI a) (hab : a < 8) (hb : S 300 s = nI b) (hbb : b < 8) (hc : S 400 s = nI c) (hcb : c < 8) (hQ : Q none (gComes (sw S 700 a (S 700 b * S 700 c)) n 0)) : CC (d + 2) kX10_reckon layM [.ref 0, .int (nI s)] S Q := by
  refine cc_intro [some _, some _, none, none, none] (by decide) (cc_cat (by rfl)) (Nat.le_of_ble_eq_true rfl) (cc_ls (by rfl)) ?_
  refine aj_aload_n (q := 1) (i := 0) dX10_reckon_0 rfl rfl rfl ?_
  refine aj_getR (q := 4) fl_X10_32 dX10_reckon_1 rfl lM_0 rfl ?_
  refine aj_aload_n (q := 5) (i := 0) dX10_reckon_4 rfl rfl rfl ?_
  refine aj_getR (q := 8) fl_X10_20 dX10_reckon_5 rfl lM_0 rfl ?_
  refine aj_iload_n (q := 9) (i := 1) dX10_reckon_8 rfl rfl rfl ?_
  refine aj_iaload (q := 10) (f := 300) dX10_reckon_9 rfl lM_3 rfl (vp_in_nI (by omega) (by omega)) ?_
  try simp (decide := true) only [sw_eq, sw_ne, ne_eq, Nat.reduceEqDiff, not_false_eq_true, nI_pred, nI_1, gPay_ne, hn, ht, ha, hb, hc, cl n, cl s, cl a, cl b, cl c]
  refine aj_iaload (q := 11) (f := 700) dX10_reckon_10 rfl lM_7 rfl (vp_in_nI (by omega) (by omega)) ?_
  try simp (decide := true) only [sw_eq, sw_ne, ne_eq, Nat.reduceEqDiff, not_false_eq_true, nI_pred, nI_1, gPay_ne, hn, ht, ha, hb, hc, cl n, cl s, cl a, cl b, cl c]
  refine aj_istore_n (q := 12) (i := 2) (ls' := [_, _, _, _, _]) dX10_reckon_11 rfl rfl (by decide) rfl ?_
  refine aj_aload_n (q := 13) (i := 0) dX10_reckon_12 rfl rfl rfl ?_
  refine aj_getR (q := 16) fl_X10_32 dX10_reckon_13 rfl lM_0 rfl ?_
  refine aj_aload_n (q := 17) (i := 0) dX10_reckon_16 rfl rfl rfl ?_
  refine aj_getR (q := 20) fl_X10_23 dX10_reckon_17 rfl lM_0 rfl ?_
  refine aj_iload_n (q := 21) (i := 1) dX10_reckon_20 rfl rfl rfl ?_
  refine aj_iaload (q := 22) (f := 400) dX10_reckon_21 rfl lM_4 rfl (vp_in_nI (by omega) (by omega)) ?_
  try simp (decide := true) only [sw_eq, sw_ne, ne_eq, Nat.reduceEqDiff, not_false_eq_true, nI_pred, nI_1, gPay_ne, hn, ht, ha, hb, hc, cl n, cl s, cl a, cl b, cl c]
  refine aj_iaload (q := 23) (f := 700) dX10_reckon_22 rfl lM_7 rfl (vp_in_nI (by omega) (by omega)) ?_
  try simp (decide := true) only [sw_eq, sw_ne, ne_eq, Nat.reduceEqDiff, not_false_eq_true, nI_pred, nI_1, gPay_ne, hn, ht, ha, hb, hc, cl n, cl s, cl a, cl b, cl c]
  refine aj_istore_n (q := 24) (i := 3) (ls' := [_, _, _, _, _]) dX10_reckon_23 rfl rfl (by decide) rfl ?_
  refine aj_aload_n (q := 25) (i := 0) dX10_reckon_24 rfl rfl rfl ?_
  refine aj_getR (q := 28) fl_X10_13 dX10_reckon_25 rfl lM_0 rfl ?_
  refine aj_iload_n (q := 29) (i := 1) dX10_reckon_28 rfl rfl rfl ?_
  refine aj_iaload (q := 30) (f := 100) dX10_reckon_29 rfl lM_1 rfl (vp_in_nI (by omega) (by omega)) ?_
  try simp (decide := true) only [sw_eq, sw_ne, ne_eq, Nat.reduceEqDiff, not_false_eq_true, nI_pred, nI_1, gPay_ne, hn, ht, ha, hb, hc, cl n, cl s, cl a, cl b, cl c]
  refine aj_istore (q := 32) (i := 4) (ls' := [_, _, _, _, _]) dX10_reckon_30 rfl (by decide) rfl ?_
  refine aj_iload (q := 34) (i := 4) dX10_reckon_32 rfl rfl ?_
  refine aj_iconst (q := 35) (v := 3) dX10_reckon_34 rfl (by decide) ?_
  refine aj_icmp_le (q := 38) (tgt := 49) dX10_reckon_35 rfl (by decide) (fun _ => ?_) (fun c => absurd c (by decide))
  refine aj_aload_n (q := 50) (i := 0) dX10_reckon_49 rfl rfl rfl ?_
  refine aj_getR (q := 53) fl_X10_32 dX10_reckon_50 rfl lM_0 rfl ?_
  refine aj_aload_n (q := 54) (i := 0) dX10_reckon_53 rfl rfl rfl ?_
  refine aj_getR (q := 57) fl_X10_17 dX10_reckon_54 rfl lM_0 rfl ?_
  refine aj_iload_n (q := 58) (i := 1) dX10_reckon_57 rfl rfl rfl ?_
  refine aj_iaload (q := 59) (f := 200) dX10_reckon_58 rfl lM_2 rfl (vp_in_nI (by omega) (by omega)) ?_
  try simp (decide := true) only [sw_eq, sw_ne, ne_eq, Nat.reduceEqDiff, not_false_eq_true, nI_pred, nI_1, gPay_ne, hn, ht, ha, hb, hc, cl n, cl s, cl a, cl b, cl c]
  refine aj_iload (q := 61) (i := 4) dX10_reckon_59 rfl rfl ?_
  refine aj_iconst (q := 62) (v := 1) dX10_reckon_61 rfl (by decide) ?_
  refine aj_icmp_ne (q := 65) (tgt := 71) dX10_reckon_62 rfl (by decide) (fun _ => ?_) (fun c => absurd c (by decide))
  refine aj_iload (q := 73) (i := 4) dX10_reckon_71 rfl rfl ?_
  refine aj_iconst (q := 74) (v := 2) dX10_reckon_73 rfl (by decide) ?_
  refine aj_icmp_ne (q := 77) (tgt := 83) dX10_reckon_74 rfl (by decide) (fun _ => ?_) (fun c => absurd c (by decide))
  refine aj_iload (q := 85) (i := 4) dX10_reckon_83 rfl rfl ?_
  refine aj_iconst (q := 86) (v := 3) dX10_reckon_85 rfl (by decide) ?_
  refine aj_icmp_ne (q := 89) (tgt := 95) dX10_reckon_86 rfl (by decide) (fun c => absurd c (by decide)) (fun _ => ?_)
  refine aj_iload_n (q := 90) (i := 2) dX10_reckon_89 rfl rfl rfl ?_
  refine aj_iload_n (q := 91) (i := 3) dX10_reckon_90 rfl rfl rfl ?_
  refine aj_imul (q := 92) dX10_reckon_91 rfl ?_
  refine aj_goto (tgt := 110) dX10_reckon_92 (by decide) ?_
  refine aj_iastore (q := 111) (f := 700) okM dX10_reckon_110 rfl lM_7 rfl (vp_in_nI (by omega) (by omega)) ?_
  refine aj_aload_n (q := 112) (i := 0) dX10_reckon_111 rfl rfl rfl ?_
  refine aj_iconst (q := 113) (v := 0) dX10_reckon_112 rfl (by decide) ?_
  refine aj_callV (q := 116) (As := [_]) cl_X10_118 mk_X10_comes dX10_reckon_113 rfl lM_0 rfl rfl (Nat.le_of_ble_eq_true rfl) (sp_X10_comes (n := n) (by simp (decide := true) only [sw_eq, sw_ne, ne_eq, Nat.reduceEqDiff, not_false_eq_true, gPay_ne, hn]) ?_)
  refine aj_return dX10_reckon_116 rfl ?_
  first | contradiction | with_reducible exact hQ | (simp (decide := true) only [↓reduceIte, Bool.false_eq_true, bi_t, bi_f, sw_eq, sw_ne, ne_eq, Nat.reduceEqDiff, not_false_eq_true, nI_pred, nI_1, gPay_ne, hn, ht, ha, hb, hc, cl n, cl s, cl a, cl b, cl c, ] at hQ ⊢; with_reducible exact hQ)
theorem sp_X10_reckon_4 {d : Nat} {S : Sx} {Q : Option Value → Sx → Prop} {n s a b c : Nat} (hn : S 30 0 = nI (n + 1)) (hnb : n + 1 < 180) (hsb : s < 120) (ht : S 100 s = 4) (ha : S 200 s = nI a) (hab : a < 8) (hb : S 300 s = nI b) (hbb : b < 8) (hc : S 400 s = nI c) (hcb : c < 8) (hQ : Q none (if S 700 c = 0 then gThrow S n 4 0 else gComes (sw S 700 a (S 700 b / S 700 c)) n 0)) : CC (d + 2) kX10_reckon layM [.ref 0, .int (nI s)] S Q := by
  refine cc_intro [some _, some _, none, none, none] (by decide) (cc_cat (by rfl)) (Nat.le_of_ble_eq_true rfl) (cc_ls (by rfl)) ?_
  refine aj_aload_n (q := 1) (i := 0) dX10_reckon_0 rfl rfl rfl ?_
  refine aj_getR (q := 4) fl_X10_32 dX10_reckon_1 rfl lM_0 rfl ?_
  refine aj_aload_n (q := 5) (i := 0) dX10_reckon_4 rfl rfl rfl ?_
  refine aj_getR (q := 8) fl_X10_20 dX10_reckon_5 rfl lM_0 rfl ?_
  refine aj_iload_n (q := 9) (i := 1) dX10_reckon_8 rfl rfl rfl ?_
  refine aj_iaload (q := 10) (f := 300) dX10_reckon_9 rfl lM_3 rfl (vp_in_nI (by omega) (by omega)) ?_
  try simp (decide := true) only [sw_eq, sw_ne, ne_eq, Nat.reduceEqDiff, not_false_eq_true, nI_pred, nI_1, gPay_ne, hn, ht, ha, hb, hc, cl n, cl s, cl a, cl b, cl c]
  refine aj_iaload (q := 11) (f := 700) dX10_reckon_10 rfl lM_7 rfl (vp_in_nI (by omega) (by omega)) ?_
  try simp (decide := true) only [sw_eq, sw_ne, ne_eq, Nat.reduceEqDiff, not_false_eq_true, nI_pred, nI_1, gPay_ne, hn, ht, ha, hb, hc, cl n, cl s, cl a, cl b, cl c]
  refine aj_istore_n (q := 12) (i := 2) (ls' := [_, _, _, _, _]) dX10_reckon_11 rfl rfl (by decide) rfl ?_
  refine aj_aload_n (q := 13) (i := 0) dX10_reckon_12 rfl rfl rfl ?_
  refine aj_getR (q := 16) fl_X10_32 dX10_reckon_13 rfl lM_0 rfl ?_
  refine aj_aload_n (q := 17) (i := 0) dX10_reckon_16 rfl rfl rfl ?_
  refine aj_getR (q := 20) fl_X10_23 dX10_reckon_17 rfl lM_0 rfl ?_
  refine aj_iload_n (q := 21) (i := 1) dX10_reckon_20 rfl rfl rfl ?_
  refine aj_iaload (q := 22) (f := 400) dX10_reckon_21 rfl lM_4 rfl (vp_in_nI (by omega) (by omega)) ?_
  try simp (decide := true) only [sw_eq, sw_ne, ne_eq, Nat.reduceEqDiff, not_false_eq_true, nI_pred, nI_1, gPay_ne, hn, ht, ha, hb, hc, cl n, cl s, cl a, cl b, cl c]
  refine aj_iaload (q := 23) (f := 700) dX10_reckon_22 rfl lM_7 rfl (vp_in_nI (by omega) (by omega)) ?_
  try simp (decide := true) only [sw_eq, sw_ne, ne_eq, Nat.reduceEqDiff, not_false_eq_true, nI_pred, nI_1, gPay_ne, hn, ht, ha, hb, hc, cl n, cl s, cl a, cl b, cl c]
  refine aj_istore_n (q := 24) (i := 3) (ls' := [_, _, _, _, _]) dX10_reckon_23 rfl rfl (by decide) rfl ?_
  refine aj_aload_n (q := 25) (i := 0) dX10_reckon_24 rfl rfl rfl ?_
  refine aj_getR (q := 28) fl_X10_13 dX10_reckon_25 rfl lM_0 rfl ?_
  refine aj_iload_n (q := 29) (i := 1) dX10_reckon_28 rfl rfl rfl ?_
  refine aj_iaload (q := 30) (f := 100) dX10_reckon_29 rfl lM_1 rfl (vp_in_nI (by omega) (by omega)) ?_
  try simp (decide := true) only [sw_eq, sw_ne, ne_eq, Nat.reduceEqDiff, not_false_eq_true, nI_pred, nI_1, gPay_ne, hn, ht, ha, hb, hc, cl n, cl s, cl a, cl b, cl c]
  refine aj_istore (q := 32) (i := 4) (ls' := [_, _, _, _, _]) dX10_reckon_30 rfl (by decide) rfl ?_
  refine aj_iload (q := 34) (i := 4) dX10_reckon_32 rfl rfl ?_
  refine aj_iconst (q := 35) (v := 3) dX10_reckon_34 rfl (by decide) ?_
  refine aj_icmp_le (q := 38) (tgt := 49) dX10_reckon_35 rfl (by decide) (fun c => absurd c (by decide)) (fun _ => ?_)
  refine aj_iload_n (q := 39) (i := 3) dX10_reckon_38 rfl rfl rfl ?_
  refine aj_if_ne (q := 42) (tgt := 49) dX10_reckon_39 rfl (by decide) (fun c39_2 => ?_) (fun c39_2 => ?_)
  · refine aj_aload_n (q := 50) (i := 0) dX10_reckon_49 rfl rfl rfl ?_
    refine aj_getR (q := 53) fl_X10_32 dX10_reckon_50 rfl lM_0 rfl ?_
    refine aj_aload_n (q := 54) (i := 0) dX10_reckon_53 rfl rfl rfl ?_
    refine aj_getR (q := 57) fl_X10_17 dX10_reckon_54 rfl lM_0 rfl ?_
    refine aj_iload_n (q := 58) (i := 1) dX10_reckon_57 rfl rfl rfl ?_
    refine aj_iaload (q := 59) (f := 200) dX10_reckon_58 rfl lM_2 rfl (vp_in_nI (by omega) (by omega)) ?_
    try simp (decide := true) only [sw_eq, sw_ne, ne_eq, Nat.reduceEqDiff, not_false_eq_true, nI_pred, nI_1, gPay_ne, hn, ht, ha, hb, hc, cl n, cl s, cl a, cl b, cl c, c39_2]
    refine aj_iload (q := 61) (i := 4) dX10_reckon_59 rfl rfl ?_
    refine aj_iconst (q := 62) (v := 1) dX10_reckon_61 rfl (by decide) ?_
    refine aj_icmp_ne (q := 65) (tgt := 71) dX10_reckon_62 rfl (by decide) (fun _ => ?_) (fun c => absurd c (by decide))
    refine aj_iload (q := 73) (i := 4) dX10_reckon_71 rfl rfl ?_
    refine aj_iconst (q := 74) (v := 2) dX10_reckon_73 rfl (by decide) ?_
    refine aj_icmp_ne (q := 77) (tgt := 83) dX10_reckon_74 rfl (by decide) (fun _ => ?_) (fun c => absurd c (by decide))
    refine aj_iload (q := 85) (i := 4) dX10_reckon_83 rfl rfl ?_
    refine aj_iconst (q := 86) (v := 3) dX10_reckon_85 rfl (by decide) ?_
    refine aj_icmp_ne (q := 89) (tgt := 95) dX10_reckon_86 rfl (by decide) (fun _ => ?_) (fun c => absurd c (by decide))
    refine aj_iload (q := 97) (i := 4) dX10_reckon_95 rfl rfl ?_
    refine aj_iconst (q := 98) (v := 4) dX10_reckon_97 rfl (by decide) ?_
    refine aj_icmp_ne (q := 101) (tgt := 107) dX10_reckon_98 rfl (by decide) (fun c => absurd c (by decide)) (fun _ => ?_)
    refine aj_iload_n (q := 102) (i := 2) dX10_reckon_101 rfl rfl rfl ?_
    refine aj_iload_n (q := 103) (i := 3) dX10_reckon_102 rfl rfl rfl ?_
    refine aj_idiv (q := 104) dX10_reckon_103 rfl (by assumption) ?_
    refine aj_goto (tgt := 110) dX10_reckon_104 (by decide) ?_
    refine aj_iastore (q := 111) (f := 700) okM dX10_reckon_110 rfl lM_7 rfl (vp_in_nI (by omega) (by omega)) ?_
    refine aj_aload_n (q := 112) (i := 0) dX10_reckon_111 rfl rfl rfl ?_
    refine aj_iconst (q := 113) (v := 0) dX10_reckon_112 rfl (by decide) ?_
    refine aj_callV (q := 116) (As := [_]) cl_X10_118 mk_X10_comes dX10_reckon_113 rfl lM_0 rfl rfl (Nat.le_of_ble_eq_true rfl) (sp_X10_comes (n := n) (by simp (decide := true) only [sw_eq, sw_ne, ne_eq, Nat.reduceEqDiff, not_false_eq_true, gPay_ne, hn, c39_2]) ?_)
    refine aj_return dX10_reckon_116 rfl ?_
    first | contradiction | with_reducible exact hQ | (simp (decide := true) only [↓reduceIte, Bool.false_eq_true, bi_t, bi_f, sw_eq, sw_ne, ne_eq, Nat.reduceEqDiff, not_false_eq_true, nI_pred, nI_1, gPay_ne, hn, ht, ha, hb, hc, cl n, cl s, cl a, cl b, cl c, c39_2] at hQ ⊢; with_reducible exact hQ)
  · refine aj_aload_n (q := 43) (i := 0) dX10_reckon_42 rfl rfl rfl ?_
    refine aj_iconst (q := 44) (v := 4) dX10_reckon_43 rfl (by decide) ?_
    refine aj_iconst (q := 45) (v := 0) dX10_reckon_44 rfl (by decide) ?_
    refine aj_callV (q := 48) (As := [_, _]) cl_X10_149 mk_X10_throwing dX10_reckon_45 rfl lM_0 rfl rfl (Nat.le_of_ble_eq_true rfl) (sp_X10_throwing (n := n) (by simp (decide := true) only [sw_eq, sw_ne, ne_eq, Nat.reduceEqDiff, not_false_eq_true, gPay_ne, hn, c39_2]) ?_)
    refine aj_return dX10_reckon_48 rfl ?_
    first | contradiction | with_reducible exact hQ | (simp (decide := true) only [↓reduceIte, Bool.false_eq_true, bi_t, bi_f, sw_eq, sw_ne, ne_eq, Nat.reduceEqDiff, not_false_eq_true, nI_pred, nI_1, gPay_ne, hn, ht, ha, hb, hc, cl n, cl s, cl a, cl b, cl c, c39_2] at hQ ⊢; with_reducible exact hQ)
theorem sp_X10_reckon_5 {d : Nat} {S : Sx} {Q : Option Value → Sx → Prop} {n s a b c : Nat} (hn : S 30 0 = nI (n + 1)) (hnb : n + 1 < 180) (hsb : s < 120) (ht : S 100 s = 5) (ha : S 200 s = nI a) (hab : a < 8) (hb : S 300 s = nI b) (hbb : b < 8) (hc : S 400 s = nI c) (hcb : c < 8) (hQ : Q none (if S 700 c = 0 then gThrow S n 4 0 else gComes (sw S 700 a (S 700 b - S 700 b / S 700 c * S 700 c)) n 0)) : CC (d + 2) kX10_reckon layM [.ref 0, .int (nI s)] S Q := by
  refine cc_intro [some _, some _, none, none, none] (by decide) (cc_cat (by rfl)) (Nat.le_of_ble_eq_true rfl) (cc_ls (by rfl)) ?_
  refine aj_aload_n (q := 1) (i := 0) dX10_reckon_0 rfl rfl rfl ?_
  refine aj_getR (q := 4) fl_X10_32 dX10_reckon_1 rfl lM_0 rfl ?_
  refine aj_aload_n (q := 5) (i := 0) dX10_reckon_4 rfl rfl rfl ?_
  refine aj_getR (q := 8) fl_X10_20 dX10_reckon_5 rfl lM_0 rfl ?_
  refine aj_iload_n (q := 9) (i := 1) dX10_reckon_8 rfl rfl rfl ?_
  refine aj_iaload (q := 10) (f := 300) dX10_reckon_9 rfl lM_3 rfl (vp_in_nI (by omega) (by omega)) ?_
  try simp (decide := true) only [sw_eq, sw_ne, ne_eq, Nat.reduceEqDiff, not_false_eq_true, nI_pred, nI_1, gPay_ne, hn, ht, ha, hb, hc, cl n, cl s, cl a, cl b, cl c]
  refine aj_iaload (q := 11) (f := 700) dX10_reckon_10 rfl lM_7 rfl (vp_in_nI (by omega) (by omega)) ?_
  try simp (decide := true) only [sw_eq, sw_ne, ne_eq, Nat.reduceEqDiff, not_false_eq_true, nI_pred, nI_1, gPay_ne, hn, ht, ha, hb, hc, cl n, cl s, cl a, cl b, cl c]
  refine aj_istore_n (q := 12) (i := 2) (ls' := [_, _, _, _, _]) dX10_reckon_11 rfl rfl (by decide) rfl ?_
  refine aj_aload_n (q := 13) (i := 0) dX10_reckon_12 rfl rfl rfl ?_
  refine aj_getR (q := 16) fl_X10_32 dX10_reckon_13 rfl lM_0 rfl ?_
  refine aj_aload_n (q := 17) (i := 0) dX10_reckon_16 rfl rfl rfl ?_
  refine aj_getR (q := 20) fl_X10_23 dX10_reckon_17 rfl lM_0 rfl ?_
  refine aj_iload_n (q := 21) (i := 1) dX10_reckon_20 rfl rfl rfl ?_
  refine aj_iaload (q := 22) (f := 400) dX10_reckon_21 rfl lM_4 rfl (vp_in_nI (by omega) (by omega)) ?_
  try simp (decide := true) only [sw_eq, sw_ne, ne_eq, Nat.reduceEqDiff, not_false_eq_true, nI_pred, nI_1, gPay_ne, hn, ht, ha, hb, hc, cl n, cl s, cl a, cl b, cl c]
  refine aj_iaload (q := 23) (f := 700) dX10_reckon_22 rfl lM_7 rfl (vp_in_nI (by omega) (by omega)) ?_
  try simp (decide := true) only [sw_eq, sw_ne, ne_eq, Nat.reduceEqDiff, not_false_eq_true, nI_pred, nI_1, gPay_ne, hn, ht, ha, hb, hc, cl n, cl s, cl a, cl b, cl c]
  refine aj_istore_n (q := 24) (i := 3) (ls' := [_, _, _, _, _]) dX10_reckon_23 rfl rfl (by decide) rfl ?_
  refine aj_aload_n (q := 25) (i := 0) dX10_reckon_24 rfl rfl rfl ?_
  refine aj_getR (q := 28) fl_X10_13 dX10_reckon_25 rfl lM_0 rfl ?_
  refine aj_iload_n (q := 29) (i := 1) dX10_reckon_28 rfl rfl rfl ?_
  refine aj_iaload (q := 30) (f := 100) dX10_reckon_29 rfl lM_1 rfl (vp_in_nI (by omega) (by omega)) ?_
  try simp (decide := true) only [sw_eq, sw_ne, ne_eq, Nat.reduceEqDiff, not_false_eq_true, nI_pred, nI_1, gPay_ne, hn, ht, ha, hb, hc, cl n, cl s, cl a, cl b, cl c]
  refine aj_istore (q := 32) (i := 4) (ls' := [_, _, _, _, _]) dX10_reckon_30 rfl (by decide) rfl ?_
  refine aj_iload (q := 34) (i := 4) dX10_reckon_32 rfl rfl ?_
  refine aj_iconst (q := 35) (v := 3) dX10_reckon_34 rfl (by decide) ?_
  refine aj_icmp_le (q := 38) (tgt := 49) dX10_reckon_35 rfl (by decide) (fun c => absurd c (by decide)) (fun _ => ?_)
  refine aj_iload_n (q := 39) (i := 3) dX10_reckon_38 rfl rfl rfl ?_
  refine aj_if_ne (q := 42) (tgt := 49) dX10_reckon_39 rfl (by decide) (fun c39_2 => ?_) (fun c39_2 => ?_)
  · refine aj_aload_n (q := 50) (i := 0) dX10_reckon_49 rfl rfl rfl ?_
    refine aj_getR (q := 53) fl_X10_32 dX10_reckon_50 rfl lM_0 rfl ?_
    refine aj_aload_n (q := 54) (i := 0) dX10_reckon_53 rfl rfl rfl ?_
    refine aj_getR (q := 57) fl_X10_17 dX10_reckon_54 rfl lM_0 rfl ?_
    refine aj_iload_n (q := 58) (i := 1) dX10_reckon_57 rfl rfl rfl ?_
    refine aj_iaload (q := 59) (f := 200) dX10_reckon_58 rfl lM_2 rfl (vp_in_nI (by omega) (by omega)) ?_
    try simp (decide := true) only [sw_eq, sw_ne, ne_eq, Nat.reduceEqDiff, not_false_eq_true, nI_pred, nI_1, gPay_ne, hn, ht, ha, hb, hc, cl n, cl s, cl a, cl b, cl c, c39_2]
    refine aj_iload (q := 61) (i := 4) dX10_reckon_59 rfl rfl ?_
    refine aj_iconst (q := 62) (v := 1) dX10_reckon_61 rfl (by decide) ?_
    refine aj_icmp_ne (q := 65) (tgt := 71) dX10_reckon_62 rfl (by decide) (fun _ => ?_) (fun c => absurd c (by decide))
    refine aj_iload (q := 73) (i := 4) dX10_reckon_71 rfl rfl ?_
    refine aj_iconst (q := 74) (v := 2) dX10_reckon_73 rfl (by decide) ?_
    refine aj_icmp_ne (q := 77) (tgt := 83) dX10_reckon_74 rfl (by decide) (fun _ => ?_) (fun c => absurd c (by decide))
    refine aj_iload (q := 85) (i := 4) dX10_reckon_83 rfl rfl ?_
    refine aj_iconst (q := 86) (v := 3) dX10_reckon_85 rfl (by decide) ?_
    refine aj_icmp_ne (q := 89) (tgt := 95) dX10_reckon_86 rfl (by decide) (fun _ => ?_) (fun c => absurd c (by decide))
    refine aj_iload (q := 97) (i := 4) dX10_reckon_95 rfl rfl ?_
    refine aj_iconst (q := 98) (v := 4) dX10_reckon_97 rfl (by decide) ?_
    refine aj_icmp_ne (q := 101) (tgt := 107) dX10_reckon_98 rfl (by decide) (fun _ => ?_) (fun c => absurd c (by decide))
    refine aj_iload_n (q := 108) (i := 2) dX10_reckon_107 rfl rfl rfl ?_
    refine aj_iload_n (q := 109) (i := 3) dX10_reckon_108 rfl rfl rfl ?_
    refine aj_irem (q := 110) dX10_reckon_109 rfl (by assumption) ?_
    refine aj_iastore (q := 111) (f := 700) okM dX10_reckon_110 rfl lM_7 rfl (vp_in_nI (by omega) (by omega)) ?_
    refine aj_aload_n (q := 112) (i := 0) dX10_reckon_111 rfl rfl rfl ?_
    refine aj_iconst (q := 113) (v := 0) dX10_reckon_112 rfl (by decide) ?_
    refine aj_callV (q := 116) (As := [_]) cl_X10_118 mk_X10_comes dX10_reckon_113 rfl lM_0 rfl rfl (Nat.le_of_ble_eq_true rfl) (sp_X10_comes (n := n) (by simp (decide := true) only [sw_eq, sw_ne, ne_eq, Nat.reduceEqDiff, not_false_eq_true, gPay_ne, hn, c39_2]) ?_)
    refine aj_return dX10_reckon_116 rfl ?_
    first | contradiction | with_reducible exact hQ | (simp (decide := true) only [↓reduceIte, Bool.false_eq_true, bi_t, bi_f, sw_eq, sw_ne, ne_eq, Nat.reduceEqDiff, not_false_eq_true, nI_pred, nI_1, gPay_ne, hn, ht, ha, hb, hc, cl n, cl s, cl a, cl b, cl c, c39_2] at hQ ⊢; with_reducible exact hQ)
  · refine aj_aload_n (q := 43) (i := 0) dX10_reckon_42 rfl rfl rfl ?_
    refine aj_iconst (q := 44) (v := 4) dX10_reckon_43 rfl (by decide) ?_
    refine aj_iconst (q := 45) (v := 0) dX10_reckon_44 rfl (by decide) ?_
    refine aj_callV (q := 48) (As := [_, _]) cl_X10_149 mk_X10_throwing dX10_reckon_45 rfl lM_0 rfl rfl (Nat.le_of_ble_eq_true rfl) (sp_X10_throwing (n := n) (by simp (decide := true) only [sw_eq, sw_ne, ne_eq, Nat.reduceEqDiff, not_false_eq_true, gPay_ne, hn, c39_2]) ?_)
    refine aj_return dX10_reckon_48 rfl ?_
    first | contradiction | with_reducible exact hQ | (simp (decide := true) only [↓reduceIte, Bool.false_eq_true, bi_t, bi_f, sw_eq, sw_ne, ne_eq, Nat.reduceEqDiff, not_false_eq_true, nI_pred, nI_1, gPay_ne, hn, ht, ha, hb, hc, cl n, cl s, cl a, cl b, cl c, c39_2] at hQ ⊢; with_reducible exact hQ)
theorem sp_X10_has {d : Nat} {S : Sx} {Q : Option Value → Sx → Prop} {i : Int32} {n r : Nat} (hn : S 30 0 = nI (n + 1)) (hnb : n + 1 < 180) (hr : r < 4) (hst : S 37 0 = -1) (hx : ¬ S 800 r = -1 → vp_in (S 800 r) 300) (hQ : Q (some (.int (bi (gHasB S r i)))) (gHasS S n r i)) : CC (d + 2) kX10_has layM [.ref 0, .int (nI r), .int i] S Q := by
  refine cc_intro [some _, some _, some _, none] (by decide) (cc_cat (by rfl)) (Nat.le_of_ble_eq_true rfl) (cc_ls (by rfl)) ?_
  refine aj_aload_n (q := 1) (i := 0) dX10_has_0 rfl rfl rfl ?_
  refine aj_getR (q := 4) fl_X10_35 dX10_has_1 rfl lM_0 rfl ?_
  refine aj_iload_n (q := 5) (i := 1) dX10_has_4 rfl rfl rfl ?_
  refine aj_iaload (q := 6) (f := 800) dX10_has_5 rfl lM_8 rfl (vp_in_nI (by omega) (by omega)) ?_
  try simp (decide := true) only [sw_eq, sw_ne, ne_eq, Nat.reduceEqDiff, not_false_eq_true, nI_pred, nI_1, gPay_ne, hn, hst, cl n, cl r]
  refine aj_istore_n (q := 7) (i := 3) (ls' := [_, _, _, _]) dX10_has_6 rfl rfl (by decide) rfl ?_
  refine aj_iload_n (q := 8) (i := 3) dX10_has_7 rfl rfl rfl ?_
  refine aj_iconst (q := 9) (v := (-1)) dX10_has_8 rfl (by decide) ?_
  refine aj_icmp_ne (q := 12) (tgt := 21) dX10_has_9 rfl (by decide) (fun c9_1 => ?_) (fun c9_1 => ?_)
  · refine aj_iload_n (q := 22) (i := 2) dX10_has_21 rfl rfl rfl ?_
    refine aj_if_lt (q := 25) (tgt := 35) dX10_has_22 rfl (by decide) (fun c22_2 => ?_) (fun c22_2 => ?_)
    · refine aj_aload_n (q := 36) (i := 0) dX10_has_35 rfl rfl rfl ?_
      refine aj_iconst (q := 37) (v := 2) dX10_has_36 rfl (by decide) ?_
      refine aj_iconst (q := 38) (v := 0) dX10_has_37 rfl (by decide) ?_
      refine aj_callV (q := 41) (As := [_, _]) cl_X10_149 mk_X10_throwing dX10_has_38 rfl lM_0 rfl rfl (Nat.le_of_ble_eq_true rfl) (sp_X10_throwing (n := n) (by simp (decide := true) only [sw_eq, sw_ne, ne_eq, Nat.reduceEqDiff, not_false_eq_true, gPay_ne, hn, c9_1, c22_2]) ?_)
      refine aj_aload_n (q := 42) (i := 0) dX10_has_41 rfl rfl rfl ?_
      refine aj_getI (q := 45) (f := 37) fl_X10_109 dX10_has_42 rfl lM_0 rfl rfl ?_
      try simp (decide := true) only [sw_eq, sw_ne, ne_eq, Nat.reduceEqDiff, not_false_eq_true, nI_pred, nI_1, gPay_ne, hn, hst, cl n, cl r, c9_1, c22_2]
      refine aj_iconst (q := 46) (v := (-1)) dX10_has_45 rfl (by decide) ?_
      refine aj_icmp_ne (q := 49) (tgt := 53) dX10_has_46 rfl (by decide) (fun c46_3 => ?_) (fun c46_3 => ?_)
      · refine aj_iconst (q := 54) (v := 0) dX10_has_53 rfl (by decide) ?_
        refine aj_zreturn dX10_has_54 rfl (by decide) ?_
        first | contradiction | (have hz := inb_neg (n := S 1000 (S 800 r).toNatClampNeg) (show i < 0 by assumption); simp (decide := true) only [gHasS, gHasB, hz, gThrow, gComes, ↓reduceIte, Bool.false_eq_true, bi_t, bi_f, sw_eq, sw_ne, ne_eq, Nat.reduceEqDiff, not_false_eq_true, c9_1, c22_2, c46_3] at hQ ⊢; with_reducible exact hQ) | (have hz := inb_ge (x := i) (n := S 1000 (S 800 r).toNatClampNeg) (Int32.not_lt.mp (by assumption)); simp (decide := true) only [gHasS, gHasB, hz, gThrow, gComes, ↓reduceIte, Bool.false_eq_true, bi_t, bi_f, sw_eq, sw_ne, ne_eq, Nat.reduceEqDiff, not_false_eq_true, c9_1, c22_2, c46_3] at hQ ⊢; with_reducible exact hQ) | (have hz := inb_in (x := i) (n := S 1000 (S 800 r).toNatClampNeg) (by assumption) (Int32.not_le.mpr (by assumption)); simp (decide := true) only [gHasS, gHasB, hz, gThrow, gComes, ↓reduceIte, Bool.false_eq_true, bi_t, bi_f, sw_eq, sw_ne, ne_eq, Nat.reduceEqDiff, not_false_eq_true, c9_1, c22_2, c46_3] at hQ ⊢; with_reducible exact hQ) | (simp (decide := true) only [gHasS, gHasB, gThrow, gComes, ↓reduceIte, Bool.false_eq_true, bi_t, bi_f, sw_eq, sw_ne, ne_eq, Nat.reduceEqDiff, not_false_eq_true, c9_1, c22_2, c46_3] at hQ ⊢; with_reducible exact hQ) | (exfalso; simp (decide := true) only [gThrow, gComes, sw_eq, sw_ne, ne_eq, Nat.reduceEqDiff, not_false_eq_true, hst] at *; done)
      · refine aj_iconst (q := 50) (v := 1) dX10_has_49 rfl (by decide) ?_
        refine aj_goto (tgt := 54) dX10_has_50 (by decide) ?_
        refine aj_zreturn dX10_has_54 rfl (by decide) ?_
        first | contradiction | (have hz := inb_neg (n := S 1000 (S 800 r).toNatClampNeg) (show i < 0 by assumption); simp (decide := true) only [gHasS, gHasB, hz, gThrow, gComes, ↓reduceIte, Bool.false_eq_true, bi_t, bi_f, sw_eq, sw_ne, ne_eq, Nat.reduceEqDiff, not_false_eq_true, c9_1, c22_2, c46_3] at hQ ⊢; with_reducible exact hQ) | (have hz := inb_ge (x := i) (n := S 1000 (S 800 r).toNatClampNeg) (Int32.not_lt.mp (by assumption)); simp (decide := true) only [gHasS, gHasB, hz, gThrow, gComes, ↓reduceIte, Bool.false_eq_true, bi_t, bi_f, sw_eq, sw_ne, ne_eq, Nat.reduceEqDiff, not_false_eq_true, c9_1, c22_2, c46_3] at hQ ⊢; with_reducible exact hQ) | (have hz := inb_in (x := i) (n := S 1000 (S 800 r).toNatClampNeg) (by assumption) (Int32.not_le.mpr (by assumption)); simp (decide := true) only [gHasS, gHasB, hz, gThrow, gComes, ↓reduceIte, Bool.false_eq_true, bi_t, bi_f, sw_eq, sw_ne, ne_eq, Nat.reduceEqDiff, not_false_eq_true, c9_1, c22_2, c46_3] at hQ ⊢; with_reducible exact hQ) | (simp (decide := true) only [gHasS, gHasB, gThrow, gComes, ↓reduceIte, Bool.false_eq_true, bi_t, bi_f, sw_eq, sw_ne, ne_eq, Nat.reduceEqDiff, not_false_eq_true, c9_1, c22_2, c46_3] at hQ ⊢; with_reducible exact hQ) | (exfalso; simp (decide := true) only [gThrow, gComes, sw_eq, sw_ne, ne_eq, Nat.reduceEqDiff, not_false_eq_true, hst] at *; done)
    · refine aj_iload_n (q := 26) (i := 2) dX10_has_25 rfl rfl rfl ?_
      refine aj_aload_n (q := 27) (i := 0) dX10_has_26 rfl rfl rfl ?_
      refine aj_getR (q := 30) fl_X10_41 dX10_has_27 rfl lM_0 rfl ?_
      refine aj_iload_n (q := 31) (i := 3) dX10_has_30 rfl rfl rfl ?_
      refine aj_iaload (q := 32) (f := 1000) dX10_has_31 rfl lM_10 rfl (hx (by assumption)) ?_
      try simp (decide := true) only [sw_eq, sw_ne, ne_eq, Nat.reduceEqDiff, not_false_eq_true, nI_pred, nI_1, gPay_ne, hn, hst, cl n, cl r, c9_1, c22_2]
      refine aj_icmp_lt (q := 35) (tgt := 41) dX10_has_32 rfl (by decide) (fun c32_4 => ?_) (fun c32_4 => ?_)
      · refine aj_aload_n (q := 42) (i := 0) dX10_has_41 rfl rfl rfl ?_
        refine aj_getI (q := 45) (f := 37) fl_X10_109 dX10_has_42 rfl lM_0 rfl rfl ?_
        try simp (decide := true) only [sw_eq, sw_ne, ne_eq, Nat.reduceEqDiff, not_false_eq_true, nI_pred, nI_1, gPay_ne, hn, hst, cl n, cl r, c9_1, c22_2, c32_4]
        refine aj_iconst (q := 46) (v := (-1)) dX10_has_45 rfl (by decide) ?_
        refine aj_icmp_ne (q := 49) (tgt := 53) dX10_has_46 rfl (by decide) (fun c46_5 => ?_) (fun c46_5 => ?_)
        · refine aj_iconst (q := 54) (v := 0) dX10_has_53 rfl (by decide) ?_
          refine aj_zreturn dX10_has_54 rfl (by decide) ?_
          first | contradiction | (have hz := inb_neg (n := S 1000 (S 800 r).toNatClampNeg) (show i < 0 by assumption); simp (decide := true) only [gHasS, gHasB, hz, gThrow, gComes, ↓reduceIte, Bool.false_eq_true, bi_t, bi_f, sw_eq, sw_ne, ne_eq, Nat.reduceEqDiff, not_false_eq_true, c9_1, c22_2, c32_4, c46_5] at hQ ⊢; with_reducible exact hQ) | (have hz := inb_ge (x := i) (n := S 1000 (S 800 r).toNatClampNeg) (Int32.not_lt.mp (by assumption)); simp (decide := true) only [gHasS, gHasB, hz, gThrow, gComes, ↓reduceIte, Bool.false_eq_true, bi_t, bi_f, sw_eq, sw_ne, ne_eq, Nat.reduceEqDiff, not_false_eq_true, c9_1, c22_2, c32_4, c46_5] at hQ ⊢; with_reducible exact hQ) | (have hz := inb_in (x := i) (n := S 1000 (S 800 r).toNatClampNeg) (by assumption) (Int32.not_le.mpr (by assumption)); simp (decide := true) only [gHasS, gHasB, hz, gThrow, gComes, ↓reduceIte, Bool.false_eq_true, bi_t, bi_f, sw_eq, sw_ne, ne_eq, Nat.reduceEqDiff, not_false_eq_true, c9_1, c22_2, c32_4, c46_5] at hQ ⊢; with_reducible exact hQ) | (simp (decide := true) only [gHasS, gHasB, gThrow, gComes, ↓reduceIte, Bool.false_eq_true, bi_t, bi_f, sw_eq, sw_ne, ne_eq, Nat.reduceEqDiff, not_false_eq_true, c9_1, c22_2, c32_4, c46_5] at hQ ⊢; with_reducible exact hQ) | (exfalso; simp (decide := true) only [gThrow, gComes, sw_eq, sw_ne, ne_eq, Nat.reduceEqDiff, not_false_eq_true, hst] at *; done)
        · refine aj_iconst (q := 50) (v := 1) dX10_has_49 rfl (by decide) ?_
          refine aj_goto (tgt := 54) dX10_has_50 (by decide) ?_
          refine aj_zreturn dX10_has_54 rfl (by decide) ?_
          first | contradiction | (have hz := inb_neg (n := S 1000 (S 800 r).toNatClampNeg) (show i < 0 by assumption); simp (decide := true) only [gHasS, gHasB, hz, gThrow, gComes, ↓reduceIte, Bool.false_eq_true, bi_t, bi_f, sw_eq, sw_ne, ne_eq, Nat.reduceEqDiff, not_false_eq_true, c9_1, c22_2, c32_4, c46_5] at hQ ⊢; with_reducible exact hQ) | (have hz := inb_ge (x := i) (n := S 1000 (S 800 r).toNatClampNeg) (Int32.not_lt.mp (by assumption)); simp (decide := true) only [gHasS, gHasB, hz, gThrow, gComes, ↓reduceIte, Bool.false_eq_true, bi_t, bi_f, sw_eq, sw_ne, ne_eq, Nat.reduceEqDiff, not_false_eq_true, c9_1, c22_2, c32_4, c46_5] at hQ ⊢; with_reducible exact hQ) | (have hz := inb_in (x := i) (n := S 1000 (S 800 r).toNatClampNeg) (by assumption) (Int32.not_le.mpr (by assumption)); simp (decide := true) only [gHasS, gHasB, hz, gThrow, gComes, ↓reduceIte, Bool.false_eq_true, bi_t, bi_f, sw_eq, sw_ne, ne_eq, Nat.reduceEqDiff, not_false_eq_true, c9_1, c22_2, c32_4, c46_5] at hQ ⊢; with_reducible exact hQ) | (simp (decide := true) only [gHasS, gHasB, gThrow, gComes, ↓reduceIte, Bool.false_eq_true, bi_t, bi_f, sw_eq, sw_ne, ne_eq, Nat.reduceEqDiff, not_false_eq_true, c9_1, c22_2, c32_4, c46_5] at hQ ⊢; with_reducible exact hQ) | (exfalso; simp (decide := true) only [gThrow, gComes, sw_eq, sw_ne, ne_eq, Nat.reduceEqDiff, not_false_eq_true, hst] at *; done)
      · refine aj_aload_n (q := 36) (i := 0) dX10_has_35 rfl rfl rfl ?_
        refine aj_iconst (q := 37) (v := 2) dX10_has_36 rfl (by decide) ?_
        refine aj_iconst (q := 38) (v := 0) dX10_has_37 rfl (by decide) ?_
        refine aj_callV (q := 41) (As := [_, _]) cl_X10_149 mk_X10_throwing dX10_has_38 rfl lM_0 rfl rfl (Nat.le_of_ble_eq_true rfl) (sp_X10_throwing (n := n) (by simp (decide := true) only [sw_eq, sw_ne, ne_eq, Nat.reduceEqDiff, not_false_eq_true, gPay_ne, hn, c9_1, c22_2, c32_4]) ?_)
        refine aj_aload_n (q := 42) (i := 0) dX10_has_41 rfl rfl rfl ?_
        refine aj_getI (q := 45) (f := 37) fl_X10_109 dX10_has_42 rfl lM_0 rfl rfl ?_
        try simp (decide := true) only [sw_eq, sw_ne, ne_eq, Nat.reduceEqDiff, not_false_eq_true, nI_pred, nI_1, gPay_ne, hn, hst, cl n, cl r, c9_1, c22_2, c32_4]
        refine aj_iconst (q := 46) (v := (-1)) dX10_has_45 rfl (by decide) ?_
        refine aj_icmp_ne (q := 49) (tgt := 53) dX10_has_46 rfl (by decide) (fun c46_6 => ?_) (fun c46_6 => ?_)
        · refine aj_iconst (q := 54) (v := 0) dX10_has_53 rfl (by decide) ?_
          refine aj_zreturn dX10_has_54 rfl (by decide) ?_
          first | contradiction | (have hz := inb_neg (n := S 1000 (S 800 r).toNatClampNeg) (show i < 0 by assumption); simp (decide := true) only [gHasS, gHasB, hz, gThrow, gComes, ↓reduceIte, Bool.false_eq_true, bi_t, bi_f, sw_eq, sw_ne, ne_eq, Nat.reduceEqDiff, not_false_eq_true, c9_1, c22_2, c32_4, c46_6] at hQ ⊢; with_reducible exact hQ) | (have hz := inb_ge (x := i) (n := S 1000 (S 800 r).toNatClampNeg) (Int32.not_lt.mp (by assumption)); simp (decide := true) only [gHasS, gHasB, hz, gThrow, gComes, ↓reduceIte, Bool.false_eq_true, bi_t, bi_f, sw_eq, sw_ne, ne_eq, Nat.reduceEqDiff, not_false_eq_true, c9_1, c22_2, c32_4, c46_6] at hQ ⊢; with_reducible exact hQ) | (have hz := inb_in (x := i) (n := S 1000 (S 800 r).toNatClampNeg) (by assumption) (Int32.not_le.mpr (by assumption)); simp (decide := true) only [gHasS, gHasB, hz, gThrow, gComes, ↓reduceIte, Bool.false_eq_true, bi_t, bi_f, sw_eq, sw_ne, ne_eq, Nat.reduceEqDiff, not_false_eq_true, c9_1, c22_2, c32_4, c46_6] at hQ ⊢; with_reducible exact hQ) | (simp (decide := true) only [gHasS, gHasB, gThrow, gComes, ↓reduceIte, Bool.false_eq_true, bi_t, bi_f, sw_eq, sw_ne, ne_eq, Nat.reduceEqDiff, not_false_eq_true, c9_1, c22_2, c32_4, c46_6] at hQ ⊢; with_reducible exact hQ) | (exfalso; simp (decide := true) only [gThrow, gComes, sw_eq, sw_ne, ne_eq, Nat.reduceEqDiff, not_false_eq_true, hst] at *; done)
        · refine aj_iconst (q := 50) (v := 1) dX10_has_49 rfl (by decide) ?_
          refine aj_goto (tgt := 54) dX10_has_50 (by decide) ?_
          refine aj_zreturn dX10_has_54 rfl (by decide) ?_
          first | contradiction | (have hz := inb_neg (n := S 1000 (S 800 r).toNatClampNeg) (show i < 0 by assumption); simp (decide := true) only [gHasS, gHasB, hz, gThrow, gComes, ↓reduceIte, Bool.false_eq_true, bi_t, bi_f, sw_eq, sw_ne, ne_eq, Nat.reduceEqDiff, not_false_eq_true, c9_1, c22_2, c32_4, c46_6] at hQ ⊢; with_reducible exact hQ) | (have hz := inb_ge (x := i) (n := S 1000 (S 800 r).toNatClampNeg) (Int32.not_lt.mp (by assumption)); simp (decide := true) only [gHasS, gHasB, hz, gThrow, gComes, ↓reduceIte, Bool.false_eq_true, bi_t, bi_f, sw_eq, sw_ne, ne_eq, Nat.reduceEqDiff, not_false_eq_true, c9_1, c22_2, c32_4, c46_6] at hQ ⊢; with_reducible exact hQ) | (have hz := inb_in (x := i) (n := S 1000 (S 800 r).toNatClampNeg) (by assumption) (Int32.not_le.mpr (by assumption)); simp (decide := true) only [gHasS, gHasB, hz, gThrow, gComes, ↓reduceIte, Bool.false_eq_true, bi_t, bi_f, sw_eq, sw_ne, ne_eq, Nat.reduceEqDiff, not_false_eq_true, c9_1, c22_2, c32_4, c46_6] at hQ ⊢; with_reducible exact hQ) | (simp (decide := true) only [gHasS, gHasB, gThrow, gComes, ↓reduceIte, Bool.false_eq_true, bi_t, bi_f, sw_eq, sw_ne, ne_eq, Nat.reduceEqDiff, not_false_eq_true, c9_1, c22_2, c32_4, c46_6] at hQ ⊢; with_reducible exact hQ) | (exfalso; simp (decide := true) only [gThrow, gComes, sw_eq, sw_ne, ne_eq, Nat.reduceEqDiff, not_false_eq_true, hst] at *; done)
  · refine aj_aload_n (q := 13) (i := 0) dX10_has_12 rfl rfl rfl ?_
    refine aj_iconst (q := 14) (v := 1) dX10_has_13 rfl (by decide) ?_
    refine aj_iconst (q := 15) (v := 0) dX10_has_14 rfl (by decide) ?_
    refine aj_callV (q := 18) (As := [_, _]) cl_X10_149 mk_X10_throwing dX10_has_15 rfl lM_0 rfl rfl (Nat.le_of_ble_eq_true rfl) (sp_X10_throwing (n := n) (by simp (decide := true) only [sw_eq, sw_ne, ne_eq, Nat.reduceEqDiff, not_false_eq_true, gPay_ne, hn, c9_1]) ?_)
    refine aj_goto (tgt := 41) dX10_has_18 (by decide) ?_
    refine aj_aload_n (q := 42) (i := 0) dX10_has_41 rfl rfl rfl ?_
    refine aj_getI (q := 45) (f := 37) fl_X10_109 dX10_has_42 rfl lM_0 rfl rfl ?_
    try simp (decide := true) only [sw_eq, sw_ne, ne_eq, Nat.reduceEqDiff, not_false_eq_true, nI_pred, nI_1, gPay_ne, hn, hst, cl n, cl r, c9_1]
    refine aj_iconst (q := 46) (v := (-1)) dX10_has_45 rfl (by decide) ?_
    refine aj_icmp_ne (q := 49) (tgt := 53) dX10_has_46 rfl (by decide) (fun c46_7 => ?_) (fun c46_7 => ?_)
    · refine aj_iconst (q := 54) (v := 0) dX10_has_53 rfl (by decide) ?_
      refine aj_zreturn dX10_has_54 rfl (by decide) ?_
      first | contradiction | (have hz := inb_neg (n := S 1000 (S 800 r).toNatClampNeg) (show i < 0 by assumption); simp (decide := true) only [gHasS, gHasB, hz, gThrow, gComes, ↓reduceIte, Bool.false_eq_true, bi_t, bi_f, sw_eq, sw_ne, ne_eq, Nat.reduceEqDiff, not_false_eq_true, c9_1, c46_7] at hQ ⊢; with_reducible exact hQ) | (have hz := inb_ge (x := i) (n := S 1000 (S 800 r).toNatClampNeg) (Int32.not_lt.mp (by assumption)); simp (decide := true) only [gHasS, gHasB, hz, gThrow, gComes, ↓reduceIte, Bool.false_eq_true, bi_t, bi_f, sw_eq, sw_ne, ne_eq, Nat.reduceEqDiff, not_false_eq_true, c9_1, c46_7] at hQ ⊢; with_reducible exact hQ) | (have hz := inb_in (x := i) (n := S 1000 (S 800 r).toNatClampNeg) (by assumption) (Int32.not_le.mpr (by assumption)); simp (decide := true) only [gHasS, gHasB, hz, gThrow, gComes, ↓reduceIte, Bool.false_eq_true, bi_t, bi_f, sw_eq, sw_ne, ne_eq, Nat.reduceEqDiff, not_false_eq_true, c9_1, c46_7] at hQ ⊢; with_reducible exact hQ) | (simp (decide := true) only [gHasS, gHasB, gThrow, gComes, ↓reduceIte, Bool.false_eq_true, bi_t, bi_f, sw_eq, sw_ne, ne_eq, Nat.reduceEqDiff, not_false_eq_true, c9_1, c46_7] at hQ ⊢; with_reducible exact hQ) | (exfalso; simp (decide := true) only [gThrow, gComes, sw_eq, sw_ne, ne_eq, Nat.reduceEqDiff, not_false_eq_true, hst] at *; done)
    · refine aj_iconst (q := 50) (v := 1) dX10_has_49 rfl (by decide) ?_
      refine aj_goto (tgt := 54) dX10_has_50 (by decide) ?_
      refine aj_zreturn dX10_has_54 rfl (by decide) ?_
      first | contradiction | (have hz := inb_neg (n := S 1000 (S 800 r).toNatClampNeg) (show i < 0 by assumption); simp (decide := true) only [gHasS, gHasB, hz, gThrow, gComes, ↓reduceIte, Bool.false_eq_true, bi_t, bi_f, sw_eq, sw_ne, ne_eq, Nat.reduceEqDiff, not_false_eq_true, c9_1, c46_7] at hQ ⊢; with_reducible exact hQ) | (have hz := inb_ge (x := i) (n := S 1000 (S 800 r).toNatClampNeg) (Int32.not_lt.mp (by assumption)); simp (decide := true) only [gHasS, gHasB, hz, gThrow, gComes, ↓reduceIte, Bool.false_eq_true, bi_t, bi_f, sw_eq, sw_ne, ne_eq, Nat.reduceEqDiff, not_false_eq_true, c9_1, c46_7] at hQ ⊢; with_reducible exact hQ) | (have hz := inb_in (x := i) (n := S 1000 (S 800 r).toNatClampNeg) (by assumption) (Int32.not_le.mpr (by assumption)); simp (decide := true) only [gHasS, gHasB, hz, gThrow, gComes, ↓reduceIte, Bool.false_eq_true, bi_t, bi_f, sw_eq, sw_ne, ne_eq, Nat.reduceEqDiff, not_false_eq_true, c9_1, c46_7] at hQ ⊢; with_reducible exact hQ) | (simp (decide := true) only [gHasS, gHasB, gThrow, gComes, ↓reduceIte, Bool.false_eq_true, bi_t, bi_f, sw_eq, sw_ne, ne_eq, Nat.reduceEqDiff, not_false_eq_true, c9_1, c46_7] at hQ ⊢; with_reducible exact hQ) | (exfalso; simp (decide := true) only [gThrow, gComes, sw_eq, sw_ne, ne_eq, Nat.reduceEqDiff, not_false_eq_true, hst] at *; done)
