theorem cl (n : Nat) (h : n < 2000000000 := by omega) : (nI n).toNatClampNeg = n := nI_clamp (by omega)
def gPush (S : Sx) (n : Nat) (s : Int32) : Sx := sw (sw (sw (sw S 1600 n s) 1700 n 0) 30 0 (nI (n + 1))) 37 0 (-1)
def gComes (S : Sx) (n : Nat) (t : Int32) : Sx := sw (sw S 30 0 (nI n)) 37 0 t
def gThrow (S : Sx) (n : Nat) (k x : Int32) : Sx := gComes (sw (sw S 27 0 k) 28 0 x) n 2
def gNote (S : Sx) (s : Int32) : Sx := if S 21 0 = 30 then S else sw (sw S 1400 (S 21 0).toNatClampNeg s) 21 0 (S 21 0 + 1)
/-- a frame i is left -/
def gLv1 (S : Sx) (i s : Nat) : Sx := if S 100 s = 20 then (if S 1700 i = 1 then sw S 900 (S 200 s).toNatClampNeg (S 900 (S 200 s).toNatClampNeg - 1) else S) else S
def gLv2 (S : Sx) (i s : Nat) : Sx := if S 100 s = 15 then (if S 1700 i = 1 then sw S 36 0 (S 36 0 - 1) else S) else S
def gLeave (S : Sx) (i s : Nat) : Sx := gLv2 (gLv1 S i s) i s
theorem sp_X10_isIn {d : Nat} {S : Sx} {Q : Option Value → Sx → Prop} {x y : Int32}   (hQ : Q (some (.int (bi (inb x y)))) (S)) : CC d kX10_isIn layM [.int x, .int y] S Q := by
  refine cc_intro [some _, some _] (by decide) (cc_cat (by rfl)) (Nat.le_of_ble_eq_true rfl) (cc_ls (by rfl)) ?_
  refine aj_iload_n (q := 1) (i := 0) dX10_isIn_0 rfl rfl rfl ?_
  refine aj_if_lt (q := 4) (tgt := 13) dX10_isIn_1 rfl (by decide) (fun c1_1 => ?_) (fun c1_1 => ?_)
  · refine aj_iconst (q := 14) (v := 0) dX10_isIn_13 rfl (by decide) ?_
    refine aj_zreturn dX10_isIn_14 rfl (by decide) ?_
    first | (rw [inb_neg (by assumption)] at hQ; exact hQ) | (rw [inb_ge (by assumption)] at hQ; exact hQ) | (rw [inb_in (by assumption) (by assumption)] at hQ; exact hQ)
  · refine aj_iload_n (q := 5) (i := 0) dX10_isIn_4 rfl rfl rfl ?_
    refine aj_iload_n (q := 6) (i := 1) dX10_isIn_5 rfl rfl rfl ?_
    refine aj_icmp_ge (q := 9) (tgt := 13) dX10_isIn_6 rfl (by decide) (fun c6_2 => ?_) (fun c6_2 => ?_)
    · refine aj_iconst (q := 14) (v := 0) dX10_isIn_13 rfl (by decide) ?_
      refine aj_zreturn dX10_isIn_14 rfl (by decide) ?_
      first | (rw [inb_neg (by assumption)] at hQ; exact hQ) | (rw [inb_ge (by assumption)] at hQ; exact hQ) | (rw [inb_in (by assumption) (by assumption)] at hQ; exact hQ)
    · refine aj_iconst (q := 10) (v := 1) dX10_isIn_9 rfl (by decide) ?_
      refine aj_goto (tgt := 14) dX10_isIn_10 (by decide) ?_
      refine aj_zreturn dX10_isIn_14 rfl (by decide) ?_
      first | (rw [inb_neg (by assumption)] at hQ; exact hQ) | (rw [inb_ge (by assumption)] at hQ; exact hQ) | (rw [inb_in (by assumption) (by assumption)] at hQ; exact hQ)
theorem sp_X10_isStatement {d : Nat} {S : Sx} {Q : Option Value → Sx → Prop} {x : Int32}   (hQ : Q (some (.int (bi (inb x (S 1 0))))) (S)) : CC (d + 1) kX10_isStatement layM [.ref 0, .int x] S Q := by
  refine cc_intro [some _, some _] (by decide) (cc_cat (by rfl)) (Nat.le_of_ble_eq_true rfl) (cc_ls (by rfl)) ?_
  refine aj_iload_n (q := 1) (i := 1) dX10_isStatement_0 rfl rfl rfl ?_
  refine aj_aload_n (q := 2) (i := 0) dX10_isStatement_1 rfl rfl rfl ?_
  refine aj_getI (q := 5) (f := 1) fl_X10_83 dX10_isStatement_2 rfl lM_0 rfl rfl ?_
  try simp only [sw_eq, sw_ne, ne_eq, Nat.reduceEqDiff, not_false_eq_true, nI_pred, nI_1]
  refine aj_callS (q := 8) (As := [_, _]) cl_X10_86 mk_X10_isIn dX10_isStatement_5 rfl rfl (Nat.le_of_ble_eq_true rfl) (sp_X10_isIn ?_)
  refine aj_zreturn dX10_isStatement_8 rfl (bi_nar _) ?_
  first | with_reducible exact hQ | (simp (decide := true) only [↓reduceIte, sw_eq, sw_ne, ne_eq, Nat.reduceEqDiff, not_false_eq_true, Bool.false_eq_true, bi_t, bi_f, nI_1, nI_pred, ] at hQ ⊢; with_reducible exact hQ)
theorem sp_X10_thrown {d : Nat} {S : Sx} {Q : Option Value → Sx → Prop}   (hQ : Q (some (.int (S 0 0))) (S)) : CC d kX10_thrown layM [.ref 0] S Q := by
  refine cc_intro [some _] (by decide) (cc_cat (by rfl)) (Nat.le_of_ble_eq_true rfl) (cc_ls (by rfl)) ?_
  refine aj_aload_n (q := 1) (i := 0) dX10_thrown_0 rfl rfl rfl ?_
  refine aj_getI (q := 4) (f := 0) fl_X10_1 dX10_thrown_1 rfl lM_0 rfl rfl ?_
  try simp only [sw_eq, sw_ne, ne_eq, Nat.reduceEqDiff, not_false_eq_true, nI_pred, nI_1]
  refine aj_ireturn dX10_thrown_4 rfl ?_
  first | with_reducible exact hQ | (simp (decide := true) only [↓reduceIte, sw_eq, sw_ne, ne_eq, Nat.reduceEqDiff, not_false_eq_true, Bool.false_eq_true, bi_t, bi_f, nI_1, nI_pred, ] at hQ ⊢; with_reducible exact hQ)
theorem sp_X10_fail {d : Nat} {S : Sx} {Q : Option Value → Sx → Prop} {x : Int32}   (hQ : Q (some (.int (0))) (sw S 0 0 x)) : CC d kX10_fail layM [.ref 0, .int x] S Q := by
  refine cc_intro [some _, some _] (by decide) (cc_cat (by rfl)) (Nat.le_of_ble_eq_true rfl) (cc_ls (by rfl)) ?_
  refine aj_aload_n (q := 1) (i := 0) dX10_fail_0 rfl rfl rfl ?_
  refine aj_iload_n (q := 2) (i := 1) dX10_fail_1 rfl rfl rfl ?_
  refine aj_putI (q := 5) (f := 0) okM fp_X10_1 dX10_fail_2 rfl lM_0 rfl rfl ?_
  refine aj_iconst (q := 6) (v := 0) dX10_fail_5 rfl (by decide) ?_
  refine aj_ireturn dX10_fail_6 rfl ?_
  first | with_reducible exact hQ | (simp (decide := true) only [↓reduceIte, sw_eq, sw_ne, ne_eq, Nat.reduceEqDiff, not_false_eq_true, Bool.false_eq_true, bi_t, bi_f, nI_1, nI_pred, ] at hQ ⊢; with_reducible exact hQ)
theorem sp_X10_push {d : Nat} {S : Sx} {Q : Option Value → Sx → Prop} {s : Int32} {n : Nat} (hn : S 30 0 = nI n) (hb : n < 180) (hQ : Q none (gPush S n s)) : CC d kX10_push layM [.ref 0, .int s] S Q := by
  refine cc_intro [some _, some _] (by decide) (cc_cat (by rfl)) (Nat.le_of_ble_eq_true rfl) (cc_ls (by rfl)) ?_
  refine aj_aload_n (q := 1) (i := 0) dX10_push_0 rfl rfl rfl ?_
  refine aj_getR (q := 4) fl_X10_62 dX10_push_1 rfl lM_0 rfl ?_
  refine aj_aload_n (q := 5) (i := 0) dX10_push_4 rfl rfl rfl ?_
  refine aj_getI (q := 8) (f := 30) fl_X10_106 dX10_push_5 rfl lM_0 rfl rfl ?_
  try simp only [sw_eq, sw_ne, ne_eq, Nat.reduceEqDiff, not_false_eq_true, nI_pred, nI_1, hn, cl n, gPush]
  refine aj_iload_n (q := 9) (i := 1) dX10_push_8 rfl rfl rfl ?_
  refine aj_iastore (q := 10) (f := 1600) okM dX10_push_9 rfl lM_16 rfl (vp_in_nI (by omega) (by omega)) ?_
  refine aj_aload_n (q := 11) (i := 0) dX10_push_10 rfl rfl rfl ?_
  refine aj_getR (q := 14) fl_X10_65 dX10_push_11 rfl lM_0 rfl ?_
  refine aj_aload_n (q := 15) (i := 0) dX10_push_14 rfl rfl rfl ?_
  refine aj_getI (q := 18) (f := 30) fl_X10_106 dX10_push_15 rfl lM_0 rfl rfl ?_
  try simp only [sw_eq, sw_ne, ne_eq, Nat.reduceEqDiff, not_false_eq_true, nI_pred, nI_1, hn, cl n, gPush]
  refine aj_iconst (q := 19) (v := 0) dX10_push_18 rfl (by decide) ?_
  refine aj_iastore (q := 20) (f := 1700) okM dX10_push_19 rfl lM_17 rfl (vp_in_nI (by omega) (by omega)) ?_
  refine aj_aload_n (q := 21) (i := 0) dX10_push_20 rfl rfl rfl ?_
  refine aj_dup (q := 22) dX10_push_21 rfl rfl ?_
  refine aj_getI (q := 25) (f := 30) fl_X10_106 dX10_push_22 rfl lM_0 rfl rfl ?_
  try simp only [sw_eq, sw_ne, ne_eq, Nat.reduceEqDiff, not_false_eq_true, nI_pred, nI_1, hn, cl n, gPush]
  refine aj_iconst (q := 26) (v := 1) dX10_push_25 rfl (by decide) ?_
  refine aj_iadd (q := 27) dX10_push_26 rfl ?_
  refine aj_putI (q := 30) (f := 30) okM fp_X10_106 dX10_push_27 rfl lM_0 rfl rfl ?_
  refine aj_aload_n (q := 31) (i := 0) dX10_push_30 rfl rfl rfl ?_
  refine aj_iconst (q := 32) (v := (-1)) dX10_push_31 rfl (by decide) ?_
  refine aj_putI (q := 35) (f := 37) okM fp_X10_109 dX10_push_32 rfl lM_0 rfl rfl ?_
  refine aj_return dX10_push_35 rfl ?_
  first | with_reducible exact hQ | (simp (decide := true) only [↓reduceIte, sw_eq, sw_ne, ne_eq, Nat.reduceEqDiff, not_false_eq_true, Bool.false_eq_true, bi_t, bi_f, nI_1, nI_pred, hn, cl n, gPush, ] at hQ ⊢; with_reducible exact hQ)
theorem sp_X10_comes {d : Nat} {S : Sx} {Q : Option Value → Sx → Prop} {t : Int32} {n : Nat} (hn : S 30 0 = nI (n + 1)) (hQ : Q none (gComes S n t)) : CC d kX10_comes layM [.ref 0, .int t] S Q := by
  refine cc_intro [some _, some _] (by decide) (cc_cat (by rfl)) (Nat.le_of_ble_eq_true rfl) (cc_ls (by rfl)) ?_
  refine aj_aload_n (q := 1) (i := 0) dX10_comes_0 rfl rfl rfl ?_
  refine aj_dup (q := 2) dX10_comes_1 rfl rfl ?_
  refine aj_getI (q := 5) (f := 30) fl_X10_106 dX10_comes_2 rfl lM_0 rfl rfl ?_
  try simp only [sw_eq, sw_ne, ne_eq, Nat.reduceEqDiff, not_false_eq_true, nI_pred, nI_1, hn, gComes]
  refine aj_iconst (q := 6) (v := 1) dX10_comes_5 rfl (by decide) ?_
  refine aj_isub (q := 7) dX10_comes_6 rfl ?_
  refine aj_putI (q := 10) (f := 30) okM fp_X10_106 dX10_comes_7 rfl lM_0 rfl rfl ?_
  refine aj_aload_n (q := 11) (i := 0) dX10_comes_10 rfl rfl rfl ?_
  refine aj_iload_n (q := 12) (i := 1) dX10_comes_11 rfl rfl rfl ?_
  refine aj_putI (q := 15) (f := 37) okM fp_X10_109 dX10_comes_12 rfl lM_0 rfl rfl ?_
  refine aj_return dX10_comes_15 rfl ?_
  first | with_reducible exact hQ | (simp (decide := true) only [↓reduceIte, sw_eq, sw_ne, ne_eq, Nat.reduceEqDiff, not_false_eq_true, Bool.false_eq_true, bi_t, bi_f, nI_1, nI_pred, hn, gComes, ] at hQ ⊢; with_reducible exact hQ)
theorem sp_X10_throwing {d : Nat} {S : Sx} {Q : Option Value → Sx → Prop} {k x : Int32} {n : Nat} (hn : S 30 0 = nI (n + 1)) (hQ : Q none (gThrow S n k x)) : CC (d + 1) kX10_throwing layM [.ref 0, .int k, .int x] S Q := by
  refine cc_intro [some _, some _, some _] (by decide) (cc_cat (by rfl)) (Nat.le_of_ble_eq_true rfl) (cc_ls (by rfl)) ?_
  refine aj_aload_n (q := 1) (i := 0) dX10_throwing_0 rfl rfl rfl ?_
  refine aj_iload_n (q := 2) (i := 1) dX10_throwing_1 rfl rfl rfl ?_
  refine aj_putI (q := 5) (f := 27) okM fp_X10_112 dX10_throwing_2 rfl lM_0 rfl rfl ?_
  refine aj_aload_n (q := 6) (i := 0) dX10_throwing_5 rfl rfl rfl ?_
  refine aj_iload_n (q := 7) (i := 2) dX10_throwing_6 rfl rfl rfl ?_
  refine aj_putI (q := 10) (f := 28) okM fp_X10_115 dX10_throwing_7 rfl lM_0 rfl rfl ?_
  refine aj_aload_n (q := 11) (i := 0) dX10_throwing_10 rfl rfl rfl ?_
  refine aj_iconst (q := 12) (v := 2) dX10_throwing_11 rfl (by decide) ?_
  refine aj_callV (q := 15) (As := [_]) cl_X10_118 mk_X10_comes dX10_throwing_12 rfl lM_0 rfl rfl (Nat.le_of_ble_eq_true rfl) (sp_X10_comes (n := n) (by simp only [sw_eq, sw_ne, ne_eq, Nat.reduceEqDiff, not_false_eq_true, hn]) ?_)
  refine aj_return dX10_throwing_15 rfl ?_
  first | with_reducible exact hQ | (simp (decide := true) only [↓reduceIte, sw_eq, sw_ne, ne_eq, Nat.reduceEqDiff, not_false_eq_true, Bool.false_eq_true, bi_t, bi_f, nI_1, nI_pred, hn, gThrow, ] at hQ ⊢; with_reducible exact hQ)
theorem sp_X10_note {d : Nat} {S : Sx} {Q : Option Value → Sx → Prop} {s : Int32}  (hl : ¬ S 21 0 = 30 → vp_in (S 21 0) 30) (hQ : Q none (gNote S s)) : CC d kX10_note layM [.ref 0, .int s] S Q := by
  refine cc_intro [some _, some _] (by decide) (cc_cat (by rfl)) (Nat.le_of_ble_eq_true rfl) (cc_ls (by rfl)) ?_
  refine aj_aload_n (q := 1) (i := 0) dX10_note_0 rfl rfl rfl ?_
  refine aj_getI (q := 4) (f := 21) fl_X10_146 dX10_note_1 rfl lM_0 rfl rfl ?_
  try simp only [sw_eq, sw_ne, ne_eq, Nat.reduceEqDiff, not_false_eq_true, nI_pred, nI_1, gNote]
  refine aj_bipush (q := 6) (v := 30) dX10_note_4 rfl (by decide) ?_
  refine aj_icmp_ne (q := 9) (tgt := 10) dX10_note_6 rfl (by decide) (fun c6_1 => ?_) (fun c6_1 => ?_)
  · refine aj_aload_n (q := 11) (i := 0) dX10_note_10 rfl rfl rfl ?_
    refine aj_getR (q := 14) fl_X10_53 dX10_note_11 rfl lM_0 rfl ?_
    refine aj_aload_n (q := 15) (i := 0) dX10_note_14 rfl rfl rfl ?_
    refine aj_getI (q := 18) (f := 21) fl_X10_146 dX10_note_15 rfl lM_0 rfl rfl ?_
    try simp only [sw_eq, sw_ne, ne_eq, Nat.reduceEqDiff, not_false_eq_true, nI_pred, nI_1, gNote]
    refine aj_iload_n (q := 19) (i := 1) dX10_note_18 rfl rfl rfl ?_
    refine aj_iastore (q := 20) (f := 1400) okM dX10_note_19 rfl lM_14 rfl (hl (by assumption)) ?_
    refine aj_aload_n (q := 21) (i := 0) dX10_note_20 rfl rfl rfl ?_
    refine aj_dup (q := 22) dX10_note_21 rfl rfl ?_
    refine aj_getI (q := 25) (f := 21) fl_X10_146 dX10_note_22 rfl lM_0 rfl rfl ?_
    try simp only [sw_eq, sw_ne, ne_eq, Nat.reduceEqDiff, not_false_eq_true, nI_pred, nI_1, gNote]
    refine aj_iconst (q := 26) (v := 1) dX10_note_25 rfl (by decide) ?_
    refine aj_iadd (q := 27) dX10_note_26 rfl ?_
    refine aj_putI (q := 30) (f := 21) okM fp_X10_146 dX10_note_27 rfl lM_0 rfl rfl ?_
    refine aj_return dX10_note_30 rfl ?_
    first | with_reducible exact hQ | (simp (decide := true) only [↓reduceIte, sw_eq, sw_ne, ne_eq, Nat.reduceEqDiff, not_false_eq_true, Bool.false_eq_true, bi_t, bi_f, nI_1, nI_pred, gNote, c6_1] at hQ ⊢; with_reducible exact hQ)
  · refine aj_return dX10_note_9 rfl ?_
    first | with_reducible exact hQ | (simp (decide := true) only [↓reduceIte, sw_eq, sw_ne, ne_eq, Nat.reduceEqDiff, not_false_eq_true, Bool.false_eq_true, bi_t, bi_f, nI_1, nI_pred, gNote, c6_1] at hQ ⊢; with_reducible exact hQ)
theorem sp_X10_leave {d : Nat} {S : Sx} {Q : Option Value → Sx → Prop} {i s : Nat} (hi : i < 180) (hs : S 1600 i = nI s) (hb : s < 120) (hl : S 100 s = 20 → vp_in (S 200 s) 4) (hQ : Q none (gLeave S i s)) : CC d kX10_leave layM [.ref 0, .int (nI i)] S Q := by
  refine cc_intro [some _, some _, none] (by decide) (cc_cat (by rfl)) (Nat.le_of_ble_eq_true rfl) (cc_ls (by rfl)) ?_
  refine aj_aload_n (q := 1) (i := 0) dX10_leave_0 rfl rfl rfl ?_
  refine aj_getR (q := 4) fl_X10_62 dX10_leave_1 rfl lM_0 rfl ?_
  refine aj_iload_n (q := 5) (i := 1) dX10_leave_4 rfl rfl rfl ?_
  refine aj_iaload (q := 6) (f := 1600) dX10_leave_5 rfl lM_16 rfl (vp_in_nI (by omega) (by omega)) ?_
  try simp only [sw_eq, sw_ne, ne_eq, Nat.reduceEqDiff, not_false_eq_true, nI_pred, nI_1, hs, cl i, cl s, gLeave, gLv1, gLv2]
  refine aj_istore_n (q := 7) (i := 2) (ls' := [_, _, _]) dX10_leave_6 rfl rfl (by decide) rfl ?_
  refine aj_aload_n (q := 8) (i := 0) dX10_leave_7 rfl rfl rfl ?_
  refine aj_getR (q := 11) fl_X10_13 dX10_leave_8 rfl lM_0 rfl ?_
  refine aj_iload_n (q := 12) (i := 2) dX10_leave_11 rfl rfl rfl ?_
  refine aj_iaload (q := 13) (f := 100) dX10_leave_12 rfl lM_1 rfl (vp_in_nI (by omega) (by omega)) ?_
  try simp only [sw_eq, sw_ne, ne_eq, Nat.reduceEqDiff, not_false_eq_true, nI_pred, nI_1, hs, cl i, cl s, gLeave, gLv1, gLv2]
  refine aj_bipush (q := 15) (v := 20) dX10_leave_13 rfl (by decide) ?_
  refine aj_icmp_ne (q := 18) (tgt := 43) dX10_leave_15 rfl (by decide) (fun c15_1 => ?_) (fun c15_1 => ?_)
  · refine aj_aload_n (q := 44) (i := 0) dX10_leave_43 rfl rfl rfl ?_
    refine aj_getR (q := 47) fl_X10_13 dX10_leave_44 rfl lM_0 rfl ?_
    refine aj_iload_n (q := 48) (i := 2) dX10_leave_47 rfl rfl rfl ?_
    refine aj_iaload (q := 49) (f := 100) dX10_leave_48 rfl lM_1 rfl (vp_in_nI (by omega) (by omega)) ?_
    try simp only [sw_eq, sw_ne, ne_eq, Nat.reduceEqDiff, not_false_eq_true, nI_pred, nI_1, hs, cl i, cl s, gLeave, gLv1, gLv2]
    refine aj_bipush (q := 51) (v := 15) dX10_leave_49 rfl (by decide) ?_
    refine aj_icmp_ne (q := 54) (tgt := 74) dX10_leave_51 rfl (by decide) (fun c51_2 => ?_) (fun c51_2 => ?_)
    · refine aj_return dX10_leave_74 rfl ?_
      first | exact absurd (c15_1.symm.trans c51_2) (by decide) | with_reducible exact hQ | (simp (decide := true) only [↓reduceIte, sw_eq, sw_ne, ne_eq, Nat.reduceEqDiff, not_false_eq_true, Bool.false_eq_true, bi_t, bi_f, nI_1, nI_pred, hs, cl i, cl s, gLeave, gLv1, gLv2, c15_1, c51_2] at hQ ⊢; with_reducible exact hQ)
    · refine aj_aload_n (q := 55) (i := 0) dX10_leave_54 rfl rfl rfl ?_
      refine aj_getR (q := 58) fl_X10_65 dX10_leave_55 rfl lM_0 rfl ?_
      refine aj_iload_n (q := 59) (i := 1) dX10_leave_58 rfl rfl rfl ?_
      refine aj_iaload (q := 60) (f := 1700) dX10_leave_59 rfl lM_17 rfl (vp_in_nI (by omega) (by omega)) ?_
      try simp only [sw_eq, sw_ne, ne_eq, Nat.reduceEqDiff, not_false_eq_true, nI_pred, nI_1, hs, cl i, cl s, gLeave, gLv1, gLv2]
      refine aj_iconst (q := 61) (v := 1) dX10_leave_60 rfl (by decide) ?_
      refine aj_icmp_ne (q := 64) (tgt := 74) dX10_leave_61 rfl (by decide) (fun c61_3 => ?_) (fun c61_3 => ?_)
      · refine aj_return dX10_leave_74 rfl ?_
        first | exact absurd (c15_1.symm.trans c51_2) (by decide) | with_reducible exact hQ | (simp (decide := true) only [↓reduceIte, sw_eq, sw_ne, ne_eq, Nat.reduceEqDiff, not_false_eq_true, Bool.false_eq_true, bi_t, bi_f, nI_1, nI_pred, hs, cl i, cl s, gLeave, gLv1, gLv2, c15_1, c51_2, c61_3] at hQ ⊢; with_reducible exact hQ)
      · refine aj_aload_n (q := 65) (i := 0) dX10_leave_64 rfl rfl rfl ?_
        refine aj_dup (q := 66) dX10_leave_65 rfl rfl ?_
        refine aj_getI (q := 69) (f := 36) fl_X10_143 dX10_leave_66 rfl lM_0 rfl rfl ?_
        try simp only [sw_eq, sw_ne, ne_eq, Nat.reduceEqDiff, not_false_eq_true, nI_pred, nI_1, hs, cl i, cl s, gLeave, gLv1, gLv2]
        refine aj_iconst (q := 70) (v := 1) dX10_leave_69 rfl (by decide) ?_
        refine aj_isub (q := 71) dX10_leave_70 rfl ?_
        refine aj_putI (q := 74) (f := 36) okM fp_X10_143 dX10_leave_71 rfl lM_0 rfl rfl ?_
        refine aj_return dX10_leave_74 rfl ?_
        first | exact absurd (c15_1.symm.trans c51_2) (by decide) | with_reducible exact hQ | (simp (decide := true) only [↓reduceIte, sw_eq, sw_ne, ne_eq, Nat.reduceEqDiff, not_false_eq_true, Bool.false_eq_true, bi_t, bi_f, nI_1, nI_pred, hs, cl i, cl s, gLeave, gLv1, gLv2, c15_1, c51_2, c61_3] at hQ ⊢; with_reducible exact hQ)
  · refine aj_aload_n (q := 19) (i := 0) dX10_leave_18 rfl rfl rfl ?_
    refine aj_getR (q := 22) fl_X10_65 dX10_leave_19 rfl lM_0 rfl ?_
    refine aj_iload_n (q := 23) (i := 1) dX10_leave_22 rfl rfl rfl ?_
    refine aj_iaload (q := 24) (f := 1700) dX10_leave_23 rfl lM_17 rfl (vp_in_nI (by omega) (by omega)) ?_
    try simp only [sw_eq, sw_ne, ne_eq, Nat.reduceEqDiff, not_false_eq_true, nI_pred, nI_1, hs, cl i, cl s, gLeave, gLv1, gLv2]
    refine aj_iconst (q := 25) (v := 1) dX10_leave_24 rfl (by decide) ?_
    refine aj_icmp_ne (q := 28) (tgt := 43) dX10_leave_25 rfl (by decide) (fun c25_4 => ?_) (fun c25_4 => ?_)
    · refine aj_aload_n (q := 44) (i := 0) dX10_leave_43 rfl rfl rfl ?_
      refine aj_getR (q := 47) fl_X10_13 dX10_leave_44 rfl lM_0 rfl ?_
      refine aj_iload_n (q := 48) (i := 2) dX10_leave_47 rfl rfl rfl ?_
      refine aj_iaload (q := 49) (f := 100) dX10_leave_48 rfl lM_1 rfl (vp_in_nI (by omega) (by omega)) ?_
      try simp only [sw_eq, sw_ne, ne_eq, Nat.reduceEqDiff, not_false_eq_true, nI_pred, nI_1, hs, cl i, cl s, gLeave, gLv1, gLv2]
      refine aj_bipush (q := 51) (v := 15) dX10_leave_49 rfl (by decide) ?_
      refine aj_icmp_ne (q := 54) (tgt := 74) dX10_leave_51 rfl (by decide) (fun c51_5 => ?_) (fun c51_5 => ?_)
      · refine aj_return dX10_leave_74 rfl ?_
        first | exact absurd (c15_1.symm.trans c51_5) (by decide) | with_reducible exact hQ | (simp (decide := true) only [↓reduceIte, sw_eq, sw_ne, ne_eq, Nat.reduceEqDiff, not_false_eq_true, Bool.false_eq_true, bi_t, bi_f, nI_1, nI_pred, hs, cl i, cl s, gLeave, gLv1, gLv2, c15_1, c25_4, c51_5] at hQ ⊢; with_reducible exact hQ)
      · refine aj_aload_n (q := 55) (i := 0) dX10_leave_54 rfl rfl rfl ?_
        refine aj_getR (q := 58) fl_X10_65 dX10_leave_55 rfl lM_0 rfl ?_
        refine aj_iload_n (q := 59) (i := 1) dX10_leave_58 rfl rfl rfl ?_
        refine aj_iaload (q := 60) (f := 1700) dX10_leave_59 rfl lM_17 rfl (vp_in_nI (by omega) (by omega)) ?_
        try simp only [sw_eq, sw_ne, ne_eq, Nat.reduceEqDiff, not_false_eq_true, nI_pred, nI_1, hs, cl i, cl s, gLeave, gLv1, gLv2]
        refine aj_iconst (q := 61) (v := 1) dX10_leave_60 rfl (by decide) ?_
        refine aj_icmp_ne (q := 64) (tgt := 74) dX10_leave_61 rfl (by decide) (fun c61_6 => ?_) (fun c61_6 => ?_)
        · refine aj_return dX10_leave_74 rfl ?_
          first | exact absurd (c15_1.symm.trans c51_5) (by decide) | with_reducible exact hQ | (simp (decide := true) only [↓reduceIte, sw_eq, sw_ne, ne_eq, Nat.reduceEqDiff, not_false_eq_true, Bool.false_eq_true, bi_t, bi_f, nI_1, nI_pred, hs, cl i, cl s, gLeave, gLv1, gLv2, c15_1, c25_4, c51_5, c61_6] at hQ ⊢; with_reducible exact hQ)
        · refine aj_aload_n (q := 65) (i := 0) dX10_leave_64 rfl rfl rfl ?_
          refine aj_dup (q := 66) dX10_leave_65 rfl rfl ?_
          refine aj_getI (q := 69) (f := 36) fl_X10_143 dX10_leave_66 rfl lM_0 rfl rfl ?_
          try simp only [sw_eq, sw_ne, ne_eq, Nat.reduceEqDiff, not_false_eq_true, nI_pred, nI_1, hs, cl i, cl s, gLeave, gLv1, gLv2]
          refine aj_iconst (q := 70) (v := 1) dX10_leave_69 rfl (by decide) ?_
          refine aj_isub (q := 71) dX10_leave_70 rfl ?_
          refine aj_putI (q := 74) (f := 36) okM fp_X10_143 dX10_leave_71 rfl lM_0 rfl rfl ?_
          refine aj_return dX10_leave_74 rfl ?_
          first | exact absurd (c15_1.symm.trans c51_5) (by decide) | with_reducible exact hQ | (simp (decide := true) only [↓reduceIte, sw_eq, sw_ne, ne_eq, Nat.reduceEqDiff, not_false_eq_true, Bool.false_eq_true, bi_t, bi_f, nI_1, nI_pred, hs, cl i, cl s, gLeave, gLv1, gLv2, c15_1, c25_4, c51_5, c61_6] at hQ ⊢; with_reducible exact hQ)
    · refine aj_aload_n (q := 29) (i := 0) dX10_leave_28 rfl rfl rfl ?_
      refine aj_getR (q := 32) fl_X10_38 dX10_leave_29 rfl lM_0 rfl ?_
      refine aj_aload_n (q := 33) (i := 0) dX10_leave_32 rfl rfl rfl ?_
      refine aj_getR (q := 36) fl_X10_17 dX10_leave_33 rfl lM_0 rfl ?_
      refine aj_iload_n (q := 37) (i := 2) dX10_leave_36 rfl rfl rfl ?_
      refine aj_iaload (q := 38) (f := 200) dX10_leave_37 rfl lM_2 rfl (vp_in_nI (by omega) (by omega)) ?_
      try simp only [sw_eq, sw_ne, ne_eq, Nat.reduceEqDiff, not_false_eq_true, nI_pred, nI_1, hs, cl i, cl s, gLeave, gLv1, gLv2]
      refine aj_dup2 (q := 39) dX10_leave_38 rfl rfl rfl ?_
      refine aj_iaload (q := 40) (f := 900) dX10_leave_39 rfl lM_9 rfl (hl (by assumption)) ?_
      try simp only [sw_eq, sw_ne, ne_eq, Nat.reduceEqDiff, not_false_eq_true, nI_pred, nI_1, hs, cl i, cl s, gLeave, gLv1, gLv2]
      refine aj_iconst (q := 41) (v := 1) dX10_leave_40 rfl (by decide) ?_
      refine aj_isub (q := 42) dX10_leave_41 rfl ?_
      refine aj_iastore (q := 43) (f := 900) okM dX10_leave_42 rfl lM_9 rfl (hl (by assumption)) ?_
      refine aj_aload_n (q := 44) (i := 0) dX10_leave_43 rfl rfl rfl ?_
      refine aj_getR (q := 47) fl_X10_13 dX10_leave_44 rfl lM_0 rfl ?_
      refine aj_iload_n (q := 48) (i := 2) dX10_leave_47 rfl rfl rfl ?_
      refine aj_iaload (q := 49) (f := 100) dX10_leave_48 rfl lM_1 rfl (vp_in_nI (by omega) (by omega)) ?_
      try simp only [sw_eq, sw_ne, ne_eq, Nat.reduceEqDiff, not_false_eq_true, nI_pred, nI_1, hs, cl i, cl s, gLeave, gLv1, gLv2]
      refine aj_bipush (q := 51) (v := 15) dX10_leave_49 rfl (by decide) ?_
      refine aj_icmp_ne (q := 54) (tgt := 74) dX10_leave_51 rfl (by decide) (fun c51_7 => ?_) (fun c51_7 => ?_)
      · refine aj_return dX10_leave_74 rfl ?_
        first | exact absurd (c15_1.symm.trans c51_7) (by decide) | with_reducible exact hQ | (simp (decide := true) only [↓reduceIte, sw_eq, sw_ne, ne_eq, Nat.reduceEqDiff, not_false_eq_true, Bool.false_eq_true, bi_t, bi_f, nI_1, nI_pred, hs, cl i, cl s, gLeave, gLv1, gLv2, c15_1, c25_4, c51_7] at hQ ⊢; with_reducible exact hQ)
      · refine aj_aload_n (q := 55) (i := 0) dX10_leave_54 rfl rfl rfl ?_
        refine aj_getR (q := 58) fl_X10_65 dX10_leave_55 rfl lM_0 rfl ?_
        refine aj_iload_n (q := 59) (i := 1) dX10_leave_58 rfl rfl rfl ?_
        refine aj_iaload (q := 60) (f := 1700) dX10_leave_59 rfl lM_17 rfl (vp_in_nI (by omega) (by omega)) ?_
        try simp only [sw_eq, sw_ne, ne_eq, Nat.reduceEqDiff, not_false_eq_true, nI_pred, nI_1, hs, cl i, cl s, gLeave, gLv1, gLv2]
        refine aj_iconst (q := 61) (v := 1) dX10_leave_60 rfl (by decide) ?_
        refine aj_icmp_ne (q := 64) (tgt := 74) dX10_leave_61 rfl (by decide) (fun c61_8 => ?_) (fun c61_8 => ?_)
        · refine aj_return dX10_leave_74 rfl ?_
          first | exact absurd (c15_1.symm.trans c51_7) (by decide) | with_reducible exact hQ | (simp (decide := true) only [↓reduceIte, sw_eq, sw_ne, ne_eq, Nat.reduceEqDiff, not_false_eq_true, Bool.false_eq_true, bi_t, bi_f, nI_1, nI_pred, hs, cl i, cl s, gLeave, gLv1, gLv2, c15_1, c25_4, c51_7, c61_8] at hQ ⊢; with_reducible exact hQ)
        · refine aj_aload_n (q := 65) (i := 0) dX10_leave_64 rfl rfl rfl ?_
          refine aj_dup (q := 66) dX10_leave_65 rfl rfl ?_
          refine aj_getI (q := 69) (f := 36) fl_X10_143 dX10_leave_66 rfl lM_0 rfl rfl ?_
          try simp only [sw_eq, sw_ne, ne_eq, Nat.reduceEqDiff, not_false_eq_true, nI_pred, nI_1, hs, cl i, cl s, gLeave, gLv1, gLv2]
          refine aj_iconst (q := 70) (v := 1) dX10_leave_69 rfl (by decide) ?_
          refine aj_isub (q := 71) dX10_leave_70 rfl ?_
          refine aj_putI (q := 74) (f := 36) okM fp_X10_143 dX10_leave_71 rfl lM_0 rfl rfl ?_
          refine aj_return dX10_leave_74 rfl ?_
          first | exact absurd (c15_1.symm.trans c51_7) (by decide) | with_reducible exact hQ | (simp (decide := true) only [↓reduceIte, sw_eq, sw_ne, ne_eq, Nat.reduceEqDiff, not_false_eq_true, Bool.false_eq_true, bi_t, bi_f, nI_1, nI_pred, hs, cl i, cl s, gLeave, gLv1, gLv2, c15_1, c25_4, c51_7, c61_8] at hQ ⊢; with_reducible exact hQ)
