theorem gNote_ne {S : Sx} {s : Int32} {f j : Nat} (h : f ≠ 1400) (h2 : f ≠ 21) : gNote S s f j = S f j := by
  unfold gNote
  split
  · rfl
  · rw [sw_ne h2, sw_ne h]
def gPop (S : Sx) (n : Nat) : Sx := sw S 30 0 (nI n)
def gHanX (S : Sx) (n s : Nat) : Sx := if gPayB S 10 then gSecond (gNote (sw (gPayS S 2 10) 700 (7 : Int32).toNatClampNeg (if S 27 0 = 5 then 100 + S 28 0 else S 27 0)) (nI s)) n (S 400 s) else gPayS S 2 10
def gHan (S : Sx) (n s : Nat) : Sx := if S 1700 n = 1 then (if S 37 0 = 2 then (if (S 300 s >>> (S 27 0 &&& 31)) &&& 1 = 1 then gHanX S n s else gPop S n) else gPop S n) else gPop S n
def gFinW (S : Sx) (n : Nat) : Sx := sw (sw (sw S 1800 n (S 37 0)) 1900 n (S 27 0)) 2000 n (S 28 0)
def gFinP (X : Sx) (n s : Nat) : Sx := if gPayB X 10 then gSecond (gNote (gPayS X 3 10) (nI s)) n (X 300 s) else gPayS X 3 10
def gFin (S : Sx) (n s : Nat) : Sx := if S 37 0 = 3 then (if (10 : Int32) ≤ S 17 0 then gFinP (sw (gFinW S n) 38 0 (nI n)) n s else gPop (gFinW S n) n) else gFinP (gFinW S n) n s
def gLastD (S : Sx) (n : Nat) : Sx := if S 38 0 = nI n then gComes (sw S 38 0 (-1)) n 3 else if S 37 0 = 0 then gComes (sw (sw S 27 0 (S 1900 n)) 28 0 (S 2000 n)) n (S 1800 n) else gComes (sw (sw S 27 0 (S 27 0)) 28 0 (S 28 0)) n (S 37 0)
theorem sp_X10_handles {d : Nat} {S : Sx} {Q : Option Value → Sx → Prop} {n s : Nat} (hn : S 30 0 = nI (n + 1)) (hnb : n + 1 < 180) (hsb : s < 120) (hD : DrOk S) (hl : ¬ S 21 0 = 30 → vp_in (S 21 0) 30)  (hQ : Q none (gHan S n s)) : CC (d + 3) kX10_handles layM [.ref 0, .int (nI s)] S Q := by
  refine cc_intro [some _, some _, none] (by decide) (cc_cat (by rfl)) (Nat.le_of_ble_eq_true rfl) (cc_ls (by rfl)) ?_
  refine aj_aload_n (q := 1) (i := 0) dX10_handles_0 rfl rfl rfl ?_
  refine aj_getR (q := 4) fl_X10_65 dX10_handles_1 rfl lM_0 rfl ?_
  refine aj_aload_n (q := 5) (i := 0) dX10_handles_4 rfl rfl rfl ?_
  refine aj_getI (q := 8) (f := 30) fl_X10_106 dX10_handles_5 rfl lM_0 rfl rfl ?_
  try simp (decide := true) only [sw_eq, sw_ne, ne_eq, Nat.reduceEqDiff, not_false_eq_true, nI_pred, nI_1, gPay_ne, gNote_ne, gLeave_ne, hn, cl n, cl s]
  refine aj_iconst (q := 9) (v := 1) dX10_handles_8 rfl (by decide) ?_
  refine aj_isub (q := 10) dX10_handles_9 rfl ?_
  try simp (decide := true) only [sw_eq, sw_ne, ne_eq, Nat.reduceEqDiff, not_false_eq_true, nI_pred, nI_1, gPay_ne, gNote_ne, gLeave_ne, hn, cl n, cl s]
  refine aj_iaload (q := 11) (f := 1700) dX10_handles_10 rfl lM_17 rfl (vp_in_nI (by omega) (by omega)) ?_
  try simp (decide := true) only [sw_eq, sw_ne, ne_eq, Nat.reduceEqDiff, not_false_eq_true, nI_pred, nI_1, gPay_ne, gNote_ne, gLeave_ne, hn, cl n, cl s]
  refine aj_iconst (q := 12) (v := 1) dX10_handles_11 rfl (by decide) ?_
  refine aj_icmp_ne (q := 15) (tgt := 44) dX10_handles_12 rfl (by decide) (fun c12_1 => ?_) (fun c12_1 => ?_)
  · refine aj_iconst (q := 45) (v := 0) dX10_handles_44 rfl (by decide) ?_
    refine aj_istore_n (q := 46) (i := 2) (ls' := [_, _, _]) dX10_handles_45 rfl rfl (by decide) rfl ?_
    refine aj_iload_n (q := 47) (i := 2) dX10_handles_46 rfl rfl rfl ?_
    refine aj_if_ne (q := 50) (tgt := 61) dX10_handles_47 rfl (by decide) (fun c => absurd c (by decide)) (fun _ => ?_)
    refine aj_aload_n (q := 51) (i := 0) dX10_handles_50 rfl rfl rfl ?_
    refine aj_dup (q := 52) dX10_handles_51 rfl rfl ?_
    refine aj_getI (q := 55) (f := 30) fl_X10_106 dX10_handles_52 rfl lM_0 rfl rfl ?_
    try simp (decide := true) only [sw_eq, sw_ne, ne_eq, Nat.reduceEqDiff, not_false_eq_true, nI_pred, nI_1, gPay_ne, gNote_ne, gLeave_ne, hn, cl n, cl s, c12_1]
    refine aj_iconst (q := 56) (v := 1) dX10_handles_55 rfl (by decide) ?_
    refine aj_isub (q := 57) dX10_handles_56 rfl ?_
    try simp (decide := true) only [sw_eq, sw_ne, ne_eq, Nat.reduceEqDiff, not_false_eq_true, nI_pred, nI_1, gPay_ne, gNote_ne, gLeave_ne, hn, cl n, cl s, c12_1]
    refine aj_putI (q := 60) (f := 30) okM fp_X10_106 dX10_handles_57 rfl lM_0 rfl rfl ?_
    refine aj_return dX10_handles_60 rfl ?_
    first | contradiction | (rw [gHan, if_pos (by assumption), if_pos (by assumption), if_pos (by assumption), gHanX, if_pos (by assumption), if_pos (by assumption)] at hQ; with_reducible exact hQ) | (simp (decide := true) only [↓reduceIte, Bool.false_eq_true, bi_t, bi_f, sw_eq, sw_ne, ne_eq, Nat.reduceEqDiff, not_false_eq_true, nI_pred, nI_1, gPay_ne, gNote_ne, gLeave_ne, gHan, gHanX, gPop, hn, cl n, cl s, c12_1] at hQ ⊢; with_reducible exact hQ)
  · refine aj_aload_n (q := 16) (i := 0) dX10_handles_15 rfl rfl rfl ?_
    refine aj_getI (q := 19) (f := 37) fl_X10_109 dX10_handles_16 rfl lM_0 rfl rfl ?_
    try simp (decide := true) only [sw_eq, sw_ne, ne_eq, Nat.reduceEqDiff, not_false_eq_true, nI_pred, nI_1, gPay_ne, gNote_ne, gLeave_ne, hn, cl n, cl s, c12_1]
    refine aj_iconst (q := 20) (v := 2) dX10_handles_19 rfl (by decide) ?_
    refine aj_icmp_ne (q := 23) (tgt := 44) dX10_handles_20 rfl (by decide) (fun c20_3 => ?_) (fun c20_3 => ?_)
    · refine aj_iconst (q := 45) (v := 0) dX10_handles_44 rfl (by decide) ?_
      refine aj_istore_n (q := 46) (i := 2) (ls' := [_, _, _]) dX10_handles_45 rfl rfl (by decide) rfl ?_
      refine aj_iload_n (q := 47) (i := 2) dX10_handles_46 rfl rfl rfl ?_
      refine aj_if_ne (q := 50) (tgt := 61) dX10_handles_47 rfl (by decide) (fun c => absurd c (by decide)) (fun _ => ?_)
      refine aj_aload_n (q := 51) (i := 0) dX10_handles_50 rfl rfl rfl ?_
      refine aj_dup (q := 52) dX10_handles_51 rfl rfl ?_
      refine aj_getI (q := 55) (f := 30) fl_X10_106 dX10_handles_52 rfl lM_0 rfl rfl ?_
      try simp (decide := true) only [sw_eq, sw_ne, ne_eq, Nat.reduceEqDiff, not_false_eq_true, nI_pred, nI_1, gPay_ne, gNote_ne, gLeave_ne, hn, cl n, cl s, c12_1, c20_3]
      refine aj_iconst (q := 56) (v := 1) dX10_handles_55 rfl (by decide) ?_
      refine aj_isub (q := 57) dX10_handles_56 rfl ?_
      try simp (decide := true) only [sw_eq, sw_ne, ne_eq, Nat.reduceEqDiff, not_false_eq_true, nI_pred, nI_1, gPay_ne, gNote_ne, gLeave_ne, hn, cl n, cl s, c12_1, c20_3]
      refine aj_putI (q := 60) (f := 30) okM fp_X10_106 dX10_handles_57 rfl lM_0 rfl rfl ?_
      refine aj_return dX10_handles_60 rfl ?_
      first | contradiction | (rw [gHan, if_pos (by assumption), if_pos (by assumption), if_pos (by assumption), gHanX, if_pos (by assumption), if_pos (by assumption)] at hQ; with_reducible exact hQ) | (simp (decide := true) only [↓reduceIte, Bool.false_eq_true, bi_t, bi_f, sw_eq, sw_ne, ne_eq, Nat.reduceEqDiff, not_false_eq_true, nI_pred, nI_1, gPay_ne, gNote_ne, gLeave_ne, gHan, gHanX, gPop, hn, cl n, cl s, c12_1, c20_3] at hQ ⊢; with_reducible exact hQ)
    · refine aj_aload_n (q := 24) (i := 0) dX10_handles_23 rfl rfl rfl ?_
      refine aj_getR (q := 27) fl_X10_20 dX10_handles_24 rfl lM_0 rfl ?_
      refine aj_iload_n (q := 28) (i := 1) dX10_handles_27 rfl rfl rfl ?_
      refine aj_iaload (q := 29) (f := 300) dX10_handles_28 rfl lM_3 rfl (vp_in_nI (by omega) (by omega)) ?_
      try simp (decide := true) only [sw_eq, sw_ne, ne_eq, Nat.reduceEqDiff, not_false_eq_true, nI_pred, nI_1, gPay_ne, gNote_ne, gLeave_ne, hn, cl n, cl s, c12_1, c20_3]
      refine aj_aload_n (q := 30) (i := 0) dX10_handles_29 rfl rfl rfl ?_
      refine aj_getI (q := 33) (f := 27) fl_X10_112 dX10_handles_30 rfl lM_0 rfl rfl ?_
      try simp (decide := true) only [sw_eq, sw_ne, ne_eq, Nat.reduceEqDiff, not_false_eq_true, nI_pred, nI_1, gPay_ne, gNote_ne, gLeave_ne, hn, cl n, cl s, c12_1, c20_3]
      refine aj_ishr (q := 34) dX10_handles_33 rfl ?_
      refine aj_iconst (q := 35) (v := 1) dX10_handles_34 rfl (by decide) ?_
      refine aj_iand (q := 36) dX10_handles_35 rfl ?_
      refine aj_iconst (q := 37) (v := 1) dX10_handles_36 rfl (by decide) ?_
      refine aj_icmp_ne (q := 40) (tgt := 44) dX10_handles_37 rfl (by decide) (fun c37_5 => ?_) (fun c37_5 => ?_)
      · refine aj_iconst (q := 45) (v := 0) dX10_handles_44 rfl (by decide) ?_
        refine aj_istore_n (q := 46) (i := 2) (ls' := [_, _, _]) dX10_handles_45 rfl rfl (by decide) rfl ?_
        refine aj_iload_n (q := 47) (i := 2) dX10_handles_46 rfl rfl rfl ?_
        refine aj_if_ne (q := 50) (tgt := 61) dX10_handles_47 rfl (by decide) (fun c => absurd c (by decide)) (fun _ => ?_)
        refine aj_aload_n (q := 51) (i := 0) dX10_handles_50 rfl rfl rfl ?_
        refine aj_dup (q := 52) dX10_handles_51 rfl rfl ?_
        refine aj_getI (q := 55) (f := 30) fl_X10_106 dX10_handles_52 rfl lM_0 rfl rfl ?_
        try simp (decide := true) only [sw_eq, sw_ne, ne_eq, Nat.reduceEqDiff, not_false_eq_true, nI_pred, nI_1, gPay_ne, gNote_ne, gLeave_ne, hn, cl n, cl s, c12_1, c20_3, c37_5]
        refine aj_iconst (q := 56) (v := 1) dX10_handles_55 rfl (by decide) ?_
        refine aj_isub (q := 57) dX10_handles_56 rfl ?_
        try simp (decide := true) only [sw_eq, sw_ne, ne_eq, Nat.reduceEqDiff, not_false_eq_true, nI_pred, nI_1, gPay_ne, gNote_ne, gLeave_ne, hn, cl n, cl s, c12_1, c20_3, c37_5]
        refine aj_putI (q := 60) (f := 30) okM fp_X10_106 dX10_handles_57 rfl lM_0 rfl rfl ?_
        refine aj_return dX10_handles_60 rfl ?_
        first | contradiction | (rw [gHan, if_pos (by assumption), if_pos (by assumption), if_pos (by assumption), gHanX, if_pos (by assumption), if_pos (by assumption)] at hQ; with_reducible exact hQ) | (simp (decide := true) only [↓reduceIte, Bool.false_eq_true, bi_t, bi_f, sw_eq, sw_ne, ne_eq, Nat.reduceEqDiff, not_false_eq_true, nI_pred, nI_1, gPay_ne, gNote_ne, gLeave_ne, gHan, gHanX, gPop, hn, cl n, cl s, c12_1, c20_3, c37_5] at hQ ⊢; with_reducible exact hQ)
      · refine aj_iconst (q := 41) (v := 1) dX10_handles_40 rfl (by decide) ?_
        refine aj_goto (tgt := 45) dX10_handles_41 (by decide) ?_
        refine aj_istore_n (q := 46) (i := 2) (ls' := [_, _, _]) dX10_handles_45 rfl rfl (by decide) rfl ?_
        refine aj_iload_n (q := 47) (i := 2) dX10_handles_46 rfl rfl rfl ?_
        refine aj_if_ne (q := 50) (tgt := 61) dX10_handles_47 rfl (by decide) (fun _ => ?_) (fun c => absurd c (by decide))
        refine aj_aload_n (q := 62) (i := 0) dX10_handles_61 rfl rfl rfl ?_
        refine aj_iconst (q := 63) (v := 2) dX10_handles_62 rfl (by decide) ?_
        refine aj_bipush (q := 65) (v := 10) dX10_handles_63 rfl (by decide) ?_
        refine aj_callV (q := 68) (As := [_, _]) cl_X10_153 mk_X10_pays dX10_handles_65 rfl lM_0 rfl rfl (Nat.le_of_ble_eq_true rfl) (sp_X10_pays (vp_in_iff.mpr (by decide)) hD ?_)
        refine aj_ifB_ne (q := 71) (tgt := 72) dX10_handles_68 rfl (by decide) (fun c68_8 => ?_) (fun c68_8 => ?_)
        · refine aj_aload_n (q := 73) (i := 0) dX10_handles_72 rfl rfl rfl ?_
          refine aj_getR (q := 76) fl_X10_32 dX10_handles_73 rfl lM_0 rfl ?_
          refine aj_bipush (q := 78) (v := 7) dX10_handles_76 rfl (by decide) ?_
          refine aj_aload_n (q := 79) (i := 0) dX10_handles_78 rfl rfl rfl ?_
          refine aj_getI (q := 82) (f := 27) fl_X10_112 dX10_handles_79 rfl lM_0 rfl rfl ?_
          try simp (decide := true) only [sw_eq, sw_ne, ne_eq, Nat.reduceEqDiff, not_false_eq_true, nI_pred, nI_1, gPay_ne, gNote_ne, gLeave_ne, hn, cl n, cl s, c12_1, c20_3, c37_5, c68_8]
          refine aj_iconst (q := 83) (v := 5) dX10_handles_82 rfl (by decide) ?_
          refine aj_icmp_ne (q := 86) (tgt := 96) dX10_handles_83 rfl (by decide) (fun c83_9 => ?_) (fun c83_9 => ?_)
          · refine aj_aload_n (q := 97) (i := 0) dX10_handles_96 rfl rfl rfl ?_
            refine aj_getI (q := 100) (f := 27) fl_X10_112 dX10_handles_97 rfl lM_0 rfl rfl ?_
            try simp (decide := true) only [sw_eq, sw_ne, ne_eq, Nat.reduceEqDiff, not_false_eq_true, nI_pred, nI_1, gPay_ne, gNote_ne, gLeave_ne, hn, cl n, cl s, c12_1, c20_3, c37_5, c68_8, c83_9]
            refine aj_iastore (q := 101) (f := 700) okM dX10_handles_100 rfl lM_7 rfl (vp_in_iff.mpr (by decide)) ?_
            refine aj_aload_n (q := 102) (i := 0) dX10_handles_101 rfl rfl rfl ?_
            refine aj_iload_n (q := 103) (i := 1) dX10_handles_102 rfl rfl rfl ?_
            refine aj_callV (q := 106) (As := [_]) cl_X10_195 mk_X10_note dX10_handles_103 rfl lM_0 rfl rfl (Nat.le_of_ble_eq_true rfl) (sp_X10_note (by simp (decide := true) only [sw_eq, sw_ne, ne_eq, Nat.reduceEqDiff, not_false_eq_true, gPay_ne, gNote_ne, gLeave_ne, c12_1, c20_3, c37_5, c68_8, c83_9]; exact hl) ?_)
            refine aj_aload_n (q := 107) (i := 0) dX10_handles_106 rfl rfl rfl ?_
            refine aj_aload_n (q := 108) (i := 0) dX10_handles_107 rfl rfl rfl ?_
            refine aj_getR (q := 111) fl_X10_23 dX10_handles_108 rfl lM_0 rfl ?_
            refine aj_iload_n (q := 112) (i := 1) dX10_handles_111 rfl rfl rfl ?_
            refine aj_iaload (q := 113) (f := 400) dX10_handles_112 rfl lM_4 rfl (vp_in_nI (by omega) (by omega)) ?_
            try simp (decide := true) only [sw_eq, sw_ne, ne_eq, Nat.reduceEqDiff, not_false_eq_true, nI_pred, nI_1, gPay_ne, gNote_ne, gLeave_ne, hn, cl n, cl s, c12_1, c20_3, c37_5, c68_8, c83_9]
            refine aj_callV (q := 116) (As := [_]) cl_X10_198 mk_X10_second dX10_handles_113 rfl lM_0 rfl rfl (Nat.le_of_ble_eq_true rfl) (sp_X10_second (n := n) (by simp (decide := true) only [sw_eq, sw_ne, ne_eq, Nat.reduceEqDiff, not_false_eq_true, gPay_ne, gNote_ne, gLeave_ne, hn, c12_1, c20_3, c37_5, c68_8, c83_9]) hnb ?_)
            refine aj_return dX10_handles_116 rfl ?_
            first | contradiction | (rw [gHan, if_pos (by assumption), if_pos (by assumption), if_pos (by assumption), gHanX, if_pos (by assumption), if_pos (by assumption)] at hQ; with_reducible exact hQ) | (simp (decide := true) only [↓reduceIte, Bool.false_eq_true, bi_t, bi_f, sw_eq, sw_ne, ne_eq, Nat.reduceEqDiff, not_false_eq_true, nI_pred, nI_1, gPay_ne, gNote_ne, gLeave_ne, gHan, gHanX, gPop, hn, cl n, cl s, c12_1, c20_3, c37_5, c68_8, c83_9] at hQ ⊢; with_reducible exact hQ)
          · refine aj_bipush (q := 88) (v := 100) dX10_handles_86 rfl (by decide) ?_
            refine aj_aload_n (q := 89) (i := 0) dX10_handles_88 rfl rfl rfl ?_
            refine aj_getI (q := 92) (f := 28) fl_X10_115 dX10_handles_89 rfl lM_0 rfl rfl ?_
            try simp (decide := true) only [sw_eq, sw_ne, ne_eq, Nat.reduceEqDiff, not_false_eq_true, nI_pred, nI_1, gPay_ne, gNote_ne, gLeave_ne, hn, cl n, cl s, c12_1, c20_3, c37_5, c68_8, c83_9]
            refine aj_iadd (q := 93) dX10_handles_92 rfl ?_
            try simp (decide := true) only [sw_eq, sw_ne, ne_eq, Nat.reduceEqDiff, not_false_eq_true, nI_pred, nI_1, gPay_ne, gNote_ne, gLeave_ne, hn, cl n, cl s, c12_1, c20_3, c37_5, c68_8, c83_9]
            refine aj_goto (tgt := 100) dX10_handles_93 (by decide) ?_
            refine aj_iastore (q := 101) (f := 700) okM dX10_handles_100 rfl lM_7 rfl (vp_in_iff.mpr (by decide)) ?_
            refine aj_aload_n (q := 102) (i := 0) dX10_handles_101 rfl rfl rfl ?_
            refine aj_iload_n (q := 103) (i := 1) dX10_handles_102 rfl rfl rfl ?_
            refine aj_callV (q := 106) (As := [_]) cl_X10_195 mk_X10_note dX10_handles_103 rfl lM_0 rfl rfl (Nat.le_of_ble_eq_true rfl) (sp_X10_note (by simp (decide := true) only [sw_eq, sw_ne, ne_eq, Nat.reduceEqDiff, not_false_eq_true, gPay_ne, gNote_ne, gLeave_ne, c12_1, c20_3, c37_5, c68_8, c83_9]; exact hl) ?_)
            refine aj_aload_n (q := 107) (i := 0) dX10_handles_106 rfl rfl rfl ?_
            refine aj_aload_n (q := 108) (i := 0) dX10_handles_107 rfl rfl rfl ?_
            refine aj_getR (q := 111) fl_X10_23 dX10_handles_108 rfl lM_0 rfl ?_
            refine aj_iload_n (q := 112) (i := 1) dX10_handles_111 rfl rfl rfl ?_
            refine aj_iaload (q := 113) (f := 400) dX10_handles_112 rfl lM_4 rfl (vp_in_nI (by omega) (by omega)) ?_
            try simp (decide := true) only [sw_eq, sw_ne, ne_eq, Nat.reduceEqDiff, not_false_eq_true, nI_pred, nI_1, gPay_ne, gNote_ne, gLeave_ne, hn, cl n, cl s, c12_1, c20_3, c37_5, c68_8, c83_9]
            refine aj_callV (q := 116) (As := [_]) cl_X10_198 mk_X10_second dX10_handles_113 rfl lM_0 rfl rfl (Nat.le_of_ble_eq_true rfl) (sp_X10_second (n := n) (by simp (decide := true) only [sw_eq, sw_ne, ne_eq, Nat.reduceEqDiff, not_false_eq_true, gPay_ne, gNote_ne, gLeave_ne, hn, c12_1, c20_3, c37_5, c68_8, c83_9]) hnb ?_)
            refine aj_return dX10_handles_116 rfl ?_
            first | contradiction | (rw [gHan, if_pos (by assumption), if_pos (by assumption), if_pos (by assumption), gHanX, if_pos (by assumption), if_pos (by assumption)] at hQ; with_reducible exact hQ) | (simp (decide := true) only [↓reduceIte, Bool.false_eq_true, bi_t, bi_f, sw_eq, sw_ne, ne_eq, Nat.reduceEqDiff, not_false_eq_true, nI_pred, nI_1, gPay_ne, gNote_ne, gLeave_ne, gHan, gHanX, gPop, hn, cl n, cl s, c12_1, c20_3, c37_5, c68_8, c83_9] at hQ ⊢; with_reducible exact hQ)
        · refine aj_return dX10_handles_71 rfl ?_
          first | contradiction | (rw [gHan, if_pos (by assumption), if_pos (by assumption), if_pos (by assumption), gHanX, if_pos (by assumption), if_pos (by assumption)] at hQ; with_reducible exact hQ) | (simp (decide := true) only [↓reduceIte, Bool.false_eq_true, bi_t, bi_f, sw_eq, sw_ne, ne_eq, Nat.reduceEqDiff, not_false_eq_true, nI_pred, nI_1, gPay_ne, gNote_ne, gLeave_ne, gHan, gHanX, gPop, hn, cl n, cl s, c12_1, c20_3, c37_5, c68_8] at hQ ⊢; with_reducible exact hQ)
theorem fin_dr {S : Sx} {n : Nat} {a b c : Int32} (hn : S 30 0 = nI (n + 1)) (hnb : n + 1 < 180) (hF : FrOk S n) : DrOk (sw (sw (sw (sw S 1800 n a) 1900 n b) 2000 n c) 38 0 (nI n)) := by
  refine Or.inr ⟨n, 1, by rw [sw_eq], ?_, by omega, fun i h1 h2 => ?_⟩
  · rw [sw_ne (by decide), sw_ne (by decide), sw_ne (by decide), sw_ne (by decide)]; exact hn
  · obtain rfl : i = n := by omega
    simpa only [FrOk, sw_ne, ne_eq, Nat.reduceEqDiff, not_false_eq_true] using hF
theorem sp_X10_finalOf {d : Nat} {S : Sx} {Q : Option Value → Sx → Prop} {n s : Nat} (hn : S 30 0 = nI (n + 1)) (hnb : n + 1 < 180) (hsb : s < 120) (hD : DrOk S) (hF : FrOk S n) (hl : ¬ S 21 0 = 30 → vp_in (S 21 0) 30)  (hQ : Q none (gFin S n s)) : CC (d + 3) kX10_finalOf layM [.ref 0, .int (nI s)] S Q := by
  refine cc_intro [some _, some _, none] (by decide) (cc_cat (by rfl)) (Nat.le_of_ble_eq_true rfl) (cc_ls (by rfl)) ?_
  refine aj_aload_n (q := 1) (i := 0) dX10_finalOf_0 rfl rfl rfl ?_
  refine aj_getI (q := 4) (f := 30) fl_X10_106 dX10_finalOf_1 rfl lM_0 rfl rfl ?_
  try simp (decide := true) only [sw_eq, sw_ne, ne_eq, Nat.reduceEqDiff, not_false_eq_true, nI_pred, nI_1, gPay_ne, gNote_ne, gLeave_ne, hn, cl n, cl s]
  refine aj_iconst (q := 5) (v := 1) dX10_finalOf_4 rfl (by decide) ?_
  refine aj_isub (q := 6) dX10_finalOf_5 rfl ?_
  try simp (decide := true) only [sw_eq, sw_ne, ne_eq, Nat.reduceEqDiff, not_false_eq_true, nI_pred, nI_1, gPay_ne, gNote_ne, gLeave_ne, hn, cl n, cl s]
  refine aj_istore_n (q := 7) (i := 2) (ls' := [_, _, _]) dX10_finalOf_6 rfl rfl (by decide) rfl ?_
  try simp only [nI_pred]
  refine aj_aload_n (q := 8) (i := 0) dX10_finalOf_7 rfl rfl rfl ?_
  refine aj_getR (q := 11) fl_X10_68 dX10_finalOf_8 rfl lM_0 rfl ?_
  refine aj_iload_n (q := 12) (i := 2) dX10_finalOf_11 rfl rfl rfl ?_
  refine aj_aload_n (q := 13) (i := 0) dX10_finalOf_12 rfl rfl rfl ?_
  refine aj_getI (q := 16) (f := 37) fl_X10_109 dX10_finalOf_13 rfl lM_0 rfl rfl ?_
  try simp (decide := true) only [sw_eq, sw_ne, ne_eq, Nat.reduceEqDiff, not_false_eq_true, nI_pred, nI_1, gPay_ne, gNote_ne, gLeave_ne, hn, cl n, cl s]
  refine aj_iastore (q := 17) (f := 1800) okM dX10_finalOf_16 rfl lM_18 rfl (vp_in_nI (by omega) (by omega)) ?_
  refine aj_aload_n (q := 18) (i := 0) dX10_finalOf_17 rfl rfl rfl ?_
  refine aj_getR (q := 21) fl_X10_71 dX10_finalOf_18 rfl lM_0 rfl ?_
  refine aj_iload_n (q := 22) (i := 2) dX10_finalOf_21 rfl rfl rfl ?_
  refine aj_aload_n (q := 23) (i := 0) dX10_finalOf_22 rfl rfl rfl ?_
  refine aj_getI (q := 26) (f := 27) fl_X10_112 dX10_finalOf_23 rfl lM_0 rfl rfl ?_
  try simp (decide := true) only [sw_eq, sw_ne, ne_eq, Nat.reduceEqDiff, not_false_eq_true, nI_pred, nI_1, gPay_ne, gNote_ne, gLeave_ne, hn, cl n, cl s]
  refine aj_iastore (q := 27) (f := 1900) okM dX10_finalOf_26 rfl lM_19 rfl (vp_in_nI (by omega) (by omega)) ?_
  refine aj_aload_n (q := 28) (i := 0) dX10_finalOf_27 rfl rfl rfl ?_
  refine aj_getR (q := 31) fl_X10_74 dX10_finalOf_28 rfl lM_0 rfl ?_
  refine aj_iload_n (q := 32) (i := 2) dX10_finalOf_31 rfl rfl rfl ?_
  refine aj_aload_n (q := 33) (i := 0) dX10_finalOf_32 rfl rfl rfl ?_
  refine aj_getI (q := 36) (f := 28) fl_X10_115 dX10_finalOf_33 rfl lM_0 rfl rfl ?_
  try simp (decide := true) only [sw_eq, sw_ne, ne_eq, Nat.reduceEqDiff, not_false_eq_true, nI_pred, nI_1, gPay_ne, gNote_ne, gLeave_ne, hn, cl n, cl s]
  refine aj_iastore (q := 37) (f := 2000) okM dX10_finalOf_36 rfl lM_20 rfl (vp_in_nI (by omega) (by omega)) ?_
  refine aj_aload_n (q := 38) (i := 0) dX10_finalOf_37 rfl rfl rfl ?_
  refine aj_getI (q := 41) (f := 37) fl_X10_109 dX10_finalOf_38 rfl lM_0 rfl rfl ?_
  try simp (decide := true) only [sw_eq, sw_ne, ne_eq, Nat.reduceEqDiff, not_false_eq_true, nI_pred, nI_1, gPay_ne, gNote_ne, gLeave_ne, hn, cl n, cl s]
  refine aj_iconst (q := 42) (v := 3) dX10_finalOf_41 rfl (by decide) ?_
  refine aj_icmp_ne (q := 45) (tgt := 70) dX10_finalOf_42 rfl (by decide) (fun c42_1 => ?_) (fun c42_1 => ?_)
  · refine aj_aload_n (q := 71) (i := 0) dX10_finalOf_70 rfl rfl rfl ?_
    refine aj_iconst (q := 72) (v := 3) dX10_finalOf_71 rfl (by decide) ?_
    refine aj_bipush (q := 74) (v := 10) dX10_finalOf_72 rfl (by decide) ?_
    refine aj_callV (q := 77) (As := [_, _]) cl_X10_153 mk_X10_pays dX10_finalOf_74 rfl lM_0 rfl rfl (Nat.le_of_ble_eq_true rfl) (sp_X10_pays (vp_in_iff.mpr (by decide)) (by first | with_reducible exact (((hD.sw rfl).sw rfl).sw rfl) | exact fin_dr hn hnb hF) ?_)
    refine aj_ifB_ne (q := 80) (tgt := 81) dX10_finalOf_77 rfl (by decide) (fun c77_2 => ?_) (fun c77_2 => ?_)
    · refine aj_aload_n (q := 82) (i := 0) dX10_finalOf_81 rfl rfl rfl ?_
      refine aj_iload_n (q := 83) (i := 1) dX10_finalOf_82 rfl rfl rfl ?_
      refine aj_callV (q := 86) (As := [_]) cl_X10_195 mk_X10_note dX10_finalOf_83 rfl lM_0 rfl rfl (Nat.le_of_ble_eq_true rfl) (sp_X10_note (by simp (decide := true) only [sw_eq, sw_ne, ne_eq, Nat.reduceEqDiff, not_false_eq_true, gPay_ne, gNote_ne, gLeave_ne, c42_1, c77_2]; exact hl) ?_)
      refine aj_aload_n (q := 87) (i := 0) dX10_finalOf_86 rfl rfl rfl ?_
      refine aj_aload_n (q := 88) (i := 0) dX10_finalOf_87 rfl rfl rfl ?_
      refine aj_getR (q := 91) fl_X10_20 dX10_finalOf_88 rfl lM_0 rfl ?_
      refine aj_iload_n (q := 92) (i := 1) dX10_finalOf_91 rfl rfl rfl ?_
      refine aj_iaload (q := 93) (f := 300) dX10_finalOf_92 rfl lM_3 rfl (vp_in_nI (by omega) (by omega)) ?_
      try simp (decide := true) only [sw_eq, sw_ne, ne_eq, Nat.reduceEqDiff, not_false_eq_true, nI_pred, nI_1, gPay_ne, gNote_ne, gLeave_ne, hn, cl n, cl s, c42_1, c77_2]
      refine aj_callV (q := 96) (As := [_]) cl_X10_198 mk_X10_second dX10_finalOf_93 rfl lM_0 rfl rfl (Nat.le_of_ble_eq_true rfl) (sp_X10_second (n := n) (by simp (decide := true) only [sw_eq, sw_ne, ne_eq, Nat.reduceEqDiff, not_false_eq_true, gPay_ne, gNote_ne, gLeave_ne, hn, c42_1, c77_2]) hnb ?_)
      refine aj_return dX10_finalOf_96 rfl ?_
      first | contradiction | with_reducible exact hQ | (simp (decide := true) only [↓reduceIte, Bool.false_eq_true, bi_t, bi_f, sw_eq, sw_ne, ne_eq, Nat.reduceEqDiff, not_false_eq_true, nI_pred, nI_1, gPay_ne, gNote_ne, gLeave_ne, gFin, gFinP, gFinW, gPop, hn, cl n, cl s, c42_1, c77_2] at hQ ⊢; with_reducible exact hQ)
    · refine aj_return dX10_finalOf_80 rfl ?_
      first | contradiction | with_reducible exact hQ | (simp (decide := true) only [↓reduceIte, Bool.false_eq_true, bi_t, bi_f, sw_eq, sw_ne, ne_eq, Nat.reduceEqDiff, not_false_eq_true, nI_pred, nI_1, gPay_ne, gNote_ne, gLeave_ne, gFin, gFinP, gFinW, gPop, hn, cl n, cl s, c42_1, c77_2] at hQ ⊢; with_reducible exact hQ)
  · refine aj_aload_n (q := 46) (i := 0) dX10_finalOf_45 rfl rfl rfl ?_
    refine aj_getI (q := 49) (f := 17) fl_X10_128 dX10_finalOf_46 rfl lM_0 rfl rfl ?_
    try simp (decide := true) only [sw_eq, sw_ne, ne_eq, Nat.reduceEqDiff, not_false_eq_true, nI_pred, nI_1, gPay_ne, gNote_ne, gLeave_ne, hn, cl n, cl s, c42_1]
    refine aj_bipush (q := 51) (v := 10) dX10_finalOf_49 rfl (by decide) ?_
    refine aj_icmp_ge (q := 54) (tgt := 65) dX10_finalOf_51 rfl (by decide) (fun c51_3 => ?_) (fun c51_3 => ?_)
    · refine aj_aload_n (q := 66) (i := 0) dX10_finalOf_65 rfl rfl rfl ?_
      refine aj_iload_n (q := 67) (i := 2) dX10_finalOf_66 rfl rfl rfl ?_
      refine aj_putI (q := 70) (f := 38) okM fp_X10_122 dX10_finalOf_67 rfl lM_0 rfl rfl ?_
      refine aj_aload_n (q := 71) (i := 0) dX10_finalOf_70 rfl rfl rfl ?_
      refine aj_iconst (q := 72) (v := 3) dX10_finalOf_71 rfl (by decide) ?_
      refine aj_bipush (q := 74) (v := 10) dX10_finalOf_72 rfl (by decide) ?_
      refine aj_callV (q := 77) (As := [_, _]) cl_X10_153 mk_X10_pays dX10_finalOf_74 rfl lM_0 rfl rfl (Nat.le_of_ble_eq_true rfl) (sp_X10_pays (vp_in_iff.mpr (by decide)) (by first | with_reducible exact (((hD.sw rfl).sw rfl).sw rfl) | exact fin_dr hn hnb hF) ?_)
      refine aj_ifB_ne (q := 80) (tgt := 81) dX10_finalOf_77 rfl (by decide) (fun c77_4 => ?_) (fun c77_4 => ?_)
      · refine aj_aload_n (q := 82) (i := 0) dX10_finalOf_81 rfl rfl rfl ?_
        refine aj_iload_n (q := 83) (i := 1) dX10_finalOf_82 rfl rfl rfl ?_
        refine aj_callV (q := 86) (As := [_]) cl_X10_195 mk_X10_note dX10_finalOf_83 rfl lM_0 rfl rfl (Nat.le_of_ble_eq_true rfl) (sp_X10_note (by simp (decide := true) only [sw_eq, sw_ne, ne_eq, Nat.reduceEqDiff, not_false_eq_true, gPay_ne, gNote_ne, gLeave_ne, c42_1, c51_3, c77_4]; exact hl) ?_)
        refine aj_aload_n (q := 87) (i := 0) dX10_finalOf_86 rfl rfl rfl ?_
        refine aj_aload_n (q := 88) (i := 0) dX10_finalOf_87 rfl rfl rfl ?_
        refine aj_getR (q := 91) fl_X10_20 dX10_finalOf_88 rfl lM_0 rfl ?_
        refine aj_iload_n (q := 92) (i := 1) dX10_finalOf_91 rfl rfl rfl ?_
        refine aj_iaload (q := 93) (f := 300) dX10_finalOf_92 rfl lM_3 rfl (vp_in_nI (by omega) (by omega)) ?_
        try simp (decide := true) only [sw_eq, sw_ne, ne_eq, Nat.reduceEqDiff, not_false_eq_true, nI_pred, nI_1, gPay_ne, gNote_ne, gLeave_ne, hn, cl n, cl s, c42_1, c51_3, c77_4]
        refine aj_callV (q := 96) (As := [_]) cl_X10_198 mk_X10_second dX10_finalOf_93 rfl lM_0 rfl rfl (Nat.le_of_ble_eq_true rfl) (sp_X10_second (n := n) (by simp (decide := true) only [sw_eq, sw_ne, ne_eq, Nat.reduceEqDiff, not_false_eq_true, gPay_ne, gNote_ne, gLeave_ne, hn, c42_1, c51_3, c77_4]) hnb ?_)
        refine aj_return dX10_finalOf_96 rfl ?_
        first | contradiction | with_reducible exact hQ | (simp (decide := true) only [↓reduceIte, Bool.false_eq_true, bi_t, bi_f, sw_eq, sw_ne, ne_eq, Nat.reduceEqDiff, not_false_eq_true, nI_pred, nI_1, gPay_ne, gNote_ne, gLeave_ne, gFin, gFinP, gFinW, gPop, hn, cl n, cl s, c42_1, c51_3, c77_4] at hQ ⊢; with_reducible exact hQ)
      · refine aj_return dX10_finalOf_80 rfl ?_
        first | contradiction | with_reducible exact hQ | (simp (decide := true) only [↓reduceIte, Bool.false_eq_true, bi_t, bi_f, sw_eq, sw_ne, ne_eq, Nat.reduceEqDiff, not_false_eq_true, nI_pred, nI_1, gPay_ne, gNote_ne, gLeave_ne, gFin, gFinP, gFinW, gPop, hn, cl n, cl s, c42_1, c51_3, c77_4] at hQ ⊢; with_reducible exact hQ)
    · refine aj_aload_n (q := 55) (i := 0) dX10_finalOf_54 rfl rfl rfl ?_
      refine aj_dup (q := 56) dX10_finalOf_55 rfl rfl ?_
      refine aj_getI (q := 59) (f := 30) fl_X10_106 dX10_finalOf_56 rfl lM_0 rfl rfl ?_
      try simp (decide := true) only [sw_eq, sw_ne, ne_eq, Nat.reduceEqDiff, not_false_eq_true, nI_pred, nI_1, gPay_ne, gNote_ne, gLeave_ne, hn, cl n, cl s, c42_1, c51_3]
      refine aj_iconst (q := 60) (v := 1) dX10_finalOf_59 rfl (by decide) ?_
      refine aj_isub (q := 61) dX10_finalOf_60 rfl ?_
      try simp (decide := true) only [sw_eq, sw_ne, ne_eq, Nat.reduceEqDiff, not_false_eq_true, nI_pred, nI_1, gPay_ne, gNote_ne, gLeave_ne, hn, cl n, cl s, c42_1, c51_3]
      refine aj_putI (q := 64) (f := 30) okM fp_X10_106 dX10_finalOf_61 rfl lM_0 rfl rfl ?_
      refine aj_return dX10_finalOf_64 rfl ?_
      first | contradiction | with_reducible exact hQ | (simp (decide := true) only [↓reduceIte, Bool.false_eq_true, bi_t, bi_f, sw_eq, sw_ne, ne_eq, Nat.reduceEqDiff, not_false_eq_true, nI_pred, nI_1, gPay_ne, gNote_ne, gLeave_ne, gFin, gFinP, gFinW, gPop, hn, cl n, cl s, c42_1, c51_3] at hQ ⊢; with_reducible exact hQ)
theorem sp_X10_lastDone {d : Nat} {S : Sx} {Q : Option Value → Sx → Prop} {n : Nat} (hn : S 30 0 = nI (n + 1)) (hnb : n + 1 < 180)  (hQ : Q none (gLastD S n)) : CC (d + 1) kX10_lastDone layM [.ref 0] S Q := by
  refine cc_intro [some _, none, none, none] (by decide) (cc_cat (by rfl)) (Nat.le_of_ble_eq_true rfl) (cc_ls (by rfl)) ?_
  refine aj_aload_n (q := 1) (i := 0) dX10_lastDone_0 rfl rfl rfl ?_
  refine aj_getI (q := 4) (f := 30) fl_X10_106 dX10_lastDone_1 rfl lM_0 rfl rfl ?_
  try simp (decide := true) only [sw_eq, sw_ne, ne_eq, Nat.reduceEqDiff, not_false_eq_true, nI_pred, nI_1, gPay_ne, gNote_ne, gLeave_ne, hn, cl n]
  refine aj_iconst (q := 5) (v := 1) dX10_lastDone_4 rfl (by decide) ?_
  refine aj_isub (q := 6) dX10_lastDone_5 rfl ?_
  try simp (decide := true) only [sw_eq, sw_ne, ne_eq, Nat.reduceEqDiff, not_false_eq_true, nI_pred, nI_1, gPay_ne, gNote_ne, gLeave_ne, hn, cl n]
  refine aj_istore_n (q := 7) (i := 1) (ls' := [_, _, _, _]) dX10_lastDone_6 rfl rfl (by decide) rfl ?_
  refine aj_aload_n (q := 8) (i := 0) dX10_lastDone_7 rfl rfl rfl ?_
  refine aj_getI (q := 11) (f := 38) fl_X10_122 dX10_lastDone_8 rfl lM_0 rfl rfl ?_
  try simp (decide := true) only [sw_eq, sw_ne, ne_eq, Nat.reduceEqDiff, not_false_eq_true, nI_pred, nI_1, gPay_ne, gNote_ne, gLeave_ne, hn, cl n]
  refine aj_iload_n (q := 12) (i := 1) dX10_lastDone_11 rfl rfl rfl ?_
  refine aj_icmp_ne (q := 15) (tgt := 26) dX10_lastDone_12 rfl (by decide) (fun c12_1 => ?_) (fun c12_1 => ?_)
  · refine aj_aload_n (q := 27) (i := 0) dX10_lastDone_26 rfl rfl rfl ?_
    refine aj_getI (q := 30) (f := 37) fl_X10_109 dX10_lastDone_27 rfl lM_0 rfl rfl ?_
    try simp (decide := true) only [sw_eq, sw_ne, ne_eq, Nat.reduceEqDiff, not_false_eq_true, nI_pred, nI_1, gPay_ne, gNote_ne, gLeave_ne, hn, cl n, c12_1]
    refine aj_if_ne (q := 33) (tgt := 37) dX10_lastDone_30 rfl (by decide) (fun c30_2 => ?_) (fun c30_2 => ?_)
    · refine aj_iconst (q := 38) (v := 0) dX10_lastDone_37 rfl (by decide) ?_
      refine aj_istore_n (q := 39) (i := 2) (ls' := [_, _, _, _]) dX10_lastDone_38 rfl rfl (by decide) rfl ?_
      refine aj_iload_n (q := 40) (i := 2) dX10_lastDone_39 rfl rfl rfl ?_
      refine aj_if_eq (q := 43) (tgt := 52) dX10_lastDone_40 rfl (by decide) (fun _ => ?_) (fun c => absurd c (by decide))
      refine aj_aload_n (q := 53) (i := 0) dX10_lastDone_52 rfl rfl rfl ?_
      refine aj_getI (q := 56) (f := 37) fl_X10_109 dX10_lastDone_53 rfl lM_0 rfl rfl ?_
      try simp (decide := true) only [sw_eq, sw_ne, ne_eq, Nat.reduceEqDiff, not_false_eq_true, nI_pred, nI_1, gPay_ne, gNote_ne, gLeave_ne, hn, cl n, c12_1, c30_2]
      refine aj_istore_n (q := 57) (i := 3) (ls' := [_, _, _, _]) dX10_lastDone_56 rfl rfl (by decide) rfl ?_
      refine aj_aload_n (q := 58) (i := 0) dX10_lastDone_57 rfl rfl rfl ?_
      refine aj_iload_n (q := 59) (i := 2) dX10_lastDone_58 rfl rfl rfl ?_
      refine aj_if_eq (q := 62) (tgt := 71) dX10_lastDone_59 rfl (by decide) (fun _ => ?_) (fun c => absurd c (by decide))
      refine aj_aload_n (q := 72) (i := 0) dX10_lastDone_71 rfl rfl rfl ?_
      refine aj_getI (q := 75) (f := 27) fl_X10_112 dX10_lastDone_72 rfl lM_0 rfl rfl ?_
      try simp (decide := true) only [sw_eq, sw_ne, ne_eq, Nat.reduceEqDiff, not_false_eq_true, nI_pred, nI_1, gPay_ne, gNote_ne, gLeave_ne, hn, cl n, c12_1, c30_2]
      refine aj_putI (q := 78) (f := 27) okM fp_X10_112 dX10_lastDone_75 rfl lM_0 rfl rfl ?_
      refine aj_aload_n (q := 79) (i := 0) dX10_lastDone_78 rfl rfl rfl ?_
      refine aj_iload_n (q := 80) (i := 2) dX10_lastDone_79 rfl rfl rfl ?_
      refine aj_if_eq (q := 83) (tgt := 92) dX10_lastDone_80 rfl (by decide) (fun _ => ?_) (fun c => absurd c (by decide))
      refine aj_aload_n (q := 93) (i := 0) dX10_lastDone_92 rfl rfl rfl ?_
      refine aj_getI (q := 96) (f := 28) fl_X10_115 dX10_lastDone_93 rfl lM_0 rfl rfl ?_
      try simp (decide := true) only [sw_eq, sw_ne, ne_eq, Nat.reduceEqDiff, not_false_eq_true, nI_pred, nI_1, gPay_ne, gNote_ne, gLeave_ne, hn, cl n, c12_1, c30_2]
      refine aj_putI (q := 99) (f := 28) okM fp_X10_115 dX10_lastDone_96 rfl lM_0 rfl rfl ?_
      refine aj_aload_n (q := 100) (i := 0) dX10_lastDone_99 rfl rfl rfl ?_
      refine aj_iload_n (q := 101) (i := 3) dX10_lastDone_100 rfl rfl rfl ?_
      refine aj_callV (q := 104) (As := [_]) cl_X10_118 mk_X10_comes dX10_lastDone_101 rfl lM_0 rfl rfl (Nat.le_of_ble_eq_true rfl) (sp_X10_comes (n := n) (by simp (decide := true) only [sw_eq, sw_ne, ne_eq, Nat.reduceEqDiff, not_false_eq_true, gPay_ne, gNote_ne, gLeave_ne, hn, c12_1, c30_2]) ?_)
      refine aj_return dX10_lastDone_104 rfl ?_
      first | contradiction | with_reducible exact hQ | (simp (decide := true) only [↓reduceIte, Bool.false_eq_true, bi_t, bi_f, sw_eq, sw_ne, ne_eq, Nat.reduceEqDiff, not_false_eq_true, nI_pred, nI_1, gPay_ne, gNote_ne, gLeave_ne, gLastD, hn, cl n, c12_1, c30_2] at hQ ⊢; with_reducible exact hQ)
    · refine aj_iconst (q := 34) (v := 1) dX10_lastDone_33 rfl (by decide) ?_
      refine aj_goto (tgt := 38) dX10_lastDone_34 (by decide) ?_
      refine aj_istore_n (q := 39) (i := 2) (ls' := [_, _, _, _]) dX10_lastDone_38 rfl rfl (by decide) rfl ?_
      refine aj_iload_n (q := 40) (i := 2) dX10_lastDone_39 rfl rfl rfl ?_
      refine aj_if_eq (q := 43) (tgt := 52) dX10_lastDone_40 rfl (by decide) (fun c => absurd c (by decide)) (fun _ => ?_)
      refine aj_aload_n (q := 44) (i := 0) dX10_lastDone_43 rfl rfl rfl ?_
      refine aj_getR (q := 47) fl_X10_68 dX10_lastDone_44 rfl lM_0 rfl ?_
      refine aj_iload_n (q := 48) (i := 1) dX10_lastDone_47 rfl rfl rfl ?_
      refine aj_iaload (q := 49) (f := 1800) dX10_lastDone_48 rfl lM_18 rfl (vp_in_nI (by omega) (by omega)) ?_
      try simp (decide := true) only [sw_eq, sw_ne, ne_eq, Nat.reduceEqDiff, not_false_eq_true, nI_pred, nI_1, gPay_ne, gNote_ne, gLeave_ne, hn, cl n, c12_1, c30_2]
      refine aj_goto (tgt := 56) dX10_lastDone_49 (by decide) ?_
      refine aj_istore_n (q := 57) (i := 3) (ls' := [_, _, _, _]) dX10_lastDone_56 rfl rfl (by decide) rfl ?_
      refine aj_aload_n (q := 58) (i := 0) dX10_lastDone_57 rfl rfl rfl ?_
      refine aj_iload_n (q := 59) (i := 2) dX10_lastDone_58 rfl rfl rfl ?_
      refine aj_if_eq (q := 62) (tgt := 71) dX10_lastDone_59 rfl (by decide) (fun c => absurd c (by decide)) (fun _ => ?_)
      refine aj_aload_n (q := 63) (i := 0) dX10_lastDone_62 rfl rfl rfl ?_
      refine aj_getR (q := 66) fl_X10_71 dX10_lastDone_63 rfl lM_0 rfl ?_
      refine aj_iload_n (q := 67) (i := 1) dX10_lastDone_66 rfl rfl rfl ?_
      refine aj_iaload (q := 68) (f := 1900) dX10_lastDone_67 rfl lM_19 rfl (vp_in_nI (by omega) (by omega)) ?_
      try simp (decide := true) only [sw_eq, sw_ne, ne_eq, Nat.reduceEqDiff, not_false_eq_true, nI_pred, nI_1, gPay_ne, gNote_ne, gLeave_ne, hn, cl n, c12_1, c30_2]
      refine aj_goto (tgt := 75) dX10_lastDone_68 (by decide) ?_
      refine aj_putI (q := 78) (f := 27) okM fp_X10_112 dX10_lastDone_75 rfl lM_0 rfl rfl ?_
      refine aj_aload_n (q := 79) (i := 0) dX10_lastDone_78 rfl rfl rfl ?_
      refine aj_iload_n (q := 80) (i := 2) dX10_lastDone_79 rfl rfl rfl ?_
      refine aj_if_eq (q := 83) (tgt := 92) dX10_lastDone_80 rfl (by decide) (fun c => absurd c (by decide)) (fun _ => ?_)
      refine aj_aload_n (q := 84) (i := 0) dX10_lastDone_83 rfl rfl rfl ?_
      refine aj_getR (q := 87) fl_X10_74 dX10_lastDone_84 rfl lM_0 rfl ?_
      refine aj_iload_n (q := 88) (i := 1) dX10_lastDone_87 rfl rfl rfl ?_
      refine aj_iaload (q := 89) (f := 2000) dX10_lastDone_88 rfl lM_20 rfl (vp_in_nI (by omega) (by omega)) ?_
      try simp (decide := true) only [sw_eq, sw_ne, ne_eq, Nat.reduceEqDiff, not_false_eq_true, nI_pred, nI_1, gPay_ne, gNote_ne, gLeave_ne, hn, cl n, c12_1, c30_2]
      refine aj_goto (tgt := 96) dX10_lastDone_89 (by decide) ?_
      refine aj_putI (q := 99) (f := 28) okM fp_X10_115 dX10_lastDone_96 rfl lM_0 rfl rfl ?_
      refine aj_aload_n (q := 100) (i := 0) dX10_lastDone_99 rfl rfl rfl ?_
      refine aj_iload_n (q := 101) (i := 3) dX10_lastDone_100 rfl rfl rfl ?_
      refine aj_callV (q := 104) (As := [_]) cl_X10_118 mk_X10_comes dX10_lastDone_101 rfl lM_0 rfl rfl (Nat.le_of_ble_eq_true rfl) (sp_X10_comes (n := n) (by simp (decide := true) only [sw_eq, sw_ne, ne_eq, Nat.reduceEqDiff, not_false_eq_true, gPay_ne, gNote_ne, gLeave_ne, hn, c12_1, c30_2]) ?_)
      refine aj_return dX10_lastDone_104 rfl ?_
      first | contradiction | with_reducible exact hQ | (simp (decide := true) only [↓reduceIte, Bool.false_eq_true, bi_t, bi_f, sw_eq, sw_ne, ne_eq, Nat.reduceEqDiff, not_false_eq_true, nI_pred, nI_1, gPay_ne, gNote_ne, gLeave_ne, gLastD, hn, cl n, c12_1, c30_2] at hQ ⊢; with_reducible exact hQ)
  · refine aj_aload_n (q := 16) (i := 0) dX10_lastDone_15 rfl rfl rfl ?_
    refine aj_iconst (q := 17) (v := (-1)) dX10_lastDone_16 rfl (by decide) ?_
    refine aj_putI (q := 20) (f := 38) okM fp_X10_122 dX10_lastDone_17 rfl lM_0 rfl rfl ?_
    refine aj_aload_n (q := 21) (i := 0) dX10_lastDone_20 rfl rfl rfl ?_
    refine aj_iconst (q := 22) (v := 3) dX10_lastDone_21 rfl (by decide) ?_
    refine aj_callV (q := 25) (As := [_]) cl_X10_118 mk_X10_comes dX10_lastDone_22 rfl lM_0 rfl rfl (Nat.le_of_ble_eq_true rfl) (sp_X10_comes (n := n) (by simp (decide := true) only [sw_eq, sw_ne, ne_eq, Nat.reduceEqDiff, not_false_eq_true, gPay_ne, gNote_ne, gLeave_ne, hn, c12_1]) ?_)
    refine aj_return dX10_lastDone_25 rfl ?_
    first | contradiction | with_reducible exact hQ | (simp (decide := true) only [↓reduceIte, Bool.false_eq_true, bi_t, bi_f, sw_eq, sw_ne, ne_eq, Nat.reduceEqDiff, not_false_eq_true, nI_pred, nI_1, gPay_ne, gNote_ne, gLeave_ne, gLastD, hn, cl n, c12_1] at hQ ⊢; with_reducible exact hQ)
theorem sp_X10_tell_12 {d : Nat} {S : Sx} {Q : Option Value → Sx → Prop} {n s : Nat} (hn : S 30 0 = nI (n + 1)) (hnb : n + 1 < 180) (hs : S 1600 n = nI s) (hsb : s < 120) (ht : S 100 s = 12)  (hQ : Q none (if S 1700 n = 1 then (if S 37 0 = 0 then gSecond S n (S 300 s) else gPop S n) else gPop S n)) : CC (d + 4) kX10_tell layM [.ref 0] S Q := by
  refine cc_intro [some _, none, none] (by decide) (cc_cat (by rfl)) (Nat.le_of_ble_eq_true rfl) (cc_ls (by rfl)) ?_
  refine aj_aload_n (q := 1) (i := 0) dX10_tell_0 rfl rfl rfl ?_
  refine aj_getI (q := 4) (f := 30) fl_X10_106 dX10_tell_1 rfl lM_0 rfl rfl ?_
  try simp (decide := true) only [sw_eq, sw_ne, ne_eq, Nat.reduceEqDiff, not_false_eq_true, nI_pred, nI_1, gPay_ne, gNote_ne, gLeave_ne, hn, hs, ht, cl n, cl s]
  refine aj_iconst (q := 5) (v := 1) dX10_tell_4 rfl (by decide) ?_
  refine aj_isub (q := 6) dX10_tell_5 rfl ?_
  try simp (decide := true) only [sw_eq, sw_ne, ne_eq, Nat.reduceEqDiff, not_false_eq_true, nI_pred, nI_1, gPay_ne, gNote_ne, gLeave_ne, hn, hs, ht, cl n, cl s]
  refine aj_istore_n (q := 7) (i := 1) (ls' := [_, _, _]) dX10_tell_6 rfl rfl (by decide) rfl ?_
  refine aj_aload_n (q := 8) (i := 0) dX10_tell_7 rfl rfl rfl ?_
  refine aj_getR (q := 11) fl_X10_62 dX10_tell_8 rfl lM_0 rfl ?_
  refine aj_iload_n (q := 12) (i := 1) dX10_tell_11 rfl rfl rfl ?_
  refine aj_iaload (q := 13) (f := 1600) dX10_tell_12 rfl lM_16 rfl (vp_in_nI (by omega) (by omega)) ?_
  try simp (decide := true) only [sw_eq, sw_ne, ne_eq, Nat.reduceEqDiff, not_false_eq_true, nI_pred, nI_1, gPay_ne, gNote_ne, gLeave_ne, hn, hs, ht, cl n, cl s]
  refine aj_istore_n (q := 14) (i := 2) (ls' := [_, _, _]) dX10_tell_13 rfl rfl (by decide) rfl ?_
  refine aj_aload_n (q := 15) (i := 0) dX10_tell_14 rfl rfl rfl ?_
  refine aj_getR (q := 18) fl_X10_13 dX10_tell_15 rfl lM_0 rfl ?_
  refine aj_iload_n (q := 19) (i := 2) dX10_tell_18 rfl rfl rfl ?_
  refine aj_iaload (q := 20) (f := 100) dX10_tell_19 rfl lM_1 rfl (vp_in_nI (by omega) (by omega)) ?_
  try simp (decide := true) only [sw_eq, sw_ne, ne_eq, Nat.reduceEqDiff, not_false_eq_true, nI_pred, nI_1, gPay_ne, gNote_ne, gLeave_ne, hn, hs, ht, cl n, cl s]
  refine aj_tsIn (tgt := 72) (off := 52) dX10_tell_20 (by rw [show (_ : Int32) = 12 from rfl]; decide) (by rw [show (_ : Int32) = 12 from rfl]; decide) (by rw [show (_ : Int32) = 12 from rfl]; rfl) (by decide) ?_
  refine aj_aload_n (q := 73) (i := 0) dX10_tell_72 rfl rfl rfl ?_
  refine aj_getR (q := 76) fl_X10_65 dX10_tell_73 rfl lM_0 rfl ?_
  refine aj_iload_n (q := 77) (i := 1) dX10_tell_76 rfl rfl rfl ?_
  refine aj_iaload (q := 78) (f := 1700) dX10_tell_77 rfl lM_17 rfl (vp_in_nI (by omega) (by omega)) ?_
  try simp (decide := true) only [sw_eq, sw_ne, ne_eq, Nat.reduceEqDiff, not_false_eq_true, nI_pred, nI_1, gPay_ne, gNote_ne, gLeave_ne, hn, hs, ht, cl n, cl s]
  refine aj_iconst (q := 79) (v := 1) dX10_tell_78 rfl (by decide) ?_
  refine aj_icmp_ne (q := 82) (tgt := 102) dX10_tell_79 rfl (by decide) (fun c79_1 => ?_) (fun c79_1 => ?_)
  · refine aj_aload_n (q := 103) (i := 0) dX10_tell_102 rfl rfl rfl ?_
    refine aj_dup (q := 104) dX10_tell_103 rfl rfl ?_
    refine aj_getI (q := 107) (f := 30) fl_X10_106 dX10_tell_104 rfl lM_0 rfl rfl ?_
    try simp (decide := true) only [sw_eq, sw_ne, ne_eq, Nat.reduceEqDiff, not_false_eq_true, nI_pred, nI_1, gPay_ne, gNote_ne, gLeave_ne, hn, hs, ht, cl n, cl s, c79_1]
    refine aj_iconst (q := 108) (v := 1) dX10_tell_107 rfl (by decide) ?_
    refine aj_isub (q := 109) dX10_tell_108 rfl ?_
    try simp (decide := true) only [sw_eq, sw_ne, ne_eq, Nat.reduceEqDiff, not_false_eq_true, nI_pred, nI_1, gPay_ne, gNote_ne, gLeave_ne, hn, hs, ht, cl n, cl s, c79_1]
    refine aj_putI (q := 112) (f := 30) okM fp_X10_106 dX10_tell_109 rfl lM_0 rfl rfl ?_
    refine aj_return dX10_tell_112 rfl ?_
    first | contradiction | with_reducible exact hQ | (simp (decide := true) only [↓reduceIte, Bool.false_eq_true, bi_t, bi_f, sw_eq, sw_ne, ne_eq, Nat.reduceEqDiff, not_false_eq_true, nI_pred, nI_1, gPay_ne, gNote_ne, gLeave_ne, gPop, hn, hs, ht, cl n, cl s, c79_1] at hQ ⊢; with_reducible exact hQ)
  · refine aj_aload_n (q := 83) (i := 0) dX10_tell_82 rfl rfl rfl ?_
    refine aj_getI (q := 86) (f := 37) fl_X10_109 dX10_tell_83 rfl lM_0 rfl rfl ?_
    try simp (decide := true) only [sw_eq, sw_ne, ne_eq, Nat.reduceEqDiff, not_false_eq_true, nI_pred, nI_1, gPay_ne, gNote_ne, gLeave_ne, hn, hs, ht, cl n, cl s, c79_1]
    refine aj_if_ne (q := 89) (tgt := 102) dX10_tell_86 rfl (by decide) (fun c86_2 => ?_) (fun c86_2 => ?_)
    · refine aj_aload_n (q := 103) (i := 0) dX10_tell_102 rfl rfl rfl ?_
      refine aj_dup (q := 104) dX10_tell_103 rfl rfl ?_
      refine aj_getI (q := 107) (f := 30) fl_X10_106 dX10_tell_104 rfl lM_0 rfl rfl ?_
      try simp (decide := true) only [sw_eq, sw_ne, ne_eq, Nat.reduceEqDiff, not_false_eq_true, nI_pred, nI_1, gPay_ne, gNote_ne, gLeave_ne, hn, hs, ht, cl n, cl s, c79_1, c86_2]
      refine aj_iconst (q := 108) (v := 1) dX10_tell_107 rfl (by decide) ?_
      refine aj_isub (q := 109) dX10_tell_108 rfl ?_
      try simp (decide := true) only [sw_eq, sw_ne, ne_eq, Nat.reduceEqDiff, not_false_eq_true, nI_pred, nI_1, gPay_ne, gNote_ne, gLeave_ne, hn, hs, ht, cl n, cl s, c79_1, c86_2]
      refine aj_putI (q := 112) (f := 30) okM fp_X10_106 dX10_tell_109 rfl lM_0 rfl rfl ?_
      refine aj_return dX10_tell_112 rfl ?_
      first | contradiction | with_reducible exact hQ | (simp (decide := true) only [↓reduceIte, Bool.false_eq_true, bi_t, bi_f, sw_eq, sw_ne, ne_eq, Nat.reduceEqDiff, not_false_eq_true, nI_pred, nI_1, gPay_ne, gNote_ne, gLeave_ne, gPop, hn, hs, ht, cl n, cl s, c79_1, c86_2] at hQ ⊢; with_reducible exact hQ)
    · refine aj_aload_n (q := 90) (i := 0) dX10_tell_89 rfl rfl rfl ?_
      refine aj_aload_n (q := 91) (i := 0) dX10_tell_90 rfl rfl rfl ?_
      refine aj_getR (q := 94) fl_X10_20 dX10_tell_91 rfl lM_0 rfl ?_
      refine aj_iload_n (q := 95) (i := 2) dX10_tell_94 rfl rfl rfl ?_
      refine aj_iaload (q := 96) (f := 300) dX10_tell_95 rfl lM_3 rfl (vp_in_nI (by omega) (by omega)) ?_
      try simp (decide := true) only [sw_eq, sw_ne, ne_eq, Nat.reduceEqDiff, not_false_eq_true, nI_pred, nI_1, gPay_ne, gNote_ne, gLeave_ne, hn, hs, ht, cl n, cl s, c79_1, c86_2]
      refine aj_callV (q := 99) (As := [_]) cl_X10_198 mk_X10_second dX10_tell_96 rfl lM_0 rfl rfl (Nat.le_of_ble_eq_true rfl) (sp_X10_second (n := n) (by simp (decide := true) only [sw_eq, sw_ne, ne_eq, Nat.reduceEqDiff, not_false_eq_true, gPay_ne, gNote_ne, gLeave_ne, hn, c79_1, c86_2]) hnb ?_)
      refine aj_goto (tgt := 112) dX10_tell_99 (by decide) ?_
      refine aj_return dX10_tell_112 rfl ?_
      first | contradiction | with_reducible exact hQ | (simp (decide := true) only [↓reduceIte, Bool.false_eq_true, bi_t, bi_f, sw_eq, sw_ne, ne_eq, Nat.reduceEqDiff, not_false_eq_true, nI_pred, nI_1, gPay_ne, gNote_ne, gLeave_ne, gPop, hn, hs, ht, cl n, cl s, c79_1, c86_2] at hQ ⊢; with_reducible exact hQ)
theorem sp_X10_tell_13 {d : Nat} {S : Sx} {Q : Option Value → Sx → Prop} {n s : Nat} (hn : S 30 0 = nI (n + 1)) (hnb : n + 1 < 180) (hs : S 1600 n = nI s) (hsb : s < 120) (ht : S 100 s = 13)  (hQ : Q none (gPop S n)) : CC (d + 4) kX10_tell layM [.ref 0] S Q := by
  refine cc_intro [some _, none, none] (by decide) (cc_cat (by rfl)) (Nat.le_of_ble_eq_true rfl) (cc_ls (by rfl)) ?_
  refine aj_aload_n (q := 1) (i := 0) dX10_tell_0 rfl rfl rfl ?_
  refine aj_getI (q := 4) (f := 30) fl_X10_106 dX10_tell_1 rfl lM_0 rfl rfl ?_
  try simp (decide := true) only [sw_eq, sw_ne, ne_eq, Nat.reduceEqDiff, not_false_eq_true, nI_pred, nI_1, gPay_ne, gNote_ne, gLeave_ne, hn, hs, ht, cl n, cl s]
  refine aj_iconst (q := 5) (v := 1) dX10_tell_4 rfl (by decide) ?_
  refine aj_isub (q := 6) dX10_tell_5 rfl ?_
  try simp (decide := true) only [sw_eq, sw_ne, ne_eq, Nat.reduceEqDiff, not_false_eq_true, nI_pred, nI_1, gPay_ne, gNote_ne, gLeave_ne, hn, hs, ht, cl n, cl s]
  refine aj_istore_n (q := 7) (i := 1) (ls' := [_, _, _]) dX10_tell_6 rfl rfl (by decide) rfl ?_
  refine aj_aload_n (q := 8) (i := 0) dX10_tell_7 rfl rfl rfl ?_
  refine aj_getR (q := 11) fl_X10_62 dX10_tell_8 rfl lM_0 rfl ?_
  refine aj_iload_n (q := 12) (i := 1) dX10_tell_11 rfl rfl rfl ?_
  refine aj_iaload (q := 13) (f := 1600) dX10_tell_12 rfl lM_16 rfl (vp_in_nI (by omega) (by omega)) ?_
  try simp (decide := true) only [sw_eq, sw_ne, ne_eq, Nat.reduceEqDiff, not_false_eq_true, nI_pred, nI_1, gPay_ne, gNote_ne, gLeave_ne, hn, hs, ht, cl n, cl s]
  refine aj_istore_n (q := 14) (i := 2) (ls' := [_, _, _]) dX10_tell_13 rfl rfl (by decide) rfl ?_
  refine aj_aload_n (q := 15) (i := 0) dX10_tell_14 rfl rfl rfl ?_
  refine aj_getR (q := 18) fl_X10_13 dX10_tell_15 rfl lM_0 rfl ?_
  refine aj_iload_n (q := 19) (i := 2) dX10_tell_18 rfl rfl rfl ?_
  refine aj_iaload (q := 20) (f := 100) dX10_tell_19 rfl lM_1 rfl (vp_in_nI (by omega) (by omega)) ?_
  try simp (decide := true) only [sw_eq, sw_ne, ne_eq, Nat.reduceEqDiff, not_false_eq_true, nI_pred, nI_1, gPay_ne, gNote_ne, gLeave_ne, hn, hs, ht, cl n, cl s]
  refine aj_tsIn (tgt := 219) (off := 199) dX10_tell_20 (by rw [show (_ : Int32) = 13 from rfl]; decide) (by rw [show (_ : Int32) = 13 from rfl]; decide) (by rw [show (_ : Int32) = 13 from rfl]; rfl) (by decide) ?_
  refine aj_aload_n (q := 220) (i := 0) dX10_tell_219 rfl rfl rfl ?_
  refine aj_dup (q := 221) dX10_tell_220 rfl rfl ?_
  refine aj_getI (q := 224) (f := 30) fl_X10_106 dX10_tell_221 rfl lM_0 rfl rfl ?_
  try simp (decide := true) only [sw_eq, sw_ne, ne_eq, Nat.reduceEqDiff, not_false_eq_true, nI_pred, nI_1, gPay_ne, gNote_ne, gLeave_ne, hn, hs, ht, cl n, cl s]
  refine aj_iconst (q := 225) (v := 1) dX10_tell_224 rfl (by decide) ?_
  refine aj_isub (q := 226) dX10_tell_225 rfl ?_
  try simp (decide := true) only [sw_eq, sw_ne, ne_eq, Nat.reduceEqDiff, not_false_eq_true, nI_pred, nI_1, gPay_ne, gNote_ne, gLeave_ne, hn, hs, ht, cl n, cl s]
  refine aj_putI (q := 229) (f := 30) okM fp_X10_106 dX10_tell_226 rfl lM_0 rfl rfl ?_
  refine aj_return dX10_tell_229 rfl ?_
  first | contradiction | with_reducible exact hQ | (simp (decide := true) only [↓reduceIte, Bool.false_eq_true, bi_t, bi_f, sw_eq, sw_ne, ne_eq, Nat.reduceEqDiff, not_false_eq_true, nI_pred, nI_1, gPay_ne, gNote_ne, gLeave_ne, gPop, hn, hs, ht, cl n, cl s, ] at hQ ⊢; with_reducible exact hQ)
theorem sp_X10_tell_6 {d : Nat} {S : Sx} {Q : Option Value → Sx → Prop} {n s : Nat} (hn : S 30 0 = nI (n + 1)) (hnb : n + 1 < 180) (hs : S 1600 n = nI s) (hsb : s < 120) (ht : S 100 s = 6)  (hQ : Q none (gPop S n)) : CC (d + 4) kX10_tell layM [.ref 0] S Q := by
  refine cc_intro [some _, none, none] (by decide) (cc_cat (by rfl)) (Nat.le_of_ble_eq_true rfl) (cc_ls (by rfl)) ?_
  refine aj_aload_n (q := 1) (i := 0) dX10_tell_0 rfl rfl rfl ?_
  refine aj_getI (q := 4) (f := 30) fl_X10_106 dX10_tell_1 rfl lM_0 rfl rfl ?_
  try simp (decide := true) only [sw_eq, sw_ne, ne_eq, Nat.reduceEqDiff, not_false_eq_true, nI_pred, nI_1, gPay_ne, gNote_ne, gLeave_ne, hn, hs, ht, cl n, cl s]
  refine aj_iconst (q := 5) (v := 1) dX10_tell_4 rfl (by decide) ?_
  refine aj_isub (q := 6) dX10_tell_5 rfl ?_
  try simp (decide := true) only [sw_eq, sw_ne, ne_eq, Nat.reduceEqDiff, not_false_eq_true, nI_pred, nI_1, gPay_ne, gNote_ne, gLeave_ne, hn, hs, ht, cl n, cl s]
  refine aj_istore_n (q := 7) (i := 1) (ls' := [_, _, _]) dX10_tell_6 rfl rfl (by decide) rfl ?_
  refine aj_aload_n (q := 8) (i := 0) dX10_tell_7 rfl rfl rfl ?_
  refine aj_getR (q := 11) fl_X10_62 dX10_tell_8 rfl lM_0 rfl ?_
  refine aj_iload_n (q := 12) (i := 1) dX10_tell_11 rfl rfl rfl ?_
  refine aj_iaload (q := 13) (f := 1600) dX10_tell_12 rfl lM_16 rfl (vp_in_nI (by omega) (by omega)) ?_
  try simp (decide := true) only [sw_eq, sw_ne, ne_eq, Nat.reduceEqDiff, not_false_eq_true, nI_pred, nI_1, gPay_ne, gNote_ne, gLeave_ne, hn, hs, ht, cl n, cl s]
  refine aj_istore_n (q := 14) (i := 2) (ls' := [_, _, _]) dX10_tell_13 rfl rfl (by decide) rfl ?_
  refine aj_aload_n (q := 15) (i := 0) dX10_tell_14 rfl rfl rfl ?_
  refine aj_getR (q := 18) fl_X10_13 dX10_tell_15 rfl lM_0 rfl ?_
  refine aj_iload_n (q := 19) (i := 2) dX10_tell_18 rfl rfl rfl ?_
  refine aj_iaload (q := 20) (f := 100) dX10_tell_19 rfl lM_1 rfl (vp_in_nI (by omega) (by omega)) ?_
  try simp (decide := true) only [sw_eq, sw_ne, ne_eq, Nat.reduceEqDiff, not_false_eq_true, nI_pred, nI_1, gPay_ne, gNote_ne, gLeave_ne, hn, hs, ht, cl n, cl s]
  refine aj_tsOut (tgt := 219) dX10_tell_20 (by rw [show (_ : Int32) = 6 from rfl]; decide) (by decide) ?_
  refine aj_aload_n (q := 220) (i := 0) dX10_tell_219 rfl rfl rfl ?_
  refine aj_dup (q := 221) dX10_tell_220 rfl rfl ?_
  refine aj_getI (q := 224) (f := 30) fl_X10_106 dX10_tell_221 rfl lM_0 rfl rfl ?_
  try simp (decide := true) only [sw_eq, sw_ne, ne_eq, Nat.reduceEqDiff, not_false_eq_true, nI_pred, nI_1, gPay_ne, gNote_ne, gLeave_ne, hn, hs, ht, cl n, cl s]
  refine aj_iconst (q := 225) (v := 1) dX10_tell_224 rfl (by decide) ?_
  refine aj_isub (q := 226) dX10_tell_225 rfl ?_
  try simp (decide := true) only [sw_eq, sw_ne, ne_eq, Nat.reduceEqDiff, not_false_eq_true, nI_pred, nI_1, gPay_ne, gNote_ne, gLeave_ne, hn, hs, ht, cl n, cl s]
  refine aj_putI (q := 229) (f := 30) okM fp_X10_106 dX10_tell_226 rfl lM_0 rfl rfl ?_
  refine aj_return dX10_tell_229 rfl ?_
  first | contradiction | with_reducible exact hQ | (simp (decide := true) only [↓reduceIte, Bool.false_eq_true, bi_t, bi_f, sw_eq, sw_ne, ne_eq, Nat.reduceEqDiff, not_false_eq_true, nI_pred, nI_1, gPay_ne, gNote_ne, gLeave_ne, gPop, hn, hs, ht, cl n, cl s, ] at hQ ⊢; with_reducible exact hQ)
theorem sp_X10_tell_14 {d : Nat} {S : Sx} {Q : Option Value → Sx → Prop} {n s : Nat} (hn : S 30 0 = nI (n + 1)) (hnb : n + 1 < 180) (hs : S 1600 n = nI s) (hsb : s < 120) (ht : S 100 s = 14) (hD : DrOk S)  (hQ : Q none (if S 37 0 = 0 then (if gPayB S 1 then sw (gPayS S 0 1) 37 0 (-1) else gPayS S 0 1) else gPop S n)) : CC (d + 4) kX10_tell layM [.ref 0] S Q := by
  refine cc_intro [some _, none, none] (by decide) (cc_cat (by rfl)) (Nat.le_of_ble_eq_true rfl) (cc_ls (by rfl)) ?_
  refine aj_aload_n (q := 1) (i := 0) dX10_tell_0 rfl rfl rfl ?_
  refine aj_getI (q := 4) (f := 30) fl_X10_106 dX10_tell_1 rfl lM_0 rfl rfl ?_
  try simp (decide := true) only [sw_eq, sw_ne, ne_eq, Nat.reduceEqDiff, not_false_eq_true, nI_pred, nI_1, gPay_ne, gNote_ne, gLeave_ne, hn, hs, ht, cl n, cl s]
  refine aj_iconst (q := 5) (v := 1) dX10_tell_4 rfl (by decide) ?_
  refine aj_isub (q := 6) dX10_tell_5 rfl ?_
  try simp (decide := true) only [sw_eq, sw_ne, ne_eq, Nat.reduceEqDiff, not_false_eq_true, nI_pred, nI_1, gPay_ne, gNote_ne, gLeave_ne, hn, hs, ht, cl n, cl s]
  refine aj_istore_n (q := 7) (i := 1) (ls' := [_, _, _]) dX10_tell_6 rfl rfl (by decide) rfl ?_
  refine aj_aload_n (q := 8) (i := 0) dX10_tell_7 rfl rfl rfl ?_
  refine aj_getR (q := 11) fl_X10_62 dX10_tell_8 rfl lM_0 rfl ?_
  refine aj_iload_n (q := 12) (i := 1) dX10_tell_11 rfl rfl rfl ?_
  refine aj_iaload (q := 13) (f := 1600) dX10_tell_12 rfl lM_16 rfl (vp_in_nI (by omega) (by omega)) ?_
  try simp (decide := true) only [sw_eq, sw_ne, ne_eq, Nat.reduceEqDiff, not_false_eq_true, nI_pred, nI_1, gPay_ne, gNote_ne, gLeave_ne, hn, hs, ht, cl n, cl s]
  refine aj_istore_n (q := 14) (i := 2) (ls' := [_, _, _]) dX10_tell_13 rfl rfl (by decide) rfl ?_
  refine aj_aload_n (q := 15) (i := 0) dX10_tell_14 rfl rfl rfl ?_
  refine aj_getR (q := 18) fl_X10_13 dX10_tell_15 rfl lM_0 rfl ?_
  refine aj_iload_n (q := 19) (i := 2) dX10_tell_18 rfl rfl rfl ?_
  refine aj_iaload (q := 20) (f := 100) dX10_tell_19 rfl lM_1 rfl (vp_in_nI (by omega) (by omega)) ?_
  try simp (decide := true) only [sw_eq, sw_ne, ne_eq, Nat.reduceEqDiff, not_false_eq_true, nI_pred, nI_1, gPay_ne, gNote_ne, gLeave_ne, hn, hs, ht, cl n, cl s]
  refine aj_tsIn (tgt := 113) (off := 93) dX10_tell_20 (by rw [show (_ : Int32) = 14 from rfl]; decide) (by rw [show (_ : Int32) = 14 from rfl]; decide) (by rw [show (_ : Int32) = 14 from rfl]; rfl) (by decide) ?_
  refine aj_aload_n (q := 114) (i := 0) dX10_tell_113 rfl rfl rfl ?_
  refine aj_getI (q := 117) (f := 37) fl_X10_109 dX10_tell_114 rfl lM_0 rfl rfl ?_
  try simp (decide := true) only [sw_eq, sw_ne, ne_eq, Nat.reduceEqDiff, not_false_eq_true, nI_pred, nI_1, gPay_ne, gNote_ne, gLeave_ne, hn, hs, ht, cl n, cl s]
  refine aj_if_eq (q := 120) (tgt := 133) dX10_tell_117 rfl (by decide) (fun c117_1 => ?_) (fun c117_1 => ?_)
  · refine aj_aload_n (q := 134) (i := 0) dX10_tell_133 rfl rfl rfl ?_
    refine aj_iconst (q := 135) (v := 0) dX10_tell_134 rfl (by decide) ?_
    refine aj_iconst (q := 136) (v := 1) dX10_tell_135 rfl (by decide) ?_
    refine aj_callV (q := 139) (As := [_, _]) cl_X10_153 mk_X10_pays dX10_tell_136 rfl lM_0 rfl rfl (Nat.le_of_ble_eq_true rfl) (sp_X10_pays (vp_in_iff.mpr (by decide)) hD ?_)
    refine aj_ifB_eq (q := 142) (tgt := 147) dX10_tell_139 rfl (by decide) (fun c139_2 => ?_) (fun c139_2 => ?_)
    · refine aj_return dX10_tell_147 rfl ?_
      first | contradiction | with_reducible exact hQ | (simp (decide := true) only [↓reduceIte, Bool.false_eq_true, bi_t, bi_f, sw_eq, sw_ne, ne_eq, Nat.reduceEqDiff, not_false_eq_true, nI_pred, nI_1, gPay_ne, gNote_ne, gLeave_ne, gPop, hn, hs, ht, cl n, cl s, c117_1, c139_2] at hQ ⊢; with_reducible exact hQ)
    · refine aj_aload_n (q := 143) (i := 0) dX10_tell_142 rfl rfl rfl ?_
      refine aj_iconst (q := 144) (v := (-1)) dX10_tell_143 rfl (by decide) ?_
      refine aj_putI (q := 147) (f := 37) okM fp_X10_109 dX10_tell_144 rfl lM_0 rfl rfl ?_
      refine aj_return dX10_tell_147 rfl ?_
      first | contradiction | with_reducible exact hQ | (simp (decide := true) only [↓reduceIte, Bool.false_eq_true, bi_t, bi_f, sw_eq, sw_ne, ne_eq, Nat.reduceEqDiff, not_false_eq_true, nI_pred, nI_1, gPay_ne, gNote_ne, gLeave_ne, gPop, hn, hs, ht, cl n, cl s, c117_1, c139_2] at hQ ⊢; with_reducible exact hQ)
  · refine aj_aload_n (q := 121) (i := 0) dX10_tell_120 rfl rfl rfl ?_
    refine aj_dup (q := 122) dX10_tell_121 rfl rfl ?_
    refine aj_getI (q := 125) (f := 30) fl_X10_106 dX10_tell_122 rfl lM_0 rfl rfl ?_
    try simp (decide := true) only [sw_eq, sw_ne, ne_eq, Nat.reduceEqDiff, not_false_eq_true, nI_pred, nI_1, gPay_ne, gNote_ne, gLeave_ne, hn, hs, ht, cl n, cl s, c117_1]
    refine aj_iconst (q := 126) (v := 1) dX10_tell_125 rfl (by decide) ?_
    refine aj_isub (q := 127) dX10_tell_126 rfl ?_
    try simp (decide := true) only [sw_eq, sw_ne, ne_eq, Nat.reduceEqDiff, not_false_eq_true, nI_pred, nI_1, gPay_ne, gNote_ne, gLeave_ne, hn, hs, ht, cl n, cl s, c117_1]
    refine aj_putI (q := 130) (f := 30) okM fp_X10_106 dX10_tell_127 rfl lM_0 rfl rfl ?_
    refine aj_goto (tgt := 147) dX10_tell_130 (by decide) ?_
    refine aj_return dX10_tell_147 rfl ?_
    first | contradiction | with_reducible exact hQ | (simp (decide := true) only [↓reduceIte, Bool.false_eq_true, bi_t, bi_f, sw_eq, sw_ne, ne_eq, Nat.reduceEqDiff, not_false_eq_true, nI_pred, nI_1, gPay_ne, gNote_ne, gLeave_ne, gPop, hn, hs, ht, cl n, cl s, c117_1] at hQ ⊢; with_reducible exact hQ)
theorem sp_X10_tell_15 {d : Nat} {S : Sx} {Q : Option Value → Sx → Prop} {n s : Nat} (hn : S 30 0 = nI (n + 1)) (hnb : n + 1 < 180) (hs : S 1600 n = nI s) (hsb : s < 120) (ht : S 100 s = 15)  (hQ : Q none (if S 37 0 = 1 then gComes (gLeave S n s) n 0 else gComes (gLeave S n s) n (S 37 0))) : CC (d + 4) kX10_tell layM [.ref 0] S Q := by
  refine cc_intro [some _, none, none] (by decide) (cc_cat (by rfl)) (Nat.le_of_ble_eq_true rfl) (cc_ls (by rfl)) ?_
  refine aj_aload_n (q := 1) (i := 0) dX10_tell_0 rfl rfl rfl ?_
  refine aj_getI (q := 4) (f := 30) fl_X10_106 dX10_tell_1 rfl lM_0 rfl rfl ?_
  try simp (decide := true) only [sw_eq, sw_ne, ne_eq, Nat.reduceEqDiff, not_false_eq_true, nI_pred, nI_1, gPay_ne, gNote_ne, gLeave_ne, hn, hs, ht, cl n, cl s]
  refine aj_iconst (q := 5) (v := 1) dX10_tell_4 rfl (by decide) ?_
  refine aj_isub (q := 6) dX10_tell_5 rfl ?_
  try simp (decide := true) only [sw_eq, sw_ne, ne_eq, Nat.reduceEqDiff, not_false_eq_true, nI_pred, nI_1, gPay_ne, gNote_ne, gLeave_ne, hn, hs, ht, cl n, cl s]
  refine aj_istore_n (q := 7) (i := 1) (ls' := [_, _, _]) dX10_tell_6 rfl rfl (by decide) rfl ?_
  refine aj_aload_n (q := 8) (i := 0) dX10_tell_7 rfl rfl rfl ?_
  refine aj_getR (q := 11) fl_X10_62 dX10_tell_8 rfl lM_0 rfl ?_
  refine aj_iload_n (q := 12) (i := 1) dX10_tell_11 rfl rfl rfl ?_
  refine aj_iaload (q := 13) (f := 1600) dX10_tell_12 rfl lM_16 rfl (vp_in_nI (by omega) (by omega)) ?_
  try simp (decide := true) only [sw_eq, sw_ne, ne_eq, Nat.reduceEqDiff, not_false_eq_true, nI_pred, nI_1, gPay_ne, gNote_ne, gLeave_ne, hn, hs, ht, cl n, cl s]
  refine aj_istore_n (q := 14) (i := 2) (ls' := [_, _, _]) dX10_tell_13 rfl rfl (by decide) rfl ?_
  refine aj_aload_n (q := 15) (i := 0) dX10_tell_14 rfl rfl rfl ?_
  refine aj_getR (q := 18) fl_X10_13 dX10_tell_15 rfl lM_0 rfl ?_
  refine aj_iload_n (q := 19) (i := 2) dX10_tell_18 rfl rfl rfl ?_
  refine aj_iaload (q := 20) (f := 100) dX10_tell_19 rfl lM_1 rfl (vp_in_nI (by omega) (by omega)) ?_
  try simp (decide := true) only [sw_eq, sw_ne, ne_eq, Nat.reduceEqDiff, not_false_eq_true, nI_pred, nI_1, gPay_ne, gNote_ne, gLeave_ne, hn, hs, ht, cl n, cl s]
  refine aj_tsIn (tgt := 148) (off := 128) dX10_tell_20 (by rw [show (_ : Int32) = 15 from rfl]; decide) (by rw [show (_ : Int32) = 15 from rfl]; decide) (by rw [show (_ : Int32) = 15 from rfl]; rfl) (by decide) ?_
  refine aj_aload_n (q := 149) (i := 0) dX10_tell_148 rfl rfl rfl ?_
  refine aj_iload_n (q := 150) (i := 1) dX10_tell_149 rfl rfl rfl ?_
  refine aj_callV (q := 153) (As := [_]) cl_X10_140 mk_X10_leave dX10_tell_150 rfl lM_0 rfl rfl (Nat.le_of_ble_eq_true rfl) (sp_X10_leave (i := n) (s := s) (by omega) hs hsb (by rw [ht]; intro h; exact absurd h (by decide)) ?_)
  refine aj_aload_n (q := 154) (i := 0) dX10_tell_153 rfl rfl rfl ?_
  refine aj_aload_n (q := 155) (i := 0) dX10_tell_154 rfl rfl rfl ?_
  refine aj_getI (q := 158) (f := 37) fl_X10_109 dX10_tell_155 rfl lM_0 rfl rfl ?_
  try simp (decide := true) only [sw_eq, sw_ne, ne_eq, Nat.reduceEqDiff, not_false_eq_true, nI_pred, nI_1, gPay_ne, gNote_ne, gLeave_ne, hn, hs, ht, cl n, cl s]
  refine aj_iconst (q := 159) (v := 1) dX10_tell_158 rfl (by decide) ?_
  refine aj_icmp_ne (q := 162) (tgt := 166) dX10_tell_159 rfl (by decide) (fun c159_1 => ?_) (fun c159_1 => ?_)
  · refine aj_aload_n (q := 167) (i := 0) dX10_tell_166 rfl rfl rfl ?_
    refine aj_getI (q := 170) (f := 37) fl_X10_109 dX10_tell_167 rfl lM_0 rfl rfl ?_
    try simp (decide := true) only [sw_eq, sw_ne, ne_eq, Nat.reduceEqDiff, not_false_eq_true, nI_pred, nI_1, gPay_ne, gNote_ne, gLeave_ne, hn, hs, ht, cl n, cl s, c159_1]
    refine aj_callV (q := 173) (As := [_]) cl_X10_118 mk_X10_comes dX10_tell_170 rfl lM_0 rfl rfl (Nat.le_of_ble_eq_true rfl) (sp_X10_comes (n := n) (by simp (decide := true) only [sw_eq, sw_ne, ne_eq, Nat.reduceEqDiff, not_false_eq_true, gPay_ne, gNote_ne, gLeave_ne, hn, c159_1]) ?_)
    refine aj_return dX10_tell_173 rfl ?_
    first | contradiction | with_reducible exact hQ | (simp (decide := true) only [↓reduceIte, Bool.false_eq_true, bi_t, bi_f, sw_eq, sw_ne, ne_eq, Nat.reduceEqDiff, not_false_eq_true, nI_pred, nI_1, gPay_ne, gNote_ne, gLeave_ne, gPop, hn, hs, ht, cl n, cl s, c159_1] at hQ ⊢; with_reducible exact hQ)
  · refine aj_iconst (q := 163) (v := 0) dX10_tell_162 rfl (by decide) ?_
    refine aj_goto (tgt := 170) dX10_tell_163 (by decide) ?_
    refine aj_callV (q := 173) (As := [_]) cl_X10_118 mk_X10_comes dX10_tell_170 rfl lM_0 rfl rfl (Nat.le_of_ble_eq_true rfl) (sp_X10_comes (n := n) (by simp (decide := true) only [sw_eq, sw_ne, ne_eq, Nat.reduceEqDiff, not_false_eq_true, gPay_ne, gNote_ne, gLeave_ne, hn, c159_1]) ?_)
    refine aj_return dX10_tell_173 rfl ?_
    first | contradiction | with_reducible exact hQ | (simp (decide := true) only [↓reduceIte, Bool.false_eq_true, bi_t, bi_f, sw_eq, sw_ne, ne_eq, Nat.reduceEqDiff, not_false_eq_true, nI_pred, nI_1, gPay_ne, gNote_ne, gLeave_ne, gPop, hn, hs, ht, cl n, cl s, c159_1] at hQ ⊢; with_reducible exact hQ)
theorem sp_X10_tell_18 {d : Nat} {S : Sx} {Q : Option Value → Sx → Prop} {n s : Nat} (hn : S 30 0 = nI (n + 1)) (hnb : n + 1 < 180) (hs : S 1600 n = nI s) (hsb : s < 120) (ht : S 100 s = 18) (hD : DrOk S) (hl : ¬ S 21 0 = 30 → vp_in (S 21 0) 30)  (hQ : Q none (gHan S n s)) : CC (d + 4) kX10_tell layM [.ref 0] S Q := by
  refine cc_intro [some _, none, none] (by decide) (cc_cat (by rfl)) (Nat.le_of_ble_eq_true rfl) (cc_ls (by rfl)) ?_
  refine aj_aload_n (q := 1) (i := 0) dX10_tell_0 rfl rfl rfl ?_
  refine aj_getI (q := 4) (f := 30) fl_X10_106 dX10_tell_1 rfl lM_0 rfl rfl ?_
  try simp (decide := true) only [sw_eq, sw_ne, ne_eq, Nat.reduceEqDiff, not_false_eq_true, nI_pred, nI_1, gPay_ne, gNote_ne, gLeave_ne, hn, hs, ht, cl n, cl s]
  refine aj_iconst (q := 5) (v := 1) dX10_tell_4 rfl (by decide) ?_
  refine aj_isub (q := 6) dX10_tell_5 rfl ?_
  try simp (decide := true) only [sw_eq, sw_ne, ne_eq, Nat.reduceEqDiff, not_false_eq_true, nI_pred, nI_1, gPay_ne, gNote_ne, gLeave_ne, hn, hs, ht, cl n, cl s]
  refine aj_istore_n (q := 7) (i := 1) (ls' := [_, _, _]) dX10_tell_6 rfl rfl (by decide) rfl ?_
  refine aj_aload_n (q := 8) (i := 0) dX10_tell_7 rfl rfl rfl ?_
  refine aj_getR (q := 11) fl_X10_62 dX10_tell_8 rfl lM_0 rfl ?_
  refine aj_iload_n (q := 12) (i := 1) dX10_tell_11 rfl rfl rfl ?_
  refine aj_iaload (q := 13) (f := 1600) dX10_tell_12 rfl lM_16 rfl (vp_in_nI (by omega) (by omega)) ?_
  try simp (decide := true) only [sw_eq, sw_ne, ne_eq, Nat.reduceEqDiff, not_false_eq_true, nI_pred, nI_1, gPay_ne, gNote_ne, gLeave_ne, hn, hs, ht, cl n, cl s]
  refine aj_istore_n (q := 14) (i := 2) (ls' := [_, _, _]) dX10_tell_13 rfl rfl (by decide) rfl ?_
  refine aj_aload_n (q := 15) (i := 0) dX10_tell_14 rfl rfl rfl ?_
  refine aj_getR (q := 18) fl_X10_13 dX10_tell_15 rfl lM_0 rfl ?_
  refine aj_iload_n (q := 19) (i := 2) dX10_tell_18 rfl rfl rfl ?_
  refine aj_iaload (q := 20) (f := 100) dX10_tell_19 rfl lM_1 rfl (vp_in_nI (by omega) (by omega)) ?_
  try simp (decide := true) only [sw_eq, sw_ne, ne_eq, Nat.reduceEqDiff, not_false_eq_true, nI_pred, nI_1, gPay_ne, gNote_ne, gLeave_ne, hn, hs, ht, cl n, cl s]
  refine aj_tsIn (tgt := 174) (off := 154) dX10_tell_20 (by rw [show (_ : Int32) = 18 from rfl]; decide) (by rw [show (_ : Int32) = 18 from rfl]; decide) (by rw [show (_ : Int32) = 18 from rfl]; rfl) (by decide) ?_
  refine aj_aload_n (q := 175) (i := 0) dX10_tell_174 rfl rfl rfl ?_
  refine aj_iload_n (q := 176) (i := 2) dX10_tell_175 rfl rfl rfl ?_
  refine aj_callV (q := 179) (As := [_]) cl_X10_201 mk_X10_handles dX10_tell_176 rfl lM_0 rfl rfl (Nat.le_of_ble_eq_true rfl) (sp_X10_handles hn hnb hsb hD hl ?_)
  refine aj_return dX10_tell_179 rfl ?_
  first | contradiction | with_reducible exact hQ | (simp (decide := true) only [↓reduceIte, Bool.false_eq_true, bi_t, bi_f, sw_eq, sw_ne, ne_eq, Nat.reduceEqDiff, not_false_eq_true, nI_pred, nI_1, gPay_ne, gNote_ne, gLeave_ne, gPop, hn, hs, ht, cl n, cl s, ] at hQ ⊢; with_reducible exact hQ)
theorem sp_X10_tell_19_1 {d : Nat} {S : Sx} {Q : Option Value → Sx → Prop} {n s : Nat} (hn : S 30 0 = nI (n + 1)) (hnb : n + 1 < 180) (hs : S 1600 n = nI s) (hsb : s < 120) (ht : S 100 s = 19) (hp : S 1700 n = 1) (hD : DrOk S) (hF : FrOk S n) (hl : ¬ S 21 0 = 30 → vp_in (S 21 0) 30)  (hQ : Q none (gFin S n s)) : CC (d + 4) kX10_tell layM [.ref 0] S Q := by
  refine cc_intro [some _, none, none] (by decide) (cc_cat (by rfl)) (Nat.le_of_ble_eq_true rfl) (cc_ls (by rfl)) ?_
  refine aj_aload_n (q := 1) (i := 0) dX10_tell_0 rfl rfl rfl ?_
  refine aj_getI (q := 4) (f := 30) fl_X10_106 dX10_tell_1 rfl lM_0 rfl rfl ?_
  try simp (decide := true) only [sw_eq, sw_ne, ne_eq, Nat.reduceEqDiff, not_false_eq_true, nI_pred, nI_1, gPay_ne, gNote_ne, gLeave_ne, hn, hs, ht, cl n, cl s, hp]
  refine aj_iconst (q := 5) (v := 1) dX10_tell_4 rfl (by decide) ?_
  refine aj_isub (q := 6) dX10_tell_5 rfl ?_
  try simp (decide := true) only [sw_eq, sw_ne, ne_eq, Nat.reduceEqDiff, not_false_eq_true, nI_pred, nI_1, gPay_ne, gNote_ne, gLeave_ne, hn, hs, ht, cl n, cl s, hp]
  refine aj_istore_n (q := 7) (i := 1) (ls' := [_, _, _]) dX10_tell_6 rfl rfl (by decide) rfl ?_
  refine aj_aload_n (q := 8) (i := 0) dX10_tell_7 rfl rfl rfl ?_
  refine aj_getR (q := 11) fl_X10_62 dX10_tell_8 rfl lM_0 rfl ?_
  refine aj_iload_n (q := 12) (i := 1) dX10_tell_11 rfl rfl rfl ?_
  refine aj_iaload (q := 13) (f := 1600) dX10_tell_12 rfl lM_16 rfl (vp_in_nI (by omega) (by omega)) ?_
  try simp (decide := true) only [sw_eq, sw_ne, ne_eq, Nat.reduceEqDiff, not_false_eq_true, nI_pred, nI_1, gPay_ne, gNote_ne, gLeave_ne, hn, hs, ht, cl n, cl s, hp]
  refine aj_istore_n (q := 14) (i := 2) (ls' := [_, _, _]) dX10_tell_13 rfl rfl (by decide) rfl ?_
  refine aj_aload_n (q := 15) (i := 0) dX10_tell_14 rfl rfl rfl ?_
  refine aj_getR (q := 18) fl_X10_13 dX10_tell_15 rfl lM_0 rfl ?_
  refine aj_iload_n (q := 19) (i := 2) dX10_tell_18 rfl rfl rfl ?_
  refine aj_iaload (q := 20) (f := 100) dX10_tell_19 rfl lM_1 rfl (vp_in_nI (by omega) (by omega)) ?_
  try simp (decide := true) only [sw_eq, sw_ne, ne_eq, Nat.reduceEqDiff, not_false_eq_true, nI_pred, nI_1, gPay_ne, gNote_ne, gLeave_ne, hn, hs, ht, cl n, cl s, hp]
  refine aj_tsIn (tgt := 180) (off := 160) dX10_tell_20 (by rw [show (_ : Int32) = 19 from rfl]; decide) (by rw [show (_ : Int32) = 19 from rfl]; decide) (by rw [show (_ : Int32) = 19 from rfl]; rfl) (by decide) ?_
  refine aj_aload_n (q := 181) (i := 0) dX10_tell_180 rfl rfl rfl ?_
  refine aj_getR (q := 184) fl_X10_65 dX10_tell_181 rfl lM_0 rfl ?_
  refine aj_iload_n (q := 185) (i := 1) dX10_tell_184 rfl rfl rfl ?_
  refine aj_iaload (q := 186) (f := 1700) dX10_tell_185 rfl lM_17 rfl (vp_in_nI (by omega) (by omega)) ?_
  try simp (decide := true) only [sw_eq, sw_ne, ne_eq, Nat.reduceEqDiff, not_false_eq_true, nI_pred, nI_1, gPay_ne, gNote_ne, gLeave_ne, hn, hs, ht, cl n, cl s, hp]
  refine aj_iconst (q := 187) (v := 1) dX10_tell_186 rfl (by decide) ?_
  refine aj_icmp_ne (q := 190) (tgt := 198) dX10_tell_187 rfl (by decide) (fun c => absurd c (by decide)) (fun _ => ?_)
  refine aj_aload_n (q := 191) (i := 0) dX10_tell_190 rfl rfl rfl ?_
  refine aj_iload_n (q := 192) (i := 2) dX10_tell_191 rfl rfl rfl ?_
  refine aj_callV (q := 195) (As := [_]) cl_X10_204 mk_X10_finalOf dX10_tell_192 rfl lM_0 rfl rfl (Nat.le_of_ble_eq_true rfl) (sp_X10_finalOf hn hnb hsb hD hF hl ?_)
  refine aj_goto (tgt := 202) dX10_tell_195 (by decide) ?_
  refine aj_return dX10_tell_202 rfl ?_
  first | contradiction | with_reducible exact hQ | (simp (decide := true) only [↓reduceIte, Bool.false_eq_true, bi_t, bi_f, sw_eq, sw_ne, ne_eq, Nat.reduceEqDiff, not_false_eq_true, nI_pred, nI_1, gPay_ne, gNote_ne, gLeave_ne, gPop, hn, hs, ht, cl n, cl s, hp, ] at hQ ⊢; with_reducible exact hQ)
theorem sp_X10_tell_19_2 {d : Nat} {S : Sx} {Q : Option Value → Sx → Prop} {n s : Nat} (hn : S 30 0 = nI (n + 1)) (hnb : n + 1 < 180) (hs : S 1600 n = nI s) (hsb : s < 120) (ht : S 100 s = 19) (hp : ¬ S 1700 n = 1)  (hQ : Q none (gLastD S n)) : CC (d + 4) kX10_tell layM [.ref 0] S Q := by
  refine cc_intro [some _, none, none] (by decide) (cc_cat (by rfl)) (Nat.le_of_ble_eq_true rfl) (cc_ls (by rfl)) ?_
  refine aj_aload_n (q := 1) (i := 0) dX10_tell_0 rfl rfl rfl ?_
  refine aj_getI (q := 4) (f := 30) fl_X10_106 dX10_tell_1 rfl lM_0 rfl rfl ?_
  try simp (decide := true) only [sw_eq, sw_ne, ne_eq, Nat.reduceEqDiff, not_false_eq_true, nI_pred, nI_1, gPay_ne, gNote_ne, gLeave_ne, hn, hs, ht, cl n, cl s]
  refine aj_iconst (q := 5) (v := 1) dX10_tell_4 rfl (by decide) ?_
  refine aj_isub (q := 6) dX10_tell_5 rfl ?_
  try simp (decide := true) only [sw_eq, sw_ne, ne_eq, Nat.reduceEqDiff, not_false_eq_true, nI_pred, nI_1, gPay_ne, gNote_ne, gLeave_ne, hn, hs, ht, cl n, cl s]
  refine aj_istore_n (q := 7) (i := 1) (ls' := [_, _, _]) dX10_tell_6 rfl rfl (by decide) rfl ?_
  refine aj_aload_n (q := 8) (i := 0) dX10_tell_7 rfl rfl rfl ?_
  refine aj_getR (q := 11) fl_X10_62 dX10_tell_8 rfl lM_0 rfl ?_
  refine aj_iload_n (q := 12) (i := 1) dX10_tell_11 rfl rfl rfl ?_
  refine aj_iaload (q := 13) (f := 1600) dX10_tell_12 rfl lM_16 rfl (vp_in_nI (by omega) (by omega)) ?_
  try simp (decide := true) only [sw_eq, sw_ne, ne_eq, Nat.reduceEqDiff, not_false_eq_true, nI_pred, nI_1, gPay_ne, gNote_ne, gLeave_ne, hn, hs, ht, cl n, cl s]
  refine aj_istore_n (q := 14) (i := 2) (ls' := [_, _, _]) dX10_tell_13 rfl rfl (by decide) rfl ?_
  refine aj_aload_n (q := 15) (i := 0) dX10_tell_14 rfl rfl rfl ?_
  refine aj_getR (q := 18) fl_X10_13 dX10_tell_15 rfl lM_0 rfl ?_
  refine aj_iload_n (q := 19) (i := 2) dX10_tell_18 rfl rfl rfl ?_
  refine aj_iaload (q := 20) (f := 100) dX10_tell_19 rfl lM_1 rfl (vp_in_nI (by omega) (by omega)) ?_
  try simp (decide := true) only [sw_eq, sw_ne, ne_eq, Nat.reduceEqDiff, not_false_eq_true, nI_pred, nI_1, gPay_ne, gNote_ne, gLeave_ne, hn, hs, ht, cl n, cl s]
  refine aj_tsIn (tgt := 180) (off := 160) dX10_tell_20 (by rw [show (_ : Int32) = 19 from rfl]; decide) (by rw [show (_ : Int32) = 19 from rfl]; decide) (by rw [show (_ : Int32) = 19 from rfl]; rfl) (by decide) ?_
  refine aj_aload_n (q := 181) (i := 0) dX10_tell_180 rfl rfl rfl ?_
  refine aj_getR (q := 184) fl_X10_65 dX10_tell_181 rfl lM_0 rfl ?_
  refine aj_iload_n (q := 185) (i := 1) dX10_tell_184 rfl rfl rfl ?_
  refine aj_iaload (q := 186) (f := 1700) dX10_tell_185 rfl lM_17 rfl (vp_in_nI (by omega) (by omega)) ?_
  try simp (decide := true) only [sw_eq, sw_ne, ne_eq, Nat.reduceEqDiff, not_false_eq_true, nI_pred, nI_1, gPay_ne, gNote_ne, gLeave_ne, hn, hs, ht, cl n, cl s]
  refine aj_iconst (q := 187) (v := 1) dX10_tell_186 rfl (by decide) ?_
  refine aj_icmp_ne (q := 190) (tgt := 198) dX10_tell_187 rfl (by decide) (fun _ => ?_) (fun c => absurd c hp)
  refine aj_aload_n (q := 199) (i := 0) dX10_tell_198 rfl rfl rfl ?_
  refine aj_callV (q := 202) (As := []) cl_X10_207 mk_X10_lastDone dX10_tell_199 rfl lM_0 rfl rfl (Nat.le_of_ble_eq_true rfl) (sp_X10_lastDone hn hnb ?_)
  refine aj_return dX10_tell_202 rfl ?_
  first | contradiction | with_reducible exact hQ | (simp (decide := true) only [↓reduceIte, Bool.false_eq_true, bi_t, bi_f, sw_eq, sw_ne, ne_eq, Nat.reduceEqDiff, not_false_eq_true, nI_pred, nI_1, gPay_ne, gNote_ne, gLeave_ne, gPop, hn, hs, ht, cl n, cl s, ] at hQ ⊢; with_reducible exact hQ)
theorem sp_X10_tell_20 {d : Nat} {S : Sx} {Q : Option Value → Sx → Prop} {n s a : Nat} (hn : S 30 0 = nI (n + 1)) (hnb : n + 1 < 180) (hs : S 1600 n = nI s) (hsb : s < 120) (ht : S 100 s = 20) (ha : S 200 s = nI a) (hab : a < 4)  (hQ : Q none (gPop (gLeave S n s) n)) : CC (d + 4) kX10_tell layM [.ref 0] S Q := by
  refine cc_intro [some _, none, none] (by decide) (cc_cat (by rfl)) (Nat.le_of_ble_eq_true rfl) (cc_ls (by rfl)) ?_
  refine aj_aload_n (q := 1) (i := 0) dX10_tell_0 rfl rfl rfl ?_
  refine aj_getI (q := 4) (f := 30) fl_X10_106 dX10_tell_1 rfl lM_0 rfl rfl ?_
  try simp (decide := true) only [sw_eq, sw_ne, ne_eq, Nat.reduceEqDiff, not_false_eq_true, nI_pred, nI_1, gPay_ne, gNote_ne, gLeave_ne, hn, hs, ht, cl n, cl s]
  refine aj_iconst (q := 5) (v := 1) dX10_tell_4 rfl (by decide) ?_
  refine aj_isub (q := 6) dX10_tell_5 rfl ?_
  try simp (decide := true) only [sw_eq, sw_ne, ne_eq, Nat.reduceEqDiff, not_false_eq_true, nI_pred, nI_1, gPay_ne, gNote_ne, gLeave_ne, hn, hs, ht, cl n, cl s]
  refine aj_istore_n (q := 7) (i := 1) (ls' := [_, _, _]) dX10_tell_6 rfl rfl (by decide) rfl ?_
  refine aj_aload_n (q := 8) (i := 0) dX10_tell_7 rfl rfl rfl ?_
  refine aj_getR (q := 11) fl_X10_62 dX10_tell_8 rfl lM_0 rfl ?_
  refine aj_iload_n (q := 12) (i := 1) dX10_tell_11 rfl rfl rfl ?_
  refine aj_iaload (q := 13) (f := 1600) dX10_tell_12 rfl lM_16 rfl (vp_in_nI (by omega) (by omega)) ?_
  try simp (decide := true) only [sw_eq, sw_ne, ne_eq, Nat.reduceEqDiff, not_false_eq_true, nI_pred, nI_1, gPay_ne, gNote_ne, gLeave_ne, hn, hs, ht, cl n, cl s]
  refine aj_istore_n (q := 14) (i := 2) (ls' := [_, _, _]) dX10_tell_13 rfl rfl (by decide) rfl ?_
  refine aj_aload_n (q := 15) (i := 0) dX10_tell_14 rfl rfl rfl ?_
  refine aj_getR (q := 18) fl_X10_13 dX10_tell_15 rfl lM_0 rfl ?_
  refine aj_iload_n (q := 19) (i := 2) dX10_tell_18 rfl rfl rfl ?_
  refine aj_iaload (q := 20) (f := 100) dX10_tell_19 rfl lM_1 rfl (vp_in_nI (by omega) (by omega)) ?_
  try simp (decide := true) only [sw_eq, sw_ne, ne_eq, Nat.reduceEqDiff, not_false_eq_true, nI_pred, nI_1, gPay_ne, gNote_ne, gLeave_ne, hn, hs, ht, cl n, cl s]
  refine aj_tsIn (tgt := 203) (off := 183) dX10_tell_20 (by rw [show (_ : Int32) = 20 from rfl]; decide) (by rw [show (_ : Int32) = 20 from rfl]; decide) (by rw [show (_ : Int32) = 20 from rfl]; rfl) (by decide) ?_
  refine aj_aload_n (q := 204) (i := 0) dX10_tell_203 rfl rfl rfl ?_
  refine aj_iload_n (q := 205) (i := 1) dX10_tell_204 rfl rfl rfl ?_
  refine aj_callV (q := 208) (As := [_]) cl_X10_140 mk_X10_leave dX10_tell_205 rfl lM_0 rfl rfl (Nat.le_of_ble_eq_true rfl) (sp_X10_leave (i := n) (s := s) (by omega) hs hsb (fun _ => by rw [ha]; exact vp_in_nI (by omega) (by omega)) ?_)
  refine aj_aload_n (q := 209) (i := 0) dX10_tell_208 rfl rfl rfl ?_
  refine aj_dup (q := 210) dX10_tell_209 rfl rfl ?_
  refine aj_getI (q := 213) (f := 30) fl_X10_106 dX10_tell_210 rfl lM_0 rfl rfl ?_
  try simp (decide := true) only [sw_eq, sw_ne, ne_eq, Nat.reduceEqDiff, not_false_eq_true, nI_pred, nI_1, gPay_ne, gNote_ne, gLeave_ne, hn, hs, ht, cl n, cl s]
  refine aj_iconst (q := 214) (v := 1) dX10_tell_213 rfl (by decide) ?_
  refine aj_isub (q := 215) dX10_tell_214 rfl ?_
  try simp (decide := true) only [sw_eq, sw_ne, ne_eq, Nat.reduceEqDiff, not_false_eq_true, nI_pred, nI_1, gPay_ne, gNote_ne, gLeave_ne, hn, hs, ht, cl n, cl s]
  refine aj_putI (q := 218) (f := 30) okM fp_X10_106 dX10_tell_215 rfl lM_0 rfl rfl ?_
  refine aj_return dX10_tell_218 rfl ?_
  first | contradiction | with_reducible exact hQ | (simp (decide := true) only [↓reduceIte, Bool.false_eq_true, bi_t, bi_f, sw_eq, sw_ne, ne_eq, Nat.reduceEqDiff, not_false_eq_true, nI_pred, nI_1, gPay_ne, gNote_ne, gLeave_ne, gPop, hn, hs, ht, cl n, cl s, ] at hQ ⊢; with_reducible exact hQ)
