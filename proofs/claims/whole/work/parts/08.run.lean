theorem aj_putIw {d : Nat} {k : MK} {lay : Lay} {pc q : Nat} {ls : AL} {st : List Value} {S : Sx} {Q : Option Value → Sx → Prop} {idx b ci j f : Nat} {sl : List Slt} {v : Int32} (hw : wfR S) (hf0 : wfFree f = true) (hok : okL lay = true) (F : FP k.1.cls idx ci j .int) (hd : decode k.2.1 pc = .ok (.putfield idx, 3)) (hq : pc + 3 = q) (hlay : lay[b]? = some (.inr (ci, sl))) (hj : sl[j]? = some none) (hf : 100 * b + j = f) (kk : wfR (sw S f 0 v) → AJ d k lay q ls st (sw S f 0 v) Q) : AJ d k lay pc ls (.int v :: .ref b :: st) S Q := aj_putI hok F hd hq hlay hj hf (kk (hw.sw hf0))
/-! Run: what its methods do to the store -/
def rRaise (S : Sx) (k n : Int32) : Sx := sw (sw (sw S 8 0 2) 9 0 k) 10 0 n
def rEnd (S : Sx) (h : Int32) : Sx := fClose (sw S 8 0 h)
def rDoPart (S : Sx) (g p : Int32) : Sx := fOpen (fSetStage S g) p
def rEnter (S : Sx) (b : Int32) : Sx := fOpen (sw (sw S 6 0 (S 6 0 + 1)) 7 0 (imax (S 7 0) (S 6 0 + 1))) b
def rLoopOrEnd (S : Sx) (x p : Int32) : Sx := if mRead S x = 0 then fClose S else rDoPart S 1 p
def rCall (S : Sx) (m : Int32) : Sx := if S 6 0 < 8 then (if gBody S m = -1 then fClose (rRaise S 1 0) else (if pOk S 1 2 then rEnter (fSetStage (pPay S 1 2) 1) (gBody S m) else rEnd (pPay S 1 2) 3)) else fClose (rRaise S 6 0)
def rMakeRow (S : Sx) (r n : Int32) : Sx := if pOk S 4 (mkPrice n) then (if 0 ≤ n then mMake (pPay S 4 (mkPrice n)) r n else rRaise (pPay S 4 (mkPrice n)) 3 0) else sw (pPay S 4 (mkPrice n)) 8 0 3
def rMeasure (S : Sx) (x r : Int32) : Sx := if mLen S r = -1 then rRaise S 1 0 else mWrite S x (mLen S r)
def rReachB (S : Sx) (r i : Int32) : Bool := if mLen S r = -1 then false else inb i (mLen S r)
def rReach (S : Sx) (r i : Int32) : Sx := if mLen S r = -1 then rRaise S 1 0 else (if inb i (mLen S r) then S else rRaise S 2 0)
def rDivide (S : Sx) (t x l r : Int32) : Sx := if r = 0 then rRaise S 4 0 else (if t = 4 then mWrite S x (l / r) else mWrite S x (l - l / r * r))
def rCalc (S : Sx) (t a b c : Int32) : Sx := if t = 0 then mWrite S a b else if t = 1 then mWrite S a (mRead S b + mRead S c) else if t = 2 then mWrite S a (mRead S b - mRead S c) else if t = 3 then mWrite S a (mRead S b * mRead S c) else rDivide S t a (mRead S b) (mRead S c)
def rRow (S : Sx) (t a b c : Int32) : Sx := if t = 6 then rMakeRow S a (mRead S b) else if t = 7 then (if rReachB S b (mRead S c) then mWrite (rReach S b (mRead S c)) a (mLoad (rReach S b (mRead S c)) b (mRead (rReach S b (mRead S c)) c)) else rReach S b (mRead S c)) else if t = 8 then (if rReachB S a (mRead S b) then mStore (rReach S a (mRead S b)) a (mRead (rReach S a (mRead S b)) b) (mRead (rReach S a (mRead S b)) c) else rReach S a (mRead S b)) else if t = 9 then rMeasure S a b else if t = 10 then mForget S a else mShare S a b
def rAtOnce (S : Sx) (t a b c : Int32) : Sx := if (5 : Int32) < t then (if (11 : Int32) < t then (if t = 16 then fClose (sw (sw (sw S 8 0 0) 105 0 (mRead (sw S 8 0 0) a)) 8 0 1) else if t = 17 then fClose (rRaise (sw S 8 0 0) 5 (mRead (sw S 8 0 0) a)) else if t = 21 then fClose (mWrite (sw S 8 0 0) a (S 105 0)) else fClose (sw S 8 0 0)) else fClose (rRow (sw S 8 0 0) t a b c)) else fClose (rCalc (sw S 8 0 0) t a b c)
def rBegin (S : Sx) (s : Int32) : Sx :=
  if gOf S 1800 (-1) s = 12 then rDoPart S 1 (gOf S 1900 (-1) s)
  else if gOf S 1800 (-1) s = 13 then (if mRead S (gOf S 1900 (-1) s) = 0 then rDoPart S 1 (gOf S 2100 (-1) s) else rDoPart S 1 (gOf S 2000 (-1) s))
  else if gOf S 1800 (-1) s = 14 then rLoopOrEnd (sw S 8 0 0) (gOf S 1900 (-1) s) (gOf S 2000 (-1) s)
  else if gOf S 1800 (-1) s = 15 then rCall S (gOf S 1900 (-1) s)
  else if gOf S 1800 (-1) s = 18 then rDoPart S 1 (gOf S 1900 (-1) s)
  else if gOf S 1800 (-1) s = 19 then rDoPart S 1 (gOf S 1900 (-1) s)
  else if gOf S 1800 (-1) s = 20 then rDoPart (lTake S (gOf S 1900 (-1) s)) 1 (gOf S 2000 (-1) s)
  else rAtOnce S (gOf S 1800 (-1) s) (gOf S 1900 (-1) s) (gOf S 2000 (-1) s) (gOf S 2100 (-1) s)
def rBoth (S : Sx) (s : Int32) : Sx := if fGet S 1300 0 = 1 then (if S 8 0 = 0 then rDoPart S 2 (gOf S 2000 (-1) s) else fClose S) else fClose S
def rLoop (S : Sx) (s : Int32) : Sx := if S 8 0 = 0 then (if pOk S 0 1 then rLoopOrEnd (pPay S 0 1) (gOf (pPay S 0 1) 1900 (-1) s) (gOf (pPay S 0 1) 2000 (-1) s) else rEnd (pPay S 0 1) 3) else fClose S
def rTryN (S : Sx) (s : Int32) : Sx := pNote (pPay S 2 10) s
def rTryM (S : Sx) (s : Int32) : Sx := if (rTryN S s) 9 0 = 5 then mWrite (rTryN S s) 7 (100 + (rTryN S s) 10 0) else mWrite (rTryN S s) 7 ((rTryN S s) 9 0)
def rTryX (S : Sx) (s : Int32) : Sx := if pOk S 2 10 then rDoPart (rTryM S s) 2 (gOf (rTryM S s) 2100 (-1) s) else rEnd (pPay S 2 10) 3
def rTry (S : Sx) (s : Int32) : Sx := if S 8 0 = 2 then (if (gOf S 2000 (-1) s >>> (S 9 0 &&& 31)) &&& 1 = 1 then (if fGet S 1300 0 = 1 then rTryX S s else fClose S) else fClose S) else fClose S
/-- what a last part is paid with: behind the first try -/
def lpA (S : Sx) : Sx := if S 8 0 = 3 then S else pPay S 3 10
def lpOk (S : Sx) : Bool := if S 8 0 = 3 then false else pOk S 3 10
def lpB (S : Sx) : Sx := sw (lpA S) 607 0 1
def lpG (S : Sx) : Int32 := if lpOk S then 2 else if pBy (lpA S) then -1 else if pOk (lpB S) 3 10 then 3 else -1
def lpS (S : Sx) : Sx := if lpOk S then lpA S else if pBy (lpA S) then lpA S else if pOk (lpB S) 3 10 then pPay (lpB S) 3 10 else sw (pPay (lpB S) 3 10) 607 0 0
def rLastK (S : Sx) (s : Int32) : Sx := pNote (fKeep (lpS S) ((lpS S) 8 0) ((lpS S) 9 0) ((lpS S) 10 0)) s
def rBeginLast (S : Sx) (s : Int32) : Sx := if lpG S = -1 then rEnd (lpS S) 3 else rDoPart (rLastK S s) (lpG S) (gOf (rLastK S s) 2000 (-1) s)
def rLastE1 (S : Sx) : Sx := sw S 8 0 (fGet S 1400 0)
def rLastE2 (S : Sx) : Sx := sw (rLastE1 S) 9 0 (fGet (rLastE1 S) 1500 0)
def rLastE3 (S : Sx) : Sx := sw (rLastE2 S) 10 0 (fGet (rLastE2 S) 1600 0)
def rEndLast (S : Sx) : Sx := if fGet S 1300 0 = 3 then fClose (sw (sw S 607 0 0) 8 0 3) else if S 8 0 = 0 then fClose (rLastE3 S) else fClose S
def rGoOn (S : Sx) (s : Int32) : Sx :=
  if gOf S 1800 (-1) s = 12 then rBoth S s
  else if gOf S 1800 (-1) s = 14 then rLoop S s
  else if gOf S 1800 (-1) s = 15 then (if S 8 0 = 1 then rEnd (sw S 6 0 (S 6 0 - 1)) 0 else rEnd (sw S 6 0 (S 6 0 - 1)) (S 8 0))
  else if gOf S 1800 (-1) s = 18 then rTry S s
  else if gOf S 1800 (-1) s = 19 then (if fGet S 1300 0 = 1 then rBeginLast S s else rEndLast S)
  else if gOf S 1800 (-1) s = 20 then fClose (lFree S (gOf S 1900 (-1) s))
  else fClose S
def rClear (S : Sx) (x b : Int32) : Sx := sw (sw (sw (sw (sw (fClear (lClear (pFill (mWrite (mClear S) 0 x) b))) 6 0 0) 7 0 0) 8 0 0) 9 0 0) 10 0 0
/-- one turn of the run's loop -/
def rStep (S : Sx) : Sx := if fGet S 1300 0 = 0 then rBegin S (fGet S 1200 (-1)) else rGoOn S (fGet S 1200 (-1))
set_option maxRecDepth 2000 in
theorem sp_X7_raise {d : Nat} {S : Sx} {Q : Option Value → Sx → Prop} {k n : Int32} (hw : wfR S) (hQ : wfR (rRaise S k n) → Q none (rRaise S k n)) : CC d kX7_raise layR [.ref 0, .int k, .int n] S Q := by
  refine cc_intro [some _, some _, some _] (by decide) (cc_cat (by rfl)) (Nat.le_of_ble_eq_true rfl) (cc_ls (by rfl)) ?_
  refine aj_aload_n (q := 1) (i := 0) dX7_raise_0 rfl rfl rfl ?_
  refine aj_iconst (q := 2) (v := 2) dX7_raise_1 rfl (by decide) ?_
  refine aj_putIw (q := 5) (f := 8) hw rfl okR fp_X7_61 dX7_raise_2 rfl lR_0 rfl rfl (fun hw1 => ?_)
  refine aj_aload_n (q := 6) (i := 0) dX7_raise_5 rfl rfl rfl ?_
  refine aj_iload_n (q := 7) (i := 1) dX7_raise_6 rfl rfl rfl ?_
  refine aj_putIw (q := 10) (f := 9) hw1 rfl okR fp_X7_82 dX7_raise_7 rfl lR_0 rfl rfl (fun hw2 => ?_)
  refine aj_aload_n (q := 11) (i := 0) dX7_raise_10 rfl rfl rfl ?_
  refine aj_iload_n (q := 12) (i := 2) dX7_raise_11 rfl rfl rfl ?_
  refine aj_putIw (q := 15) (f := 10) hw2 rfl okR fp_X7_85 dX7_raise_12 rfl lR_0 rfl rfl (fun hw3 => ?_)
  refine aj_return dX7_raise_15 rfl ?_
  skip
  first | contradiction | with_reducible exact hQ hw3 | (simp (decide := true) only [rRaise, ↓reduceIte, sw_eq, sw_ne, ne_eq, Nat.reduceEqDiff, not_false_eq_true, Bool.false_eq_true, bi_t, bi_f, ] at hQ; with_reducible exact hQ hw3) | (simp (decide := true) only [rRaise, ↓reduceIte, sw_eq, sw_ne, ne_eq, Nat.reduceEqDiff, not_false_eq_true, Bool.false_eq_true, bi_t, bi_f, ] at hQ hw3 ⊢; with_reducible exact hQ hw3) | exact absurd (by assumption) (by decide : ¬ (1 : Int32) = 0)
set_option maxRecDepth 2000 in
theorem sp_X7_end {d : Nat} {S : Sx} {Q : Option Value → Sx → Prop} {h : Int32} (hw : wfR S) (hQ : wfR (rEnd S h) → Q none (rEnd S h)) : CC (d + 1) kX7_end layR [.ref 0, .int h] S Q := by
  refine cc_intro [some _, some _] (by decide) (cc_cat (by rfl)) (Nat.le_of_ble_eq_true rfl) (cc_ls (by rfl)) ?_
  refine aj_aload_n (q := 1) (i := 0) dX7_end_0 rfl rfl rfl ?_
  refine aj_iload_n (q := 2) (i := 1) dX7_end_1 rfl rfl rfl ?_
  refine aj_putIw (q := 5) (f := 8) hw rfl okR fp_X7_61 dX7_end_2 rfl lR_0 rfl rfl (fun hw1 => ?_)
  refine aj_aload_n (q := 6) (i := 0) dX7_end_5 rfl rfl rfl ?_
  refine aj_getR (q := 9) fl_X7_35 dX7_end_6 rfl lR_0 rfl ?_
  refine aj_callV (q := 12) (As := []) cl_X7_181 mk_X0_close dX7_end_9 rfl lR_11 rfl rfl (Nat.le_of_ble_eq_true rfl) (sp_X0_close hw1 (fun hw2 => ?_))
  refine aj_return dX7_end_12 rfl ?_
  skip
  first | contradiction | with_reducible exact hQ hw2 | (simp (decide := true) only [rEnd, ↓reduceIte, sw_eq, sw_ne, ne_eq, Nat.reduceEqDiff, not_false_eq_true, Bool.false_eq_true, bi_t, bi_f, ] at hQ; with_reducible exact hQ hw2) | (simp (decide := true) only [rEnd, ↓reduceIte, sw_eq, sw_ne, ne_eq, Nat.reduceEqDiff, not_false_eq_true, Bool.false_eq_true, bi_t, bi_f, ] at hQ hw2 ⊢; with_reducible exact hQ hw2) | exact absurd (by assumption) (by decide : ¬ (1 : Int32) = 0)
set_option maxRecDepth 2000 in
theorem sp_X7_doPart {d : Nat} {S : Sx} {Q : Option Value → Sx → Prop} {g p : Int32} (hw : wfR S) (hQ : wfR (rDoPart S g p) → Q none (rDoPart S g p)) : CC (d + 1) kX7_doPart layR [.ref 0, .int g, .int p] S Q := by
  refine cc_intro [some _, some _, some _] (by decide) (cc_cat (by rfl)) (Nat.le_of_ble_eq_true rfl) (cc_ls (by rfl)) ?_
  refine aj_aload_n (q := 1) (i := 0) dX7_doPart_0 rfl rfl rfl ?_
  refine aj_getR (q := 4) fl_X7_35 dX7_doPart_1 rfl lR_0 rfl ?_
  refine aj_iload_n (q := 5) (i := 1) dX7_doPart_4 rfl rfl rfl ?_
  refine aj_callV (q := 8) (As := [_]) cl_X7_218 mk_X0_setStage dX7_doPart_5 rfl lR_11 rfl rfl (Nat.le_of_ble_eq_true rfl) (sp_X0_setStage hw (fun hw1 => ?_))
  refine aj_aload_n (q := 9) (i := 0) dX7_doPart_8 rfl rfl rfl ?_
  refine aj_getR (q := 12) fl_X7_35 dX7_doPart_9 rfl lR_0 rfl ?_
  refine aj_iload_n (q := 13) (i := 2) dX7_doPart_12 rfl rfl rfl ?_
  refine aj_callV (q := 16) (As := [_]) cl_X7_227 mk_X0_open dX7_doPart_13 rfl lR_11 rfl rfl (Nat.le_of_ble_eq_true rfl) (sp_X0_open hw1 (fun hw2 => ?_))
  refine aj_return dX7_doPart_16 rfl ?_
  skip
  first | contradiction | with_reducible exact hQ hw2 | (simp (decide := true) only [rDoPart, ↓reduceIte, sw_eq, sw_ne, ne_eq, Nat.reduceEqDiff, not_false_eq_true, Bool.false_eq_true, bi_t, bi_f, ] at hQ; with_reducible exact hQ hw2) | (simp (decide := true) only [rDoPart, ↓reduceIte, sw_eq, sw_ne, ne_eq, Nat.reduceEqDiff, not_false_eq_true, Bool.false_eq_true, bi_t, bi_f, ] at hQ hw2 ⊢; with_reducible exact hQ hw2) | exact absurd (by assumption) (by decide : ¬ (1 : Int32) = 0)
set_option maxRecDepth 2000 in
theorem sp_X7_enter {d : Nat} {S : Sx} {Q : Option Value → Sx → Prop} {b : Int32} (hw : wfR S) (hQ : wfR (rEnter S b) → Q none (rEnter S b)) : CC (d + 1) kX7_enter layR [.ref 0, .int b] S Q := by
  refine cc_intro [some _, some _] (by decide) (cc_cat (by rfl)) (Nat.le_of_ble_eq_true rfl) (cc_ls (by rfl)) ?_
  refine aj_aload_n (q := 1) (i := 0) dX7_enter_0 rfl rfl rfl ?_
  refine aj_dup (q := 2) dX7_enter_1 rfl rfl ?_
  refine aj_getI (q := 5) (f := 6) fl_X7_124 dX7_enter_2 rfl lR_0 rfl rfl ?_
  try simp only [sw_eq, sw_ne, ne_eq, Nat.reduceEqDiff, not_false_eq_true]
  refine aj_iconst (q := 6) (v := 1) dX7_enter_5 rfl (by decide) ?_
  refine aj_iadd (q := 7) dX7_enter_6 rfl ?_
  refine aj_putIw (q := 10) (f := 6) hw rfl okR fp_X7_124 dX7_enter_7 rfl lR_0 rfl rfl (fun hw1 => ?_)
  refine aj_aload_n (q := 11) (i := 0) dX7_enter_10 rfl rfl rfl ?_
  refine aj_aload_n (q := 12) (i := 0) dX7_enter_11 rfl rfl rfl ?_
  refine aj_getI (q := 15) (f := 7) fl_X7_97 dX7_enter_12 rfl lR_0 rfl rfl ?_
  try simp only [sw_eq, sw_ne, ne_eq, Nat.reduceEqDiff, not_false_eq_true]
  refine aj_aload_n (q := 16) (i := 0) dX7_enter_15 rfl rfl rfl ?_
  refine aj_getI (q := 19) (f := 6) fl_X7_124 dX7_enter_16 rfl lR_0 rfl rfl ?_
  try simp only [sw_eq, sw_ne, ne_eq, Nat.reduceEqDiff, not_false_eq_true]
  refine aj_max (q := 22) cm_X7_221 dX7_enter_19 rfl (Nat.le_of_ble_eq_true rfl) ?_
  refine aj_putIw (q := 25) (f := 7) hw1 rfl okR fp_X7_97 dX7_enter_22 rfl lR_0 rfl rfl (fun hw2 => ?_)
  refine aj_aload_n (q := 26) (i := 0) dX7_enter_25 rfl rfl rfl ?_
  refine aj_getR (q := 29) fl_X7_35 dX7_enter_26 rfl lR_0 rfl ?_
  refine aj_iload_n (q := 30) (i := 1) dX7_enter_29 rfl rfl rfl ?_
  refine aj_callV (q := 33) (As := [_]) cl_X7_227 mk_X0_open dX7_enter_30 rfl lR_11 rfl rfl (Nat.le_of_ble_eq_true rfl) (sp_X0_open hw2 (fun hw3 => ?_))
  refine aj_return dX7_enter_33 rfl ?_
  skip
  first | contradiction | with_reducible exact hQ hw3 | (simp (decide := true) only [rEnter, ↓reduceIte, sw_eq, sw_ne, ne_eq, Nat.reduceEqDiff, not_false_eq_true, Bool.false_eq_true, bi_t, bi_f, ] at hQ; with_reducible exact hQ hw3) | (simp (decide := true) only [rEnter, ↓reduceIte, sw_eq, sw_ne, ne_eq, Nat.reduceEqDiff, not_false_eq_true, Bool.false_eq_true, bi_t, bi_f, ] at hQ hw3 ⊢; with_reducible exact hQ hw3) | exact absurd (by assumption) (by decide : ¬ (1 : Int32) = 0)
set_option maxRecDepth 2000 in
theorem sp_X7_loopOrEnd {d : Nat} {S : Sx} {Q : Option Value → Sx → Prop} {x p : Int32} (hw : wfR S) (hQ : wfR (rLoopOrEnd S x p) → Q none (rLoopOrEnd S x p)) : CC (d + 2) kX7_loopOrEnd layR [.ref 0, .int x, .int p] S Q := by
  refine cc_intro [some _, some _, some _] (by decide) (cc_cat (by rfl)) (Nat.le_of_ble_eq_true rfl) (cc_ls (by rfl)) ?_
  refine aj_aload_n (q := 1) (i := 0) dX7_loopOrEnd_0 rfl rfl rfl ?_
  refine aj_getR (q := 4) fl_X7_12 dX7_loopOrEnd_1 rfl lR_0 rfl ?_
  refine aj_iload_n (q := 5) (i := 1) dX7_loopOrEnd_4 rfl rfl rfl ?_
  refine aj_callV (q := 8) (As := [_]) cl_X7_144 mk_X4_read dX7_loopOrEnd_5 rfl lR_1 rfl rfl (Nat.le_of_ble_eq_true rfl) (sp_X4_read ?_)
  refine aj_if_eq (q := 11) (tgt := 20) dX7_loopOrEnd_8 rfl (by decide) (fun c8_1 => ?_) (fun c8_1 => ?_)
  · refine aj_aload_n (q := 21) (i := 0) dX7_loopOrEnd_20 rfl rfl rfl ?_
    refine aj_getR (q := 24) fl_X7_35 dX7_loopOrEnd_21 rfl lR_0 rfl ?_
    refine aj_callV (q := 27) (As := []) cl_X7_181 mk_X0_close dX7_loopOrEnd_24 rfl lR_11 rfl rfl (Nat.le_of_ble_eq_true rfl) (sp_X0_close hw (fun hw2 => ?_))
    refine aj_return dX7_loopOrEnd_27 rfl ?_
    skip
    first | contradiction | with_reducible exact hQ hw2 | (simp (decide := true) only [rLoopOrEnd, ↓reduceIte, sw_eq, sw_ne, ne_eq, Nat.reduceEqDiff, not_false_eq_true, Bool.false_eq_true, bi_t, bi_f, c8_1] at hQ; with_reducible exact hQ hw2) | (simp (decide := true) only [rLoopOrEnd, ↓reduceIte, sw_eq, sw_ne, ne_eq, Nat.reduceEqDiff, not_false_eq_true, Bool.false_eq_true, bi_t, bi_f, c8_1] at hQ hw2 ⊢; with_reducible exact hQ hw2) | exact absurd (by assumption) (by decide : ¬ (1 : Int32) = 0)
  · refine aj_aload_n (q := 12) (i := 0) dX7_loopOrEnd_11 rfl rfl rfl ?_
    refine aj_iconst (q := 13) (v := 1) dX7_loopOrEnd_12 rfl (by decide) ?_
    refine aj_iload_n (q := 14) (i := 2) dX7_loopOrEnd_13 rfl rfl rfl ?_
    refine aj_callV (q := 17) (As := [_, _]) cl_X7_141 mk_X7_doPart dX7_loopOrEnd_14 rfl lR_0 rfl rfl (Nat.le_of_ble_eq_true rfl) (sp_X7_doPart hw (fun hw3 => ?_))
    refine aj_goto (tgt := 27) dX7_loopOrEnd_17 (by decide) ?_
    refine aj_return dX7_loopOrEnd_27 rfl ?_
    skip
    first | contradiction | with_reducible exact hQ hw3 | (simp (decide := true) only [rLoopOrEnd, ↓reduceIte, sw_eq, sw_ne, ne_eq, Nat.reduceEqDiff, not_false_eq_true, Bool.false_eq_true, bi_t, bi_f, c8_1] at hQ; with_reducible exact hQ hw3) | (simp (decide := true) only [rLoopOrEnd, ↓reduceIte, sw_eq, sw_ne, ne_eq, Nat.reduceEqDiff, not_false_eq_true, Bool.false_eq_true, bi_t, bi_f, c8_1] at hQ hw3 ⊢; with_reducible exact hQ hw3) | exact absurd (by assumption) (by decide : ¬ (1 : Int32) = 0)
set_option maxRecDepth 2000 in
theorem sp_X7_call {d : Nat} {S : Sx} {Q : Option Value → Sx → Prop} {m : Int32} (hw : wfR S) (hQ : wfR (rCall S m) → Q none (rCall S m)) : CC (d + 2) kX7_call layR [.ref 0, .int m] S Q := by
  refine cc_intro [some _, some _, none] (by decide) (cc_cat (by rfl)) (Nat.le_of_ble_eq_true rfl) (cc_ls (by rfl)) ?_
  refine aj_aload_n (q := 1) (i := 0) dX7_call_0 rfl rfl rfl ?_
  refine aj_getR (q := 4) fl_X7_43 dX7_call_1 rfl lR_0 rfl ?_
  refine aj_iload_n (q := 5) (i := 1) dX7_call_4 rfl rfl rfl ?_
  refine aj_callV (q := 8) (As := [_]) cl_X7_212 mk_X5_bodyOf dX7_call_5 rfl lR_17 rfl rfl (Nat.le_of_ble_eq_true rfl) (sp_X5_bodyOf ?_)
  refine aj_istore_n (q := 9) (i := 2) (ls' := [_, _, _]) dX7_call_8 rfl rfl (by decide) rfl ?_
  refine aj_aload_n (q := 10) (i := 0) dX7_call_9 rfl rfl rfl ?_
  refine aj_getI (q := 13) (f := 6) fl_X7_124 dX7_call_10 rfl lR_0 rfl rfl ?_
  try simp only [sw_eq, sw_ne, ne_eq, Nat.reduceEqDiff, not_false_eq_true]
  refine aj_bipush (q := 15) (v := 8) dX7_call_13 rfl (by decide) ?_
  refine aj_icmp_lt (q := 18) (tgt := 35) dX7_call_15 rfl (by decide) (fun c15_1 => ?_) (fun c15_1 => ?_)
  · refine aj_iload_n (q := 36) (i := 2) dX7_call_35 rfl rfl rfl ?_
    refine aj_iconst (q := 37) (v := (-1)) dX7_call_36 rfl (by decide) ?_
    refine aj_icmp_ne (q := 40) (tgt := 56) dX7_call_37 rfl (by decide) (fun c37_2 => ?_) (fun c37_2 => ?_)
    · refine aj_aload_n (q := 57) (i := 0) dX7_call_56 rfl rfl rfl ?_
      refine aj_getR (q := 60) fl_X7_21 dX7_call_57 rfl lR_0 rfl ?_
      refine aj_iconst (q := 61) (v := 1) dX7_call_60 rfl (by decide) ?_
      refine aj_iconst (q := 62) (v := 2) dX7_call_61 rfl (by decide) ?_
      refine aj_callV (q := 65) (As := [_, _]) cl_X7_53 mk_X6_pays dX7_call_62 rfl lR_6 rfl rfl (Nat.le_of_ble_eq_true rfl) (sp_X6_pays hw (fun hw3 => ?_))
      refine aj_ifB_eq (q := 68) (tgt := 84) dX7_call_65 rfl (by decide) (fun c65_4 => ?_) (fun c65_4 => ?_)
      · refine aj_aload_n (q := 85) (i := 0) dX7_call_84 rfl rfl rfl ?_
        refine aj_iconst (q := 86) (v := 3) dX7_call_85 rfl (by decide) ?_
        refine aj_callV (q := 89) (As := [_]) cl_X7_166 mk_X7_end dX7_call_86 rfl lR_0 rfl rfl (Nat.le_of_ble_eq_true rfl) (sp_X7_end hw3 (fun hw5 => ?_))
        refine aj_return dX7_call_89 rfl ?_
        skip
        first | contradiction | with_reducible exact hQ hw5 | (simp (decide := true) only [rCall, ↓reduceIte, sw_eq, sw_ne, ne_eq, Nat.reduceEqDiff, not_false_eq_true, Bool.false_eq_true, bi_t, bi_f, c15_1, c37_2, c65_4] at hQ; with_reducible exact hQ hw5) | (simp (decide := true) only [rCall, ↓reduceIte, sw_eq, sw_ne, ne_eq, Nat.reduceEqDiff, not_false_eq_true, Bool.false_eq_true, bi_t, bi_f, c15_1, c37_2, c65_4] at hQ hw5 ⊢; with_reducible exact hQ hw5) | exact absurd (by assumption) (by decide : ¬ (1 : Int32) = 0)
      · refine aj_aload_n (q := 69) (i := 0) dX7_call_68 rfl rfl rfl ?_
        refine aj_getR (q := 72) fl_X7_35 dX7_call_69 rfl lR_0 rfl ?_
        refine aj_iconst (q := 73) (v := 1) dX7_call_72 rfl (by decide) ?_
        refine aj_callV (q := 76) (As := [_]) cl_X7_218 mk_X0_setStage dX7_call_73 rfl lR_11 rfl rfl (Nat.le_of_ble_eq_true rfl) (sp_X0_setStage hw3 (fun hw6 => ?_))
        refine aj_aload_n (q := 77) (i := 0) dX7_call_76 rfl rfl rfl ?_
        refine aj_iload_n (q := 78) (i := 2) dX7_call_77 rfl rfl rfl ?_
        refine aj_callV (q := 81) (As := [_]) cl_X7_57 mk_X7_enter dX7_call_78 rfl lR_0 rfl rfl (Nat.le_of_ble_eq_true rfl) (sp_X7_enter hw6 (fun hw7 => ?_))
        refine aj_goto (tgt := 89) dX7_call_81 (by decide) ?_
        refine aj_return dX7_call_89 rfl ?_
        skip
        first | contradiction | with_reducible exact hQ hw7 | (simp (decide := true) only [rCall, ↓reduceIte, sw_eq, sw_ne, ne_eq, Nat.reduceEqDiff, not_false_eq_true, Bool.false_eq_true, bi_t, bi_f, c15_1, c37_2, c65_4] at hQ; with_reducible exact hQ hw7) | (simp (decide := true) only [rCall, ↓reduceIte, sw_eq, sw_ne, ne_eq, Nat.reduceEqDiff, not_false_eq_true, Bool.false_eq_true, bi_t, bi_f, c15_1, c37_2, c65_4] at hQ hw7 ⊢; with_reducible exact hQ hw7) | exact absurd (by assumption) (by decide : ¬ (1 : Int32) = 0)
    · refine aj_aload_n (q := 41) (i := 0) dX7_call_40 rfl rfl rfl ?_
      refine aj_iconst (q := 42) (v := 1) dX7_call_41 rfl (by decide) ?_
      refine aj_iconst (q := 43) (v := 0) dX7_call_42 rfl (by decide) ?_
      refine aj_callV (q := 46) (As := [_, _]) cl_X7_215 mk_X7_raise dX7_call_43 rfl lR_0 rfl rfl (Nat.le_of_ble_eq_true rfl) (sp_X7_raise hw (fun hw8 => ?_))
      refine aj_aload_n (q := 47) (i := 0) dX7_call_46 rfl rfl rfl ?_
      refine aj_getR (q := 50) fl_X7_35 dX7_call_47 rfl lR_0 rfl ?_
      refine aj_callV (q := 53) (As := []) cl_X7_181 mk_X0_close dX7_call_50 rfl lR_11 rfl rfl (Nat.le_of_ble_eq_true rfl) (sp_X0_close hw8 (fun hw9 => ?_))
      refine aj_goto (tgt := 89) dX7_call_53 (by decide) ?_
      refine aj_return dX7_call_89 rfl ?_
      skip
      first | contradiction | with_reducible exact hQ hw9 | (simp (decide := true) only [rCall, ↓reduceIte, sw_eq, sw_ne, ne_eq, Nat.reduceEqDiff, not_false_eq_true, Bool.false_eq_true, bi_t, bi_f, c15_1, c37_2] at hQ; with_reducible exact hQ hw9) | (simp (decide := true) only [rCall, ↓reduceIte, sw_eq, sw_ne, ne_eq, Nat.reduceEqDiff, not_false_eq_true, Bool.false_eq_true, bi_t, bi_f, c15_1, c37_2] at hQ hw9 ⊢; with_reducible exact hQ hw9) | exact absurd (by assumption) (by decide : ¬ (1 : Int32) = 0)
  · refine aj_aload_n (q := 19) (i := 0) dX7_call_18 rfl rfl rfl ?_
    refine aj_bipush (q := 21) (v := 6) dX7_call_19 rfl (by decide) ?_
    refine aj_iconst (q := 22) (v := 0) dX7_call_21 rfl (by decide) ?_
    refine aj_callV (q := 25) (As := [_, _]) cl_X7_215 mk_X7_raise dX7_call_22 rfl lR_0 rfl rfl (Nat.le_of_ble_eq_true rfl) (sp_X7_raise hw (fun hw10 => ?_))
    refine aj_aload_n (q := 26) (i := 0) dX7_call_25 rfl rfl rfl ?_
    refine aj_getR (q := 29) fl_X7_35 dX7_call_26 rfl lR_0 rfl ?_
    refine aj_callV (q := 32) (As := []) cl_X7_181 mk_X0_close dX7_call_29 rfl lR_11 rfl rfl (Nat.le_of_ble_eq_true rfl) (sp_X0_close hw10 (fun hw11 => ?_))
    refine aj_goto (tgt := 89) dX7_call_32 (by decide) ?_
    refine aj_return dX7_call_89 rfl ?_
    skip
    first | contradiction | with_reducible exact hQ hw11 | (simp (decide := true) only [rCall, ↓reduceIte, sw_eq, sw_ne, ne_eq, Nat.reduceEqDiff, not_false_eq_true, Bool.false_eq_true, bi_t, bi_f, c15_1] at hQ; with_reducible exact hQ hw11) | (simp (decide := true) only [rCall, ↓reduceIte, sw_eq, sw_ne, ne_eq, Nat.reduceEqDiff, not_false_eq_true, Bool.false_eq_true, bi_t, bi_f, c15_1] at hQ hw11 ⊢; with_reducible exact hQ hw11) | exact absurd (by assumption) (by decide : ¬ (1 : Int32) = 0)
set_option maxRecDepth 2000 in
theorem sp_X7_makeRow {d : Nat} {S : Sx} {Q : Option Value → Sx → Prop} {r n : Int32} (hw : wfR S) (hQ : wfR (rMakeRow S r n) → Q none (rMakeRow S r n)) : CC (d + 2) kX7_makeRow layR [.ref 0, .int r, .int n] S Q := by
  refine cc_intro [some _, some _, some _] (by decide) (cc_cat (by rfl)) (Nat.le_of_ble_eq_true rfl) (cc_ls (by rfl)) ?_
  refine aj_aload_n (q := 1) (i := 0) dX7_makeRow_0 rfl rfl rfl ?_
  refine aj_getR (q := 4) fl_X7_21 dX7_makeRow_1 rfl lR_0 rfl ?_
  refine aj_iconst (q := 5) (v := 4) dX7_makeRow_4 rfl (by decide) ?_
  refine aj_iload_n (q := 6) (i := 2) dX7_makeRow_5 rfl rfl rfl ?_
  refine aj_callS (q := 9) (As := [_]) cl_X7_265 mk_X3_makingPrice dX7_makeRow_6 rfl rfl (Nat.le_of_ble_eq_true rfl) (sp_X3_makingPrice ?_)
  refine aj_callV (q := 12) (As := [_, _]) cl_X7_53 mk_X6_pays dX7_makeRow_9 rfl lR_6 rfl rfl (Nat.le_of_ble_eq_true rfl) (sp_X6_pays hw (fun hw1 => ?_))
  refine aj_ifB_ne (q := 15) (tgt := 23) dX7_makeRow_12 rfl (by decide) (fun c12_2 => ?_) (fun c12_2 => ?_)
  · refine aj_iload_n (q := 24) (i := 2) dX7_makeRow_23 rfl rfl rfl ?_
    refine aj_if_ge (q := 27) (tgt := 36) dX7_makeRow_24 rfl (by decide) (fun c24_3 => ?_) (fun c24_3 => ?_)
    · refine aj_aload_n (q := 37) (i := 0) dX7_makeRow_36 rfl rfl rfl ?_
      refine aj_getR (q := 40) fl_X7_12 dX7_makeRow_37 rfl lR_0 rfl ?_
      refine aj_iload_n (q := 41) (i := 1) dX7_makeRow_40 rfl rfl rfl ?_
      refine aj_iload_n (q := 42) (i := 2) dX7_makeRow_41 rfl rfl rfl ?_
      refine aj_callV (q := 45) (As := [_, _]) cl_X7_268 mk_X4_makeRow dX7_makeRow_42 rfl lR_1 rfl rfl (Nat.le_of_ble_eq_true rfl) (sp_X4_makeRow hw1 (fun hw4 => ?_))
      refine aj_return dX7_makeRow_45 rfl ?_
      skip
      first | contradiction | with_reducible exact hQ hw4 | (simp (decide := true) only [rMakeRow, ↓reduceIte, sw_eq, sw_ne, ne_eq, Nat.reduceEqDiff, not_false_eq_true, Bool.false_eq_true, bi_t, bi_f, c12_2, c24_3] at hQ; with_reducible exact hQ hw4) | (simp (decide := true) only [rMakeRow, ↓reduceIte, sw_eq, sw_ne, ne_eq, Nat.reduceEqDiff, not_false_eq_true, Bool.false_eq_true, bi_t, bi_f, c12_2, c24_3] at hQ hw4 ⊢; with_reducible exact hQ hw4) | exact absurd (by assumption) (by decide : ¬ (1 : Int32) = 0)
    · refine aj_aload_n (q := 28) (i := 0) dX7_makeRow_27 rfl rfl rfl ?_
      refine aj_iconst (q := 29) (v := 3) dX7_makeRow_28 rfl (by decide) ?_
      refine aj_iconst (q := 30) (v := 0) dX7_makeRow_29 rfl (by decide) ?_
      refine aj_callV (q := 33) (As := [_, _]) cl_X7_215 mk_X7_raise dX7_makeRow_30 rfl lR_0 rfl rfl (Nat.le_of_ble_eq_true rfl) (sp_X7_raise hw1 (fun hw5 => ?_))
      refine aj_goto (tgt := 45) dX7_makeRow_33 (by decide) ?_
      refine aj_return dX7_makeRow_45 rfl ?_
      skip
      first | contradiction | with_reducible exact hQ hw5 | (simp (decide := true) only [rMakeRow, ↓reduceIte, sw_eq, sw_ne, ne_eq, Nat.reduceEqDiff, not_false_eq_true, Bool.false_eq_true, bi_t, bi_f, c12_2, c24_3] at hQ; with_reducible exact hQ hw5) | (simp (decide := true) only [rMakeRow, ↓reduceIte, sw_eq, sw_ne, ne_eq, Nat.reduceEqDiff, not_false_eq_true, Bool.false_eq_true, bi_t, bi_f, c12_2, c24_3] at hQ hw5 ⊢; with_reducible exact hQ hw5) | exact absurd (by assumption) (by decide : ¬ (1 : Int32) = 0)
  · refine aj_aload_n (q := 16) (i := 0) dX7_makeRow_15 rfl rfl rfl ?_
    refine aj_iconst (q := 17) (v := 3) dX7_makeRow_16 rfl (by decide) ?_
    refine aj_putIw (q := 20) (f := 8) hw1 rfl okR fp_X7_61 dX7_makeRow_17 rfl lR_0 rfl rfl (fun hw6 => ?_)
    refine aj_goto (tgt := 45) dX7_makeRow_20 (by decide) ?_
    refine aj_return dX7_makeRow_45 rfl ?_
    skip
    first | contradiction | with_reducible exact hQ hw6 | (simp (decide := true) only [rMakeRow, ↓reduceIte, sw_eq, sw_ne, ne_eq, Nat.reduceEqDiff, not_false_eq_true, Bool.false_eq_true, bi_t, bi_f, c12_2] at hQ; with_reducible exact hQ hw6) | (simp (decide := true) only [rMakeRow, ↓reduceIte, sw_eq, sw_ne, ne_eq, Nat.reduceEqDiff, not_false_eq_true, Bool.false_eq_true, bi_t, bi_f, c12_2] at hQ hw6 ⊢; with_reducible exact hQ hw6) | exact absurd (by assumption) (by decide : ¬ (1 : Int32) = 0)
set_option maxRecDepth 2000 in
theorem sp_X7_measureRow {d : Nat} {S : Sx} {Q : Option Value → Sx → Prop} {x r : Int32} (hw : wfR S) (hQ : wfR (rMeasure S x r) → Q none (rMeasure S x r)) : CC (d + 2) kX7_measureRow layR [.ref 0, .int x, .int r] S Q := by
  refine cc_intro [some _, some _, some _, none] (by decide) (cc_cat (by rfl)) (Nat.le_of_ble_eq_true rfl) (cc_ls (by rfl)) ?_
  refine aj_aload_n (q := 1) (i := 0) dX7_measureRow_0 rfl rfl rfl ?_
  refine aj_getR (q := 4) fl_X7_12 dX7_measureRow_1 rfl lR_0 rfl ?_
  refine aj_iload_n (q := 5) (i := 2) dX7_measureRow_4 rfl rfl rfl ?_
  refine aj_callV (q := 8) (As := [_]) cl_X7_269 mk_X4_lengthOf dX7_measureRow_5 rfl lR_1 rfl rfl (Nat.le_of_ble_eq_true rfl) (sp_X4_lengthOf ?_)
  refine aj_istore_n (q := 9) (i := 3) (ls' := [_, _, _, _]) dX7_measureRow_8 rfl rfl (by decide) rfl ?_
  refine aj_iload_n (q := 10) (i := 3) dX7_measureRow_9 rfl rfl rfl ?_
  refine aj_iconst (q := 11) (v := (-1)) dX7_measureRow_10 rfl (by decide) ?_
  refine aj_icmp_ne (q := 14) (tgt := 23) dX7_measureRow_11 rfl (by decide) (fun c11_1 => ?_) (fun c11_1 => ?_)
  · refine aj_aload_n (q := 24) (i := 0) dX7_measureRow_23 rfl rfl rfl ?_
    refine aj_getR (q := 27) fl_X7_12 dX7_measureRow_24 rfl lR_0 rfl ?_
    refine aj_iload_n (q := 28) (i := 1) dX7_measureRow_27 rfl rfl rfl ?_
    refine aj_iload_n (q := 29) (i := 3) dX7_measureRow_28 rfl rfl rfl ?_
    refine aj_callV (q := 32) (As := [_, _]) cl_X7_116 mk_X4_write dX7_measureRow_29 rfl lR_1 rfl rfl (Nat.le_of_ble_eq_true rfl) (sp_X4_write hw (fun hw2 => ?_))
    refine aj_return dX7_measureRow_32 rfl ?_
    skip
    first | contradiction | with_reducible exact hQ hw2 | (simp (decide := true) only [rMeasure, ↓reduceIte, sw_eq, sw_ne, ne_eq, Nat.reduceEqDiff, not_false_eq_true, Bool.false_eq_true, bi_t, bi_f, c11_1] at hQ; with_reducible exact hQ hw2) | (simp (decide := true) only [rMeasure, ↓reduceIte, sw_eq, sw_ne, ne_eq, Nat.reduceEqDiff, not_false_eq_true, Bool.false_eq_true, bi_t, bi_f, c11_1] at hQ hw2 ⊢; with_reducible exact hQ hw2) | exact absurd (by assumption) (by decide : ¬ (1 : Int32) = 0)
  · refine aj_aload_n (q := 15) (i := 0) dX7_measureRow_14 rfl rfl rfl ?_
    refine aj_iconst (q := 16) (v := 1) dX7_measureRow_15 rfl (by decide) ?_
    refine aj_iconst (q := 17) (v := 0) dX7_measureRow_16 rfl (by decide) ?_
    refine aj_callV (q := 20) (As := [_, _]) cl_X7_215 mk_X7_raise dX7_measureRow_17 rfl lR_0 rfl rfl (Nat.le_of_ble_eq_true rfl) (sp_X7_raise hw (fun hw3 => ?_))
    refine aj_goto (tgt := 32) dX7_measureRow_20 (by decide) ?_
    refine aj_return dX7_measureRow_32 rfl ?_
    skip
    first | contradiction | with_reducible exact hQ hw3 | (simp (decide := true) only [rMeasure, ↓reduceIte, sw_eq, sw_ne, ne_eq, Nat.reduceEqDiff, not_false_eq_true, Bool.false_eq_true, bi_t, bi_f, c11_1] at hQ; with_reducible exact hQ hw3) | (simp (decide := true) only [rMeasure, ↓reduceIte, sw_eq, sw_ne, ne_eq, Nat.reduceEqDiff, not_false_eq_true, Bool.false_eq_true, bi_t, bi_f, c11_1] at hQ hw3 ⊢; with_reducible exact hQ hw3) | exact absurd (by assumption) (by decide : ¬ (1 : Int32) = 0)
set_option maxRecDepth 2000 in
theorem sp_X7_reaches {d : Nat} {S : Sx} {Q : Option Value → Sx → Prop} {r i : Int32} (hw : wfR S) (hQ : wfR (rReach S r i) → Q (some (.int (bi (rReachB S r i)))) (rReach S r i)) : CC (d + 2) kX7_reaches layR [.ref 0, .int r, .int i] S Q := by
  refine cc_intro [some _, some _, some _, none] (by decide) (cc_cat (by rfl)) (Nat.le_of_ble_eq_true rfl) (cc_ls (by rfl)) ?_
  refine aj_aload_n (q := 1) (i := 0) dX7_reaches_0 rfl rfl rfl ?_
  refine aj_getR (q := 4) fl_X7_12 dX7_reaches_1 rfl lR_0 rfl ?_
  refine aj_iload_n (q := 5) (i := 1) dX7_reaches_4 rfl rfl rfl ?_
  refine aj_callV (q := 8) (As := [_]) cl_X7_269 mk_X4_lengthOf dX7_reaches_5 rfl lR_1 rfl rfl (Nat.le_of_ble_eq_true rfl) (sp_X4_lengthOf ?_)
  refine aj_istore_n (q := 9) (i := 3) (ls' := [_, _, _, _]) dX7_reaches_8 rfl rfl (by decide) rfl ?_
  refine aj_iload_n (q := 10) (i := 3) dX7_reaches_9 rfl rfl rfl ?_
  refine aj_iconst (q := 11) (v := (-1)) dX7_reaches_10 rfl (by decide) ?_
  refine aj_icmp_ne (q := 14) (tgt := 22) dX7_reaches_11 rfl (by decide) (fun c11_1 => ?_) (fun c11_1 => ?_)
  · refine aj_iload_n (q := 23) (i := 2) dX7_reaches_22 rfl rfl rfl ?_
    refine aj_iload_n (q := 24) (i := 3) dX7_reaches_23 rfl rfl rfl ?_
    refine aj_callS (q := 27) (As := [_, _]) cl_X7_272 mk_X9_isBelow dX7_reaches_24 rfl rfl (Nat.le_of_ble_eq_true rfl) (sp_isBelow ?_)
    refine aj_ifB_ne (q := 30) (tgt := 38) dX7_reaches_27 rfl (by decide) (fun c27_2 => ?_) (fun c27_2 => ?_)
    · refine aj_iconst (q := 39) (v := 1) dX7_reaches_38 rfl (by decide) ?_
      refine aj_zreturn dX7_reaches_39 rfl (by decide) ?_
      skip
      first | contradiction | with_reducible exact hQ hw | (simp (decide := true) only [rReach, rReachB, ↓reduceIte, sw_eq, sw_ne, ne_eq, Nat.reduceEqDiff, not_false_eq_true, Bool.false_eq_true, bi_t, bi_f, c11_1, c27_2] at hQ; with_reducible exact hQ hw) | (simp (decide := true) only [rReach, rReachB, ↓reduceIte, sw_eq, sw_ne, ne_eq, Nat.reduceEqDiff, not_false_eq_true, Bool.false_eq_true, bi_t, bi_f, c11_1, c27_2] at hQ hw ⊢; with_reducible exact hQ hw) | exact absurd (by assumption) (by decide : ¬ (1 : Int32) = 0)
    · refine aj_aload_n (q := 31) (i := 0) dX7_reaches_30 rfl rfl rfl ?_
      refine aj_iconst (q := 32) (v := 2) dX7_reaches_31 rfl (by decide) ?_
      refine aj_iconst (q := 33) (v := 0) dX7_reaches_32 rfl (by decide) ?_
      refine aj_callV (q := 36) (As := [_, _]) cl_X7_215 mk_X7_raise dX7_reaches_33 rfl lR_0 rfl rfl (Nat.le_of_ble_eq_true rfl) (sp_X7_raise hw (fun hw3 => ?_))
      refine aj_iconst (q := 37) (v := 0) dX7_reaches_36 rfl (by decide) ?_
      refine aj_zreturn dX7_reaches_37 rfl (by decide) ?_
      skip
      first | contradiction | with_reducible exact hQ hw3 | (simp (decide := true) only [rReach, rReachB, ↓reduceIte, sw_eq, sw_ne, ne_eq, Nat.reduceEqDiff, not_false_eq_true, Bool.false_eq_true, bi_t, bi_f, c11_1, c27_2] at hQ; with_reducible exact hQ hw3) | (simp (decide := true) only [rReach, rReachB, ↓reduceIte, sw_eq, sw_ne, ne_eq, Nat.reduceEqDiff, not_false_eq_true, Bool.false_eq_true, bi_t, bi_f, c11_1, c27_2] at hQ hw3 ⊢; with_reducible exact hQ hw3) | exact absurd (by assumption) (by decide : ¬ (1 : Int32) = 0)
  · refine aj_aload_n (q := 15) (i := 0) dX7_reaches_14 rfl rfl rfl ?_
    refine aj_iconst (q := 16) (v := 1) dX7_reaches_15 rfl (by decide) ?_
    refine aj_iconst (q := 17) (v := 0) dX7_reaches_16 rfl (by decide) ?_
    refine aj_callV (q := 20) (As := [_, _]) cl_X7_215 mk_X7_raise dX7_reaches_17 rfl lR_0 rfl rfl (Nat.le_of_ble_eq_true rfl) (sp_X7_raise hw (fun hw4 => ?_))
    refine aj_iconst (q := 21) (v := 0) dX7_reaches_20 rfl (by decide) ?_
    refine aj_zreturn dX7_reaches_21 rfl (by decide) ?_
    skip
    first | contradiction | with_reducible exact hQ hw4 | (simp (decide := true) only [rReach, rReachB, ↓reduceIte, sw_eq, sw_ne, ne_eq, Nat.reduceEqDiff, not_false_eq_true, Bool.false_eq_true, bi_t, bi_f, c11_1] at hQ; with_reducible exact hQ hw4) | (simp (decide := true) only [rReach, rReachB, ↓reduceIte, sw_eq, sw_ne, ne_eq, Nat.reduceEqDiff, not_false_eq_true, Bool.false_eq_true, bi_t, bi_f, c11_1] at hQ hw4 ⊢; with_reducible exact hQ hw4) | exact absurd (by assumption) (by decide : ¬ (1 : Int32) = 0)
set_option maxRecDepth 2000 in
theorem sp_X7_divide {d : Nat} {S : Sx} {Q : Option Value → Sx → Prop} {t x l r : Int32} (hw : wfR S) (hQ : wfR (rDivide S t x l r) → Q none (rDivide S t x l r)) : CC (d + 2) kX7_divide layR [.ref 0, .int t, .int x, .int l, .int r] S Q := by
  refine cc_intro [some _, some _, some _, some _, some _] (by decide) (cc_cat (by rfl)) (Nat.le_of_ble_eq_true rfl) (cc_ls (by rfl)) ?_
  refine aj_iload (q := 2) (i := 4) dX7_divide_0 rfl rfl ?_
  refine aj_if_ne (q := 5) (tgt := 14) dX7_divide_2 rfl (by decide) (fun c2_1 => ?_) (fun c2_1 => ?_)
  · refine aj_aload_n (q := 15) (i := 0) dX7_divide_14 rfl rfl rfl ?_
    refine aj_getR (q := 18) fl_X7_12 dX7_divide_15 rfl lR_0 rfl ?_
    refine aj_iload_n (q := 19) (i := 2) dX7_divide_18 rfl rfl rfl ?_
    refine aj_iload_n (q := 20) (i := 1) dX7_divide_19 rfl rfl rfl ?_
    refine aj_iconst (q := 21) (v := 4) dX7_divide_20 rfl (by decide) ?_
    refine aj_icmp_ne (q := 24) (tgt := 31) dX7_divide_21 rfl (by decide) (fun c21_2 => ?_) (fun c21_2 => ?_)
    · refine aj_iload_n (q := 32) (i := 3) dX7_divide_31 rfl rfl rfl ?_
      refine aj_iload (q := 34) (i := 4) dX7_divide_32 rfl rfl ?_
      refine aj_irem (q := 35) dX7_divide_34 rfl c2_1 ?_
      refine aj_callV (q := 38) (As := [_, _]) cl_X7_116 mk_X4_write dX7_divide_35 rfl lR_1 rfl rfl (Nat.le_of_ble_eq_true rfl) (sp_X4_write hw (fun hw3 => ?_))
      refine aj_return dX7_divide_38 rfl ?_
      skip
      first | contradiction | with_reducible exact hQ hw3 | (simp (decide := true) only [rDivide, ↓reduceIte, sw_eq, sw_ne, ne_eq, Nat.reduceEqDiff, not_false_eq_true, Bool.false_eq_true, bi_t, bi_f, c2_1, c21_2] at hQ; with_reducible exact hQ hw3) | (simp (decide := true) only [rDivide, ↓reduceIte, sw_eq, sw_ne, ne_eq, Nat.reduceEqDiff, not_false_eq_true, Bool.false_eq_true, bi_t, bi_f, c2_1, c21_2] at hQ hw3 ⊢; with_reducible exact hQ hw3) | exact absurd (by assumption) (by decide : ¬ (1 : Int32) = 0)
    · refine aj_iload_n (q := 25) (i := 3) dX7_divide_24 rfl rfl rfl ?_
      refine aj_iload (q := 27) (i := 4) dX7_divide_25 rfl rfl ?_
      refine aj_idiv (q := 28) dX7_divide_27 rfl c2_1 ?_
      refine aj_goto (tgt := 35) dX7_divide_28 (by decide) ?_
      refine aj_callV (q := 38) (As := [_, _]) cl_X7_116 mk_X4_write dX7_divide_35 rfl lR_1 rfl rfl (Nat.le_of_ble_eq_true rfl) (sp_X4_write hw (fun hw4 => ?_))
      refine aj_return dX7_divide_38 rfl ?_
      skip
      first | contradiction | with_reducible exact hQ hw4 | (simp (decide := true) only [rDivide, ↓reduceIte, sw_eq, sw_ne, ne_eq, Nat.reduceEqDiff, not_false_eq_true, Bool.false_eq_true, bi_t, bi_f, c2_1, c21_2] at hQ; with_reducible exact hQ hw4) | (simp (decide := true) only [rDivide, ↓reduceIte, sw_eq, sw_ne, ne_eq, Nat.reduceEqDiff, not_false_eq_true, Bool.false_eq_true, bi_t, bi_f, c2_1, c21_2] at hQ hw4 ⊢; with_reducible exact hQ hw4) | exact absurd (by assumption) (by decide : ¬ (1 : Int32) = 0)
  · refine aj_aload_n (q := 6) (i := 0) dX7_divide_5 rfl rfl rfl ?_
    refine aj_iconst (q := 7) (v := 4) dX7_divide_6 rfl (by decide) ?_
    refine aj_iconst (q := 8) (v := 0) dX7_divide_7 rfl (by decide) ?_
    refine aj_callV (q := 11) (As := [_, _]) cl_X7_215 mk_X7_raise dX7_divide_8 rfl lR_0 rfl rfl (Nat.le_of_ble_eq_true rfl) (sp_X7_raise hw (fun hw5 => ?_))
    refine aj_goto (tgt := 38) dX7_divide_11 (by decide) ?_
    refine aj_return dX7_divide_38 rfl ?_
    skip
    first | contradiction | with_reducible exact hQ hw5 | (simp (decide := true) only [rDivide, ↓reduceIte, sw_eq, sw_ne, ne_eq, Nat.reduceEqDiff, not_false_eq_true, Bool.false_eq_true, bi_t, bi_f, c2_1] at hQ; with_reducible exact hQ hw5) | (simp (decide := true) only [rDivide, ↓reduceIte, sw_eq, sw_ne, ne_eq, Nat.reduceEqDiff, not_false_eq_true, Bool.false_eq_true, bi_t, bi_f, c2_1] at hQ hw5 ⊢; with_reducible exact hQ hw5) | exact absurd (by assumption) (by decide : ¬ (1 : Int32) = 0)
set_option maxRecDepth 2000 in
theorem sp_X7_calculate {d : Nat} {S : Sx} {Q : Option Value → Sx → Prop} {t a b c : Int32} (hw : wfR S) (hQ : wfR (rCalc S t a b c) → Q none (rCalc S t a b c)) : CC (d + 3) kX7_calculate layR [.ref 0, .int t, .int a, .int b, .int c] S Q := by
  refine cc_intro [some _, some _, some _, some _, some _, none, none] (by decide) (cc_cat (by rfl)) (Nat.le_of_ble_eq_true rfl) (cc_ls (by rfl)) ?_
  refine aj_aload_n (q := 1) (i := 0) dX7_calculate_0 rfl rfl rfl ?_
  refine aj_getR (q := 4) fl_X7_12 dX7_calculate_1 rfl lR_0 rfl ?_
  refine aj_iload_n (q := 5) (i := 3) dX7_calculate_4 rfl rfl rfl ?_
  refine aj_callV (q := 8) (As := [_]) cl_X7_144 mk_X4_read dX7_calculate_5 rfl lR_1 rfl rfl (Nat.le_of_ble_eq_true rfl) (sp_X4_read ?_)
  refine aj_istore (q := 10) (i := 5) (ls' := [_, _, _, _, _, _, _]) dX7_calculate_8 rfl (by decide) rfl ?_
  refine aj_aload_n (q := 11) (i := 0) dX7_calculate_10 rfl rfl rfl ?_
  refine aj_getR (q := 14) fl_X7_12 dX7_calculate_11 rfl lR_0 rfl ?_
  refine aj_iload (q := 16) (i := 4) dX7_calculate_14 rfl rfl ?_
  refine aj_callV (q := 19) (As := [_]) cl_X7_144 mk_X4_read dX7_calculate_16 rfl lR_1 rfl rfl (Nat.le_of_ble_eq_true rfl) (sp_X4_read ?_)
  refine aj_istore (q := 21) (i := 6) (ls' := [_, _, _, _, _, _, _]) dX7_calculate_19 rfl (by decide) rfl ?_
  refine aj_iload_n (q := 22) (i := 1) dX7_calculate_21 rfl rfl rfl ?_
  refine aj_tsn (fun x1 ex1 => ?_)
  by_cases e1_0 : x1 = 0
  · refine aj_tsIn (tgt := 52) (off := 30) dX7_calculate_22 (by rw [e1_0]; decide) (by rw [e1_0]; decide) (by rw [e1_0]; rfl) (by decide) ?_
    refine aj_aload_n (q := 53) (i := 0) dX7_calculate_52 rfl rfl rfl ?_
    refine aj_getR (q := 56) fl_X7_12 dX7_calculate_53 rfl lR_0 rfl ?_
    refine aj_iload_n (q := 57) (i := 2) dX7_calculate_56 rfl rfl rfl ?_
    refine aj_iload_n (q := 58) (i := 3) dX7_calculate_57 rfl rfl rfl ?_
    refine aj_callV (q := 61) (As := [_, _]) cl_X7_116 mk_X4_write dX7_calculate_58 rfl lR_1 rfl rfl (Nat.le_of_ble_eq_true rfl) (sp_X4_write hw (fun hw2 => ?_))
    refine aj_goto (tgt := 122) dX7_calculate_61 (by decide) ?_
    refine aj_return dX7_calculate_122 rfl ?_
    skip; subst ex1
    first | contradiction | with_reducible exact hQ hw2 | (simp (decide := true) only [rCalc, ↓reduceIte, sw_eq, sw_ne, ne_eq, Nat.reduceEqDiff, not_false_eq_true, Bool.false_eq_true, bi_t, bi_f, e1_0] at hQ; with_reducible exact hQ hw2) | (simp (decide := true) only [rCalc, ↓reduceIte, sw_eq, sw_ne, ne_eq, Nat.reduceEqDiff, not_false_eq_true, Bool.false_eq_true, bi_t, bi_f, e1_0] at hQ hw2 ⊢; with_reducible exact hQ hw2) | exact absurd (by assumption) (by decide : ¬ (1 : Int32) = 0)
  by_cases e1_1 : x1 = 1
  · refine aj_tsIn (tgt := 64) (off := 42) dX7_calculate_22 (by rw [e1_1]; decide) (by rw [e1_1]; decide) (by rw [e1_1]; rfl) (by decide) ?_
    refine aj_aload_n (q := 65) (i := 0) dX7_calculate_64 rfl rfl rfl ?_
    refine aj_getR (q := 68) fl_X7_12 dX7_calculate_65 rfl lR_0 rfl ?_
    refine aj_iload_n (q := 69) (i := 2) dX7_calculate_68 rfl rfl rfl ?_
    refine aj_iload (q := 71) (i := 5) dX7_calculate_69 rfl rfl ?_
    refine aj_iload (q := 73) (i := 6) dX7_calculate_71 rfl rfl ?_
    refine aj_iadd (q := 74) dX7_calculate_73 rfl ?_
    refine aj_callV (q := 77) (As := [_, _]) cl_X7_116 mk_X4_write dX7_calculate_74 rfl lR_1 rfl rfl (Nat.le_of_ble_eq_true rfl) (sp_X4_write hw (fun hw3 => ?_))
    refine aj_goto (tgt := 122) dX7_calculate_77 (by decide) ?_
    refine aj_return dX7_calculate_122 rfl ?_
    skip; subst ex1
    first | contradiction | with_reducible exact hQ hw3 | (simp (decide := true) only [rCalc, ↓reduceIte, sw_eq, sw_ne, ne_eq, Nat.reduceEqDiff, not_false_eq_true, Bool.false_eq_true, bi_t, bi_f, e1_1] at hQ; with_reducible exact hQ hw3) | (simp (decide := true) only [rCalc, ↓reduceIte, sw_eq, sw_ne, ne_eq, Nat.reduceEqDiff, not_false_eq_true, Bool.false_eq_true, bi_t, bi_f, e1_1] at hQ hw3 ⊢; with_reducible exact hQ hw3) | exact absurd (by assumption) (by decide : ¬ (1 : Int32) = 0)
  by_cases e1_2 : x1 = 2
  · refine aj_tsIn (tgt := 80) (off := 58) dX7_calculate_22 (by rw [e1_2]; decide) (by rw [e1_2]; decide) (by rw [e1_2]; rfl) (by decide) ?_
    refine aj_aload_n (q := 81) (i := 0) dX7_calculate_80 rfl rfl rfl ?_
    refine aj_getR (q := 84) fl_X7_12 dX7_calculate_81 rfl lR_0 rfl ?_
    refine aj_iload_n (q := 85) (i := 2) dX7_calculate_84 rfl rfl rfl ?_
    refine aj_iload (q := 87) (i := 5) dX7_calculate_85 rfl rfl ?_
    refine aj_iload (q := 89) (i := 6) dX7_calculate_87 rfl rfl ?_
    refine aj_isub (q := 90) dX7_calculate_89 rfl ?_
    refine aj_callV (q := 93) (As := [_, _]) cl_X7_116 mk_X4_write dX7_calculate_90 rfl lR_1 rfl rfl (Nat.le_of_ble_eq_true rfl) (sp_X4_write hw (fun hw4 => ?_))
    refine aj_goto (tgt := 122) dX7_calculate_93 (by decide) ?_
    refine aj_return dX7_calculate_122 rfl ?_
    skip; subst ex1
    first | contradiction | with_reducible exact hQ hw4 | (simp (decide := true) only [rCalc, ↓reduceIte, sw_eq, sw_ne, ne_eq, Nat.reduceEqDiff, not_false_eq_true, Bool.false_eq_true, bi_t, bi_f, e1_2] at hQ; with_reducible exact hQ hw4) | (simp (decide := true) only [rCalc, ↓reduceIte, sw_eq, sw_ne, ne_eq, Nat.reduceEqDiff, not_false_eq_true, Bool.false_eq_true, bi_t, bi_f, e1_2] at hQ hw4 ⊢; with_reducible exact hQ hw4) | exact absurd (by assumption) (by decide : ¬ (1 : Int32) = 0)
  by_cases e1_3 : x1 = 3
  · refine aj_tsIn (tgt := 96) (off := 74) dX7_calculate_22 (by rw [e1_3]; decide) (by rw [e1_3]; decide) (by rw [e1_3]; rfl) (by decide) ?_
    refine aj_aload_n (q := 97) (i := 0) dX7_calculate_96 rfl rfl rfl ?_
    refine aj_getR (q := 100) fl_X7_12 dX7_calculate_97 rfl lR_0 rfl ?_
    refine aj_iload_n (q := 101) (i := 2) dX7_calculate_100 rfl rfl rfl ?_
    refine aj_iload (q := 103) (i := 5) dX7_calculate_101 rfl rfl ?_
    refine aj_iload (q := 105) (i := 6) dX7_calculate_103 rfl rfl ?_
    refine aj_imul (q := 106) dX7_calculate_105 rfl ?_
    refine aj_callV (q := 109) (As := [_, _]) cl_X7_116 mk_X4_write dX7_calculate_106 rfl lR_1 rfl rfl (Nat.le_of_ble_eq_true rfl) (sp_X4_write hw (fun hw5 => ?_))
    refine aj_goto (tgt := 122) dX7_calculate_109 (by decide) ?_
    refine aj_return dX7_calculate_122 rfl ?_
    skip; subst ex1
    first | contradiction | with_reducible exact hQ hw5 | (simp (decide := true) only [rCalc, ↓reduceIte, sw_eq, sw_ne, ne_eq, Nat.reduceEqDiff, not_false_eq_true, Bool.false_eq_true, bi_t, bi_f, e1_3] at hQ; with_reducible exact hQ hw5) | (simp (decide := true) only [rCalc, ↓reduceIte, sw_eq, sw_ne, ne_eq, Nat.reduceEqDiff, not_false_eq_true, Bool.false_eq_true, bi_t, bi_f, e1_3] at hQ hw5 ⊢; with_reducible exact hQ hw5) | exact absurd (by assumption) (by decide : ¬ (1 : Int32) = 0)
  refine aj_tsOut (tgt := 112) dX7_calculate_22 (by have := And.intro trivial trivial; have z0 := lv_neT (a := 0) e1_0 rfl; have z1 := lv_neT (a := 1) e1_1 rfl; have z2 := lv_neT (a := 2) e1_2 rfl; have z3 := lv_neT (a := 3) e1_3 rfl; omega) (by decide) ?_
  refine aj_aload_n (q := 113) (i := 0) dX7_calculate_112 rfl rfl rfl ?_
  refine aj_iload_n (q := 114) (i := 1) dX7_calculate_113 rfl rfl rfl ?_
  refine aj_iload_n (q := 115) (i := 2) dX7_calculate_114 rfl rfl rfl ?_
  refine aj_iload (q := 117) (i := 5) dX7_calculate_115 rfl rfl ?_
  refine aj_iload (q := 119) (i := 6) dX7_calculate_117 rfl rfl ?_
  refine aj_callV (q := 122) (As := [_, _, _, _]) cl_X7_241 mk_X7_divide dX7_calculate_119 rfl lR_0 rfl rfl (Nat.le_of_ble_eq_true rfl) (sp_X7_divide hw (fun hw6 => ?_))
  refine aj_return dX7_calculate_122 rfl ?_
  skip; subst ex1
  first | contradiction | with_reducible exact hQ hw6 | (simp (decide := true) only [rCalc, ↓reduceIte, sw_eq, sw_ne, ne_eq, Nat.reduceEqDiff, not_false_eq_true, Bool.false_eq_true, bi_t, bi_f, e1_0, e1_1, e1_2, e1_3] at hQ; with_reducible exact hQ hw6) | (simp (decide := true) only [rCalc, ↓reduceIte, sw_eq, sw_ne, ne_eq, Nat.reduceEqDiff, not_false_eq_true, Bool.false_eq_true, bi_t, bi_f, e1_0, e1_1, e1_2, e1_3] at hQ hw6 ⊢; with_reducible exact hQ hw6) | exact absurd (by assumption) (by decide : ¬ (1 : Int32) = 0)
set_option maxRecDepth 2000 in
theorem sp_X7_doWithRow {d : Nat} {S : Sx} {Q : Option Value → Sx → Prop} {t a b c : Int32} (hw : wfR S) (hQ : wfR (rRow S t a b c) → Q none (rRow S t a b c)) : CC (d + 3) kX7_doWithRow layR [.ref 0, .int t, .int a, .int b, .int c] S Q := by
  refine cc_intro [some _, some _, some _, some _, some _] (by decide) (cc_cat (by rfl)) (Nat.le_of_ble_eq_true rfl) (cc_ls (by rfl)) ?_
  refine aj_iload_n (q := 1) (i := 1) dX7_doWithRow_0 rfl rfl rfl ?_
  refine aj_tsn (fun x1 ex1 => ?_)
  by_cases e1_6 : x1 = 6
  · refine aj_tsIn (tgt := 36) (off := 35) dX7_doWithRow_1 (by rw [e1_6]; decide) (by rw [e1_6]; decide) (by rw [e1_6]; rfl) (by decide) ?_
    refine aj_aload_n (q := 37) (i := 0) dX7_doWithRow_36 rfl rfl rfl ?_
    refine aj_iload_n (q := 38) (i := 2) dX7_doWithRow_37 rfl rfl rfl ?_
    refine aj_aload_n (q := 39) (i := 0) dX7_doWithRow_38 rfl rfl rfl ?_
    refine aj_getR (q := 42) fl_X7_12 dX7_doWithRow_39 rfl lR_0 rfl ?_
    refine aj_iload_n (q := 43) (i := 3) dX7_doWithRow_42 rfl rfl rfl ?_
    refine aj_callV (q := 46) (As := [_]) cl_X7_144 mk_X4_read dX7_doWithRow_43 rfl lR_1 rfl rfl (Nat.le_of_ble_eq_true rfl) (sp_X4_read ?_)
    refine aj_callV (q := 49) (As := [_, _]) cl_X7_244 mk_X7_makeRow dX7_doWithRow_46 rfl lR_0 rfl rfl (Nat.le_of_ble_eq_true rfl) (sp_X7_makeRow hw (fun hw2 => ?_))
    refine aj_goto (tgt := 170) dX7_doWithRow_49 (by decide) ?_
    refine aj_return dX7_doWithRow_170 rfl ?_
    skip; subst ex1
    first | contradiction | with_reducible exact hQ hw2 | (simp (decide := true) only [rRow, ↓reduceIte, sw_eq, sw_ne, ne_eq, Nat.reduceEqDiff, not_false_eq_true, Bool.false_eq_true, bi_t, bi_f, e1_6] at hQ; with_reducible exact hQ hw2) | (simp (decide := true) only [rRow, ↓reduceIte, sw_eq, sw_ne, ne_eq, Nat.reduceEqDiff, not_false_eq_true, Bool.false_eq_true, bi_t, bi_f, e1_6] at hQ hw2 ⊢; with_reducible exact hQ hw2) | exact absurd (by assumption) (by decide : ¬ (1 : Int32) = 0)
  by_cases e1_7 : x1 = 7
  · refine aj_tsIn (tgt := 52) (off := 51) dX7_doWithRow_1 (by rw [e1_7]; decide) (by rw [e1_7]; decide) (by rw [e1_7]; rfl) (by decide) ?_
    refine aj_aload_n (q := 53) (i := 0) dX7_doWithRow_52 rfl rfl rfl ?_
    refine aj_iload_n (q := 54) (i := 3) dX7_doWithRow_53 rfl rfl rfl ?_
    refine aj_aload_n (q := 55) (i := 0) dX7_doWithRow_54 rfl rfl rfl ?_
    refine aj_getR (q := 58) fl_X7_12 dX7_doWithRow_55 rfl lR_0 rfl ?_
    refine aj_iload (q := 60) (i := 4) dX7_doWithRow_58 rfl rfl ?_
    refine aj_callV (q := 63) (As := [_]) cl_X7_144 mk_X4_read dX7_doWithRow_60 rfl lR_1 rfl rfl (Nat.le_of_ble_eq_true rfl) (sp_X4_read ?_)
    refine aj_callV (q := 66) (As := [_, _]) cl_X7_247 mk_X7_reaches dX7_doWithRow_63 rfl lR_0 rfl rfl (Nat.le_of_ble_eq_true rfl) (sp_X7_reaches hw (fun hw3 => ?_))
    refine aj_ifB_eq (q := 69) (tgt := 170) dX7_doWithRow_66 rfl (by decide) (fun c66_4 => ?_) (fun c66_4 => ?_)
    · refine aj_return dX7_doWithRow_170 rfl ?_
      skip; subst ex1
      first | contradiction | with_reducible exact hQ hw3 | (simp (decide := true) only [rRow, ↓reduceIte, sw_eq, sw_ne, ne_eq, Nat.reduceEqDiff, not_false_eq_true, Bool.false_eq_true, bi_t, bi_f, e1_7, c66_4] at hQ; with_reducible exact hQ hw3) | (simp (decide := true) only [rRow, ↓reduceIte, sw_eq, sw_ne, ne_eq, Nat.reduceEqDiff, not_false_eq_true, Bool.false_eq_true, bi_t, bi_f, e1_7, c66_4] at hQ hw3 ⊢; with_reducible exact hQ hw3) | exact absurd (by assumption) (by decide : ¬ (1 : Int32) = 0)
    · refine aj_aload_n (q := 70) (i := 0) dX7_doWithRow_69 rfl rfl rfl ?_
      refine aj_getR (q := 73) fl_X7_12 dX7_doWithRow_70 rfl lR_0 rfl ?_
      refine aj_iload_n (q := 74) (i := 2) dX7_doWithRow_73 rfl rfl rfl ?_
      refine aj_aload_n (q := 75) (i := 0) dX7_doWithRow_74 rfl rfl rfl ?_
      refine aj_getR (q := 78) fl_X7_12 dX7_doWithRow_75 rfl lR_0 rfl ?_
      refine aj_iload_n (q := 79) (i := 3) dX7_doWithRow_78 rfl rfl rfl ?_
      refine aj_aload_n (q := 80) (i := 0) dX7_doWithRow_79 rfl rfl rfl ?_
      refine aj_getR (q := 83) fl_X7_12 dX7_doWithRow_80 rfl lR_0 rfl ?_
      refine aj_iload (q := 85) (i := 4) dX7_doWithRow_83 rfl rfl ?_
      refine aj_callV (q := 88) (As := [_]) cl_X7_144 mk_X4_read dX7_doWithRow_85 rfl lR_1 rfl rfl (Nat.le_of_ble_eq_true rfl) (sp_X4_read ?_)
      refine aj_callV (q := 91) (As := [_, _]) cl_X7_250 mk_X4_load dX7_doWithRow_88 rfl lR_1 rfl rfl (Nat.le_of_ble_eq_true rfl) (sp_X4_load hw3 ?_)
      refine aj_callV (q := 94) (As := [_, _]) cl_X7_116 mk_X4_write dX7_doWithRow_91 rfl lR_1 rfl rfl (Nat.le_of_ble_eq_true rfl) (sp_X4_write hw3 (fun hw5 => ?_))
      refine aj_goto (tgt := 170) dX7_doWithRow_94 (by decide) ?_
      refine aj_return dX7_doWithRow_170 rfl ?_
      skip; subst ex1
      first | contradiction | with_reducible exact hQ hw5 | (simp (decide := true) only [rRow, ↓reduceIte, sw_eq, sw_ne, ne_eq, Nat.reduceEqDiff, not_false_eq_true, Bool.false_eq_true, bi_t, bi_f, e1_7, c66_4] at hQ; with_reducible exact hQ hw5) | (simp (decide := true) only [rRow, ↓reduceIte, sw_eq, sw_ne, ne_eq, Nat.reduceEqDiff, not_false_eq_true, Bool.false_eq_true, bi_t, bi_f, e1_7, c66_4] at hQ hw5 ⊢; with_reducible exact hQ hw5) | exact absurd (by assumption) (by decide : ¬ (1 : Int32) = 0)
  by_cases e1_8 : x1 = 8
  · refine aj_tsIn (tgt := 97) (off := 96) dX7_doWithRow_1 (by rw [e1_8]; decide) (by rw [e1_8]; decide) (by rw [e1_8]; rfl) (by decide) ?_
    refine aj_aload_n (q := 98) (i := 0) dX7_doWithRow_97 rfl rfl rfl ?_
    refine aj_iload_n (q := 99) (i := 2) dX7_doWithRow_98 rfl rfl rfl ?_
    refine aj_aload_n (q := 100) (i := 0) dX7_doWithRow_99 rfl rfl rfl ?_
    refine aj_getR (q := 103) fl_X7_12 dX7_doWithRow_100 rfl lR_0 rfl ?_
    refine aj_iload_n (q := 104) (i := 3) dX7_doWithRow_103 rfl rfl rfl ?_
    refine aj_callV (q := 107) (As := [_]) cl_X7_144 mk_X4_read dX7_doWithRow_104 rfl lR_1 rfl rfl (Nat.le_of_ble_eq_true rfl) (sp_X4_read ?_)
    refine aj_callV (q := 110) (As := [_, _]) cl_X7_247 mk_X7_reaches dX7_doWithRow_107 rfl lR_0 rfl rfl (Nat.le_of_ble_eq_true rfl) (sp_X7_reaches hw (fun hw6 => ?_))
    refine aj_ifB_eq (q := 113) (tgt := 170) dX7_doWithRow_110 rfl (by decide) (fun c110_7 => ?_) (fun c110_7 => ?_)
    · refine aj_return dX7_doWithRow_170 rfl ?_
      skip; subst ex1
      first | contradiction | with_reducible exact hQ hw6 | (simp (decide := true) only [rRow, ↓reduceIte, sw_eq, sw_ne, ne_eq, Nat.reduceEqDiff, not_false_eq_true, Bool.false_eq_true, bi_t, bi_f, e1_8, c110_7] at hQ; with_reducible exact hQ hw6) | (simp (decide := true) only [rRow, ↓reduceIte, sw_eq, sw_ne, ne_eq, Nat.reduceEqDiff, not_false_eq_true, Bool.false_eq_true, bi_t, bi_f, e1_8, c110_7] at hQ hw6 ⊢; with_reducible exact hQ hw6) | exact absurd (by assumption) (by decide : ¬ (1 : Int32) = 0)
    · refine aj_aload_n (q := 114) (i := 0) dX7_doWithRow_113 rfl rfl rfl ?_
      refine aj_getR (q := 117) fl_X7_12 dX7_doWithRow_114 rfl lR_0 rfl ?_
      refine aj_iload_n (q := 118) (i := 2) dX7_doWithRow_117 rfl rfl rfl ?_
      refine aj_aload_n (q := 119) (i := 0) dX7_doWithRow_118 rfl rfl rfl ?_
      refine aj_getR (q := 122) fl_X7_12 dX7_doWithRow_119 rfl lR_0 rfl ?_
      refine aj_iload_n (q := 123) (i := 3) dX7_doWithRow_122 rfl rfl rfl ?_
      refine aj_callV (q := 126) (As := [_]) cl_X7_144 mk_X4_read dX7_doWithRow_123 rfl lR_1 rfl rfl (Nat.le_of_ble_eq_true rfl) (sp_X4_read ?_)
      refine aj_aload_n (q := 127) (i := 0) dX7_doWithRow_126 rfl rfl rfl ?_
      refine aj_getR (q := 130) fl_X7_12 dX7_doWithRow_127 rfl lR_0 rfl ?_
      refine aj_iload (q := 132) (i := 4) dX7_doWithRow_130 rfl rfl ?_
      refine aj_callV (q := 135) (As := [_]) cl_X7_144 mk_X4_read dX7_doWithRow_132 rfl lR_1 rfl rfl (Nat.le_of_ble_eq_true rfl) (sp_X4_read ?_)
      refine aj_callV (q := 138) (As := [_, _, _]) cl_X7_253 mk_X4_store dX7_doWithRow_135 rfl lR_1 rfl rfl (Nat.le_of_ble_eq_true rfl) (sp_X4_store hw6 (fun hw8 => ?_))
      refine aj_goto (tgt := 170) dX7_doWithRow_138 (by decide) ?_
      refine aj_return dX7_doWithRow_170 rfl ?_
      skip; subst ex1
      first | contradiction | with_reducible exact hQ hw8 | (simp (decide := true) only [rRow, ↓reduceIte, sw_eq, sw_ne, ne_eq, Nat.reduceEqDiff, not_false_eq_true, Bool.false_eq_true, bi_t, bi_f, e1_8, c110_7] at hQ; with_reducible exact hQ hw8) | (simp (decide := true) only [rRow, ↓reduceIte, sw_eq, sw_ne, ne_eq, Nat.reduceEqDiff, not_false_eq_true, Bool.false_eq_true, bi_t, bi_f, e1_8, c110_7] at hQ hw8 ⊢; with_reducible exact hQ hw8) | exact absurd (by assumption) (by decide : ¬ (1 : Int32) = 0)
  by_cases e1_9 : x1 = 9
  · refine aj_tsIn (tgt := 141) (off := 140) dX7_doWithRow_1 (by rw [e1_9]; decide) (by rw [e1_9]; decide) (by rw [e1_9]; rfl) (by decide) ?_
    refine aj_aload_n (q := 142) (i := 0) dX7_doWithRow_141 rfl rfl rfl ?_
    refine aj_iload_n (q := 143) (i := 2) dX7_doWithRow_142 rfl rfl rfl ?_
    refine aj_iload_n (q := 144) (i := 3) dX7_doWithRow_143 rfl rfl rfl ?_
    refine aj_callV (q := 147) (As := [_, _]) cl_X7_256 mk_X7_measureRow dX7_doWithRow_144 rfl lR_0 rfl rfl (Nat.le_of_ble_eq_true rfl) (sp_X7_measureRow hw (fun hw9 => ?_))
    refine aj_goto (tgt := 170) dX7_doWithRow_147 (by decide) ?_
    refine aj_return dX7_doWithRow_170 rfl ?_
    skip; subst ex1
    first | contradiction | with_reducible exact hQ hw9 | (simp (decide := true) only [rRow, ↓reduceIte, sw_eq, sw_ne, ne_eq, Nat.reduceEqDiff, not_false_eq_true, Bool.false_eq_true, bi_t, bi_f, e1_9] at hQ; with_reducible exact hQ hw9) | (simp (decide := true) only [rRow, ↓reduceIte, sw_eq, sw_ne, ne_eq, Nat.reduceEqDiff, not_false_eq_true, Bool.false_eq_true, bi_t, bi_f, e1_9] at hQ hw9 ⊢; with_reducible exact hQ hw9) | exact absurd (by assumption) (by decide : ¬ (1 : Int32) = 0)
  by_cases e1_10 : x1 = 10
  · refine aj_tsIn (tgt := 150) (off := 149) dX7_doWithRow_1 (by rw [e1_10]; decide) (by rw [e1_10]; decide) (by rw [e1_10]; rfl) (by decide) ?_
    refine aj_aload_n (q := 151) (i := 0) dX7_doWithRow_150 rfl rfl rfl ?_
    refine aj_getR (q := 154) fl_X7_12 dX7_doWithRow_151 rfl lR_0 rfl ?_
    refine aj_iload_n (q := 155) (i := 2) dX7_doWithRow_154 rfl rfl rfl ?_
    refine aj_callV (q := 158) (As := [_]) cl_X7_259 mk_X4_forgetRow dX7_doWithRow_155 rfl lR_1 rfl rfl (Nat.le_of_ble_eq_true rfl) (sp_X4_forgetRow hw (fun hw10 => ?_))
    refine aj_goto (tgt := 170) dX7_doWithRow_158 (by decide) ?_
    refine aj_return dX7_doWithRow_170 rfl ?_
    skip; subst ex1
    first | contradiction | with_reducible exact hQ hw10 | (simp (decide := true) only [rRow, ↓reduceIte, sw_eq, sw_ne, ne_eq, Nat.reduceEqDiff, not_false_eq_true, Bool.false_eq_true, bi_t, bi_f, e1_10] at hQ; with_reducible exact hQ hw10) | (simp (decide := true) only [rRow, ↓reduceIte, sw_eq, sw_ne, ne_eq, Nat.reduceEqDiff, not_false_eq_true, Bool.false_eq_true, bi_t, bi_f, e1_10] at hQ hw10 ⊢; with_reducible exact hQ hw10) | exact absurd (by assumption) (by decide : ¬ (1 : Int32) = 0)
  refine aj_tsOut (tgt := 161) dX7_doWithRow_1 (by have := And.intro trivial trivial; have z0 := lv_neT (a := 6) e1_6 rfl; have z1 := lv_neT (a := 7) e1_7 rfl; have z2 := lv_neT (a := 8) e1_8 rfl; have z3 := lv_neT (a := 9) e1_9 rfl; have z4 := lv_neT (a := 10) e1_10 rfl; omega) (by decide) ?_
  refine aj_aload_n (q := 162) (i := 0) dX7_doWithRow_161 rfl rfl rfl ?_
  refine aj_getR (q := 165) fl_X7_12 dX7_doWithRow_162 rfl lR_0 rfl ?_
  refine aj_iload_n (q := 166) (i := 2) dX7_doWithRow_165 rfl rfl rfl ?_
  refine aj_iload_n (q := 167) (i := 3) dX7_doWithRow_166 rfl rfl rfl ?_
  refine aj_callV (q := 170) (As := [_, _]) cl_X7_262 mk_X4_shareRow dX7_doWithRow_167 rfl lR_1 rfl rfl (Nat.le_of_ble_eq_true rfl) (sp_X4_shareRow hw (fun hw11 => ?_))
  refine aj_return dX7_doWithRow_170 rfl ?_
  skip; subst ex1
  first | contradiction | with_reducible exact hQ hw11 | (simp (decide := true) only [rRow, ↓reduceIte, sw_eq, sw_ne, ne_eq, Nat.reduceEqDiff, not_false_eq_true, Bool.false_eq_true, bi_t, bi_f, e1_6, e1_7, e1_8, e1_9, e1_10] at hQ; with_reducible exact hQ hw11) | (simp (decide := true) only [rRow, ↓reduceIte, sw_eq, sw_ne, ne_eq, Nat.reduceEqDiff, not_false_eq_true, Bool.false_eq_true, bi_t, bi_f, e1_6, e1_7, e1_8, e1_9, e1_10] at hQ hw11 ⊢; with_reducible exact hQ hw11) | exact absurd (by assumption) (by decide : ¬ (1 : Int32) = 0)
set_option maxRecDepth 2000 in
theorem sp_X7_doAtOnce {d : Nat} {S : Sx} {Q : Option Value → Sx → Prop} {t a b c : Int32} (hw : wfR S) (hQ : wfR (rAtOnce S t a b c) → Q none (rAtOnce S t a b c)) : CC (d + 4) kX7_doAtOnce layR [.ref 0, .int t, .int a, .int b, .int c] S Q := by
  refine cc_intro [some _, some _, some _, some _, some _] (by decide) (cc_cat (by rfl)) (Nat.le_of_ble_eq_true rfl) (cc_ls (by rfl)) ?_
  refine aj_aload_n (q := 1) (i := 0) dX7_doAtOnce_0 rfl rfl rfl ?_
  refine aj_iconst (q := 2) (v := 0) dX7_doAtOnce_1 rfl (by decide) ?_
  refine aj_putIw (q := 5) (f := 8) hw rfl okR fp_X7_61 dX7_doAtOnce_2 rfl lR_0 rfl rfl (fun hw1 => ?_)
  refine aj_iload_n (q := 6) (i := 1) dX7_doAtOnce_5 rfl rfl rfl ?_
  refine aj_iconst (q := 7) (v := 5) dX7_doAtOnce_6 rfl (by decide) ?_
  refine aj_icmp_gt (q := 10) (tgt := 22) dX7_doAtOnce_7 rfl (by decide) (fun c7_2 => ?_) (fun c7_2 => ?_)
  · refine aj_iload_n (q := 23) (i := 1) dX7_doAtOnce_22 rfl rfl rfl ?_
    refine aj_bipush (q := 25) (v := 11) dX7_doAtOnce_23 rfl (by decide) ?_
    refine aj_icmp_gt (q := 28) (tgt := 40) dX7_doAtOnce_25 rfl (by decide) (fun c25_3 => ?_) (fun c25_3 => ?_)
    · refine aj_iload_n (q := 41) (i := 1) dX7_doAtOnce_40 rfl rfl rfl ?_
      refine aj_bipush (q := 43) (v := 16) dX7_doAtOnce_41 rfl (by decide) ?_
      refine aj_icmp_ne (q := 46) (tgt := 69) dX7_doAtOnce_43 rfl (by decide) (fun c43_4 => ?_) (fun c43_4 => ?_)
      · refine aj_iload_n (q := 70) (i := 1) dX7_doAtOnce_69 rfl rfl rfl ?_
        refine aj_bipush (q := 72) (v := 17) dX7_doAtOnce_70 rfl (by decide) ?_
        refine aj_icmp_ne (q := 75) (tgt := 91) dX7_doAtOnce_72 rfl (by decide) (fun c72_5 => ?_) (fun c72_5 => ?_)
        · refine aj_iload_n (q := 92) (i := 1) dX7_doAtOnce_91 rfl rfl rfl ?_
          refine aj_bipush (q := 94) (v := 21) dX7_doAtOnce_92 rfl (by decide) ?_
          refine aj_icmp_ne (q := 97) (tgt := 112) dX7_doAtOnce_94 rfl (by decide) (fun c94_6 => ?_) (fun c94_6 => ?_)
          · refine aj_aload_n (q := 113) (i := 0) dX7_doAtOnce_112 rfl rfl rfl ?_
            refine aj_getR (q := 116) fl_X7_35 dX7_doAtOnce_113 rfl lR_0 rfl ?_
            refine aj_callV (q := 119) (As := []) cl_X7_181 mk_X0_close dX7_doAtOnce_116 rfl lR_11 rfl rfl (Nat.le_of_ble_eq_true rfl) (sp_X0_close hw1 (fun hw7 => ?_))
            refine aj_return dX7_doAtOnce_119 rfl ?_
            skip
            first | contradiction | with_reducible exact hQ hw7 | (simp (decide := true) only [rAtOnce, ↓reduceIte, sw_eq, sw_ne, ne_eq, Nat.reduceEqDiff, not_false_eq_true, Bool.false_eq_true, bi_t, bi_f, c7_2, c25_3, c43_4, c72_5, c94_6] at hQ; with_reducible exact hQ hw7) | (simp (decide := true) only [rAtOnce, ↓reduceIte, sw_eq, sw_ne, ne_eq, Nat.reduceEqDiff, not_false_eq_true, Bool.false_eq_true, bi_t, bi_f, c7_2, c25_3, c43_4, c72_5, c94_6] at hQ hw7 ⊢; with_reducible exact hQ hw7) | exact absurd (by assumption) (by decide : ¬ (1 : Int32) = 0)
          · refine aj_aload_n (q := 98) (i := 0) dX7_doAtOnce_97 rfl rfl rfl ?_
            refine aj_getR (q := 101) fl_X7_12 dX7_doAtOnce_98 rfl lR_0 rfl ?_
            refine aj_iload_n (q := 102) (i := 2) dX7_doAtOnce_101 rfl rfl rfl ?_
            refine aj_aload_n (q := 103) (i := 0) dX7_doAtOnce_102 rfl rfl rfl ?_
            refine aj_getR (q := 106) fl_X7_12 dX7_doAtOnce_103 rfl lR_0 rfl ?_
            refine aj_callV (q := 109) (As := []) cl_X7_88 mk_X4_result dX7_doAtOnce_106 rfl lR_1 rfl rfl (Nat.le_of_ble_eq_true rfl) (sp_X4_result ?_)
            refine aj_callV (q := 112) (As := [_, _]) cl_X7_116 mk_X4_write dX7_doAtOnce_109 rfl lR_1 rfl rfl (Nat.le_of_ble_eq_true rfl) (sp_X4_write hw1 (fun hw8 => ?_))
            refine aj_aload_n (q := 113) (i := 0) dX7_doAtOnce_112 rfl rfl rfl ?_
            refine aj_getR (q := 116) fl_X7_35 dX7_doAtOnce_113 rfl lR_0 rfl ?_
            refine aj_callV (q := 119) (As := []) cl_X7_181 mk_X0_close dX7_doAtOnce_116 rfl lR_11 rfl rfl (Nat.le_of_ble_eq_true rfl) (sp_X0_close hw8 (fun hw9 => ?_))
            refine aj_return dX7_doAtOnce_119 rfl ?_
            skip
            first | contradiction | with_reducible exact hQ hw9 | (simp (decide := true) only [rAtOnce, ↓reduceIte, sw_eq, sw_ne, ne_eq, Nat.reduceEqDiff, not_false_eq_true, Bool.false_eq_true, bi_t, bi_f, c7_2, c25_3, c43_4, c72_5, c94_6] at hQ; with_reducible exact hQ hw9) | (simp (decide := true) only [rAtOnce, ↓reduceIte, sw_eq, sw_ne, ne_eq, Nat.reduceEqDiff, not_false_eq_true, Bool.false_eq_true, bi_t, bi_f, c7_2, c25_3, c43_4, c72_5, c94_6] at hQ hw9 ⊢; with_reducible exact hQ hw9) | exact absurd (by assumption) (by decide : ¬ (1 : Int32) = 0)
        · refine aj_aload_n (q := 76) (i := 0) dX7_doAtOnce_75 rfl rfl rfl ?_
          refine aj_iconst (q := 77) (v := 5) dX7_doAtOnce_76 rfl (by decide) ?_
          refine aj_aload_n (q := 78) (i := 0) dX7_doAtOnce_77 rfl rfl rfl ?_
          refine aj_getR (q := 81) fl_X7_12 dX7_doAtOnce_78 rfl lR_0 rfl ?_
          refine aj_iload_n (q := 82) (i := 2) dX7_doAtOnce_81 rfl rfl rfl ?_
          refine aj_callV (q := 85) (As := [_]) cl_X7_144 mk_X4_read dX7_doAtOnce_82 rfl lR_1 rfl rfl (Nat.le_of_ble_eq_true rfl) (sp_X4_read ?_)
          refine aj_callV (q := 88) (As := [_, _]) cl_X7_215 mk_X7_raise dX7_doAtOnce_85 rfl lR_0 rfl rfl (Nat.le_of_ble_eq_true rfl) (sp_X7_raise hw1 (fun hw10 => ?_))
          refine aj_goto (tgt := 112) dX7_doAtOnce_88 (by decide) ?_
          refine aj_aload_n (q := 113) (i := 0) dX7_doAtOnce_112 rfl rfl rfl ?_
          refine aj_getR (q := 116) fl_X7_35 dX7_doAtOnce_113 rfl lR_0 rfl ?_
          refine aj_callV (q := 119) (As := []) cl_X7_181 mk_X0_close dX7_doAtOnce_116 rfl lR_11 rfl rfl (Nat.le_of_ble_eq_true rfl) (sp_X0_close hw10 (fun hw11 => ?_))
          refine aj_return dX7_doAtOnce_119 rfl ?_
          skip
          first | contradiction | with_reducible exact hQ hw11 | (simp (decide := true) only [rAtOnce, ↓reduceIte, sw_eq, sw_ne, ne_eq, Nat.reduceEqDiff, not_false_eq_true, Bool.false_eq_true, bi_t, bi_f, c7_2, c25_3, c43_4, c72_5] at hQ; with_reducible exact hQ hw11) | (simp (decide := true) only [rAtOnce, ↓reduceIte, sw_eq, sw_ne, ne_eq, Nat.reduceEqDiff, not_false_eq_true, Bool.false_eq_true, bi_t, bi_f, c7_2, c25_3, c43_4, c72_5] at hQ hw11 ⊢; with_reducible exact hQ hw11) | exact absurd (by assumption) (by decide : ¬ (1 : Int32) = 0)
      · refine aj_aload_n (q := 47) (i := 0) dX7_doAtOnce_46 rfl rfl rfl ?_
        refine aj_getR (q := 50) fl_X7_12 dX7_doAtOnce_47 rfl lR_0 rfl ?_
        refine aj_aload_n (q := 51) (i := 0) dX7_doAtOnce_50 rfl rfl rfl ?_
        refine aj_getR (q := 54) fl_X7_12 dX7_doAtOnce_51 rfl lR_0 rfl ?_
        refine aj_iload_n (q := 55) (i := 2) dX7_doAtOnce_54 rfl rfl rfl ?_
        refine aj_callV (q := 58) (As := [_]) cl_X7_144 mk_X4_read dX7_doAtOnce_55 rfl lR_1 rfl rfl (Nat.le_of_ble_eq_true rfl) (sp_X4_read ?_)
        refine aj_callV (q := 61) (As := [_]) cl_X7_238 mk_X4_setResult dX7_doAtOnce_58 rfl lR_1 rfl rfl (Nat.le_of_ble_eq_true rfl) (sp_X4_setResult hw1 (fun hw12 => ?_))
        refine aj_aload_n (q := 62) (i := 0) dX7_doAtOnce_61 rfl rfl rfl ?_
        refine aj_iconst (q := 63) (v := 1) dX7_doAtOnce_62 rfl (by decide) ?_
        refine aj_putIw (q := 66) (f := 8) hw12 rfl okR fp_X7_61 dX7_doAtOnce_63 rfl lR_0 rfl rfl (fun hw13 => ?_)
        refine aj_goto (tgt := 112) dX7_doAtOnce_66 (by decide) ?_
        refine aj_aload_n (q := 113) (i := 0) dX7_doAtOnce_112 rfl rfl rfl ?_
        refine aj_getR (q := 116) fl_X7_35 dX7_doAtOnce_113 rfl lR_0 rfl ?_
        refine aj_callV (q := 119) (As := []) cl_X7_181 mk_X0_close dX7_doAtOnce_116 rfl lR_11 rfl rfl (Nat.le_of_ble_eq_true rfl) (sp_X0_close hw13 (fun hw14 => ?_))
        refine aj_return dX7_doAtOnce_119 rfl ?_
        skip
        first | contradiction | with_reducible exact hQ hw14 | (simp (decide := true) only [rAtOnce, ↓reduceIte, sw_eq, sw_ne, ne_eq, Nat.reduceEqDiff, not_false_eq_true, Bool.false_eq_true, bi_t, bi_f, c7_2, c25_3, c43_4] at hQ; with_reducible exact hQ hw14) | (simp (decide := true) only [rAtOnce, ↓reduceIte, sw_eq, sw_ne, ne_eq, Nat.reduceEqDiff, not_false_eq_true, Bool.false_eq_true, bi_t, bi_f, c7_2, c25_3, c43_4] at hQ hw14 ⊢; with_reducible exact hQ hw14) | exact absurd (by assumption) (by decide : ¬ (1 : Int32) = 0)
    · refine aj_aload_n (q := 29) (i := 0) dX7_doAtOnce_28 rfl rfl rfl ?_
      refine aj_iload_n (q := 30) (i := 1) dX7_doAtOnce_29 rfl rfl rfl ?_
      refine aj_iload_n (q := 31) (i := 2) dX7_doAtOnce_30 rfl rfl rfl ?_
      refine aj_iload_n (q := 32) (i := 3) dX7_doAtOnce_31 rfl rfl rfl ?_
      refine aj_iload (q := 34) (i := 4) dX7_doAtOnce_32 rfl rfl ?_
      refine aj_callV (q := 37) (As := [_, _, _, _]) cl_X7_235 mk_X7_doWithRow dX7_doAtOnce_34 rfl lR_0 rfl rfl (Nat.le_of_ble_eq_true rfl) (sp_X7_doWithRow hw1 (fun hw15 => ?_))
      refine aj_goto (tgt := 112) dX7_doAtOnce_37 (by decide) ?_
      refine aj_aload_n (q := 113) (i := 0) dX7_doAtOnce_112 rfl rfl rfl ?_
      refine aj_getR (q := 116) fl_X7_35 dX7_doAtOnce_113 rfl lR_0 rfl ?_
      refine aj_callV (q := 119) (As := []) cl_X7_181 mk_X0_close dX7_doAtOnce_116 rfl lR_11 rfl rfl (Nat.le_of_ble_eq_true rfl) (sp_X0_close hw15 (fun hw16 => ?_))
      refine aj_return dX7_doAtOnce_119 rfl ?_
      skip
      first | contradiction | with_reducible exact hQ hw16 | (simp (decide := true) only [rAtOnce, ↓reduceIte, sw_eq, sw_ne, ne_eq, Nat.reduceEqDiff, not_false_eq_true, Bool.false_eq_true, bi_t, bi_f, c7_2, c25_3] at hQ; with_reducible exact hQ hw16) | (simp (decide := true) only [rAtOnce, ↓reduceIte, sw_eq, sw_ne, ne_eq, Nat.reduceEqDiff, not_false_eq_true, Bool.false_eq_true, bi_t, bi_f, c7_2, c25_3] at hQ hw16 ⊢; with_reducible exact hQ hw16) | exact absurd (by assumption) (by decide : ¬ (1 : Int32) = 0)
  · refine aj_aload_n (q := 11) (i := 0) dX7_doAtOnce_10 rfl rfl rfl ?_
    refine aj_iload_n (q := 12) (i := 1) dX7_doAtOnce_11 rfl rfl rfl ?_
    refine aj_iload_n (q := 13) (i := 2) dX7_doAtOnce_12 rfl rfl rfl ?_
    refine aj_iload_n (q := 14) (i := 3) dX7_doAtOnce_13 rfl rfl rfl ?_
    refine aj_iload (q := 16) (i := 4) dX7_doAtOnce_14 rfl rfl ?_
    refine aj_callV (q := 19) (As := [_, _, _, _]) cl_X7_232 mk_X7_calculate dX7_doAtOnce_16 rfl lR_0 rfl rfl (Nat.le_of_ble_eq_true rfl) (sp_X7_calculate hw1 (fun hw17 => ?_))
    refine aj_goto (tgt := 112) dX7_doAtOnce_19 (by decide) ?_
    refine aj_aload_n (q := 113) (i := 0) dX7_doAtOnce_112 rfl rfl rfl ?_
    refine aj_getR (q := 116) fl_X7_35 dX7_doAtOnce_113 rfl lR_0 rfl ?_
    refine aj_callV (q := 119) (As := []) cl_X7_181 mk_X0_close dX7_doAtOnce_116 rfl lR_11 rfl rfl (Nat.le_of_ble_eq_true rfl) (sp_X0_close hw17 (fun hw18 => ?_))
    refine aj_return dX7_doAtOnce_119 rfl ?_
    skip
    first | contradiction | with_reducible exact hQ hw18 | (simp (decide := true) only [rAtOnce, ↓reduceIte, sw_eq, sw_ne, ne_eq, Nat.reduceEqDiff, not_false_eq_true, Bool.false_eq_true, bi_t, bi_f, c7_2] at hQ; with_reducible exact hQ hw18) | (simp (decide := true) only [rAtOnce, ↓reduceIte, sw_eq, sw_ne, ne_eq, Nat.reduceEqDiff, not_false_eq_true, Bool.false_eq_true, bi_t, bi_f, c7_2] at hQ hw18 ⊢; with_reducible exact hQ hw18) | exact absurd (by assumption) (by decide : ¬ (1 : Int32) = 0)
set_option maxRecDepth 2000 in
theorem sp_X7_begin {d : Nat} {S : Sx} {Q : Option Value → Sx → Prop} {s : Int32} (hw : wfR S) (hQ : wfR (rBegin S s) → Q none (rBegin S s)) : CC (d + 5) kX7_begin layR [.ref 0, .int s] S Q := by
  refine cc_intro [some _, some _, none, none, none, none] (by decide) (cc_cat (by rfl)) (Nat.le_of_ble_eq_true rfl) (cc_ls (by rfl)) ?_
  refine aj_aload_n (q := 1) (i := 0) dX7_begin_0 rfl rfl rfl ?_
  refine aj_getR (q := 4) fl_X7_43 dX7_begin_1 rfl lR_0 rfl ?_
  refine aj_iload_n (q := 5) (i := 1) dX7_begin_4 rfl rfl rfl ?_
  refine aj_callV (q := 8) (As := [_]) cl_X7_127 mk_X5_firstOf dX7_begin_5 rfl lR_17 rfl rfl (Nat.le_of_ble_eq_true rfl) (sp_X5_firstOf hw ?_)
  refine aj_istore_n (q := 9) (i := 2) (ls' := [_, _, _, _, _, _]) dX7_begin_8 rfl rfl (by decide) rfl ?_
  refine aj_aload_n (q := 10) (i := 0) dX7_begin_9 rfl rfl rfl ?_
  refine aj_getR (q := 13) fl_X7_43 dX7_begin_10 rfl lR_0 rfl ?_
  refine aj_iload_n (q := 14) (i := 1) dX7_begin_13 rfl rfl rfl ?_
  refine aj_callV (q := 17) (As := [_]) cl_X7_132 mk_X5_secondOf dX7_begin_14 rfl lR_17 rfl rfl (Nat.le_of_ble_eq_true rfl) (sp_X5_secondOf hw ?_)
  refine aj_istore_n (q := 18) (i := 3) (ls' := [_, _, _, _, _, _]) dX7_begin_17 rfl rfl (by decide) rfl ?_
  refine aj_aload_n (q := 19) (i := 0) dX7_begin_18 rfl rfl rfl ?_
  refine aj_getR (q := 22) fl_X7_43 dX7_begin_19 rfl lR_0 rfl ?_
  refine aj_iload_n (q := 23) (i := 1) dX7_begin_22 rfl rfl rfl ?_
  refine aj_callV (q := 26) (As := [_]) cl_X7_135 mk_X5_thirdOf dX7_begin_23 rfl lR_17 rfl rfl (Nat.le_of_ble_eq_true rfl) (sp_X5_thirdOf hw ?_)
  refine aj_istore (q := 28) (i := 4) (ls' := [_, _, _, _, _, _]) dX7_begin_26 rfl (by decide) rfl ?_
  refine aj_aload_n (q := 29) (i := 0) dX7_begin_28 rfl rfl rfl ?_
  refine aj_getR (q := 32) fl_X7_43 dX7_begin_29 rfl lR_0 rfl ?_
  refine aj_iload_n (q := 33) (i := 1) dX7_begin_32 rfl rfl rfl ?_
  refine aj_callV (q := 36) (As := [_]) cl_X7_138 mk_X5_sortOf dX7_begin_33 rfl lR_17 rfl rfl (Nat.le_of_ble_eq_true rfl) (sp_X5_sortOf hw ?_)
  refine aj_istore (q := 38) (i := 5) (ls' := [_, _, _, _, _, _]) dX7_begin_36 rfl (by decide) rfl ?_
  refine aj_iload (q := 40) (i := 5) dX7_begin_38 rfl rfl ?_
  refine aj_tsn (fun x1 ex1 => ?_)
  by_cases e1_12 : x1 = 12
  · refine aj_tsIn (tgt := 92) (off := 52) dX7_begin_40 (by rw [e1_12]; decide) (by rw [e1_12]; decide) (by rw [e1_12]; rfl) (by decide) ?_
    refine aj_aload_n (q := 93) (i := 0) dX7_begin_92 rfl rfl rfl ?_
    refine aj_iconst (q := 94) (v := 1) dX7_begin_93 rfl (by decide) ?_
    refine aj_iload_n (q := 95) (i := 2) dX7_begin_94 rfl rfl rfl ?_
    refine aj_callV (q := 98) (As := [_, _]) cl_X7_141 mk_X7_doPart dX7_begin_95 rfl lR_0 rfl rfl (Nat.le_of_ble_eq_true rfl) (sp_X7_doPart hw (fun hw2 => ?_))
    refine aj_goto (tgt := 175) dX7_begin_98 (by decide) ?_
    refine aj_return dX7_begin_175 rfl ?_
    skip; subst ex1
    first | contradiction | with_reducible exact hQ hw2 | (simp (decide := true) only [rBegin, ↓reduceIte, sw_eq, sw_ne, ne_eq, Nat.reduceEqDiff, not_false_eq_true, Bool.false_eq_true, bi_t, bi_f, e1_12] at hQ; with_reducible exact hQ hw2) | (simp (decide := true) only [rBegin, ↓reduceIte, sw_eq, sw_ne, ne_eq, Nat.reduceEqDiff, not_false_eq_true, Bool.false_eq_true, bi_t, bi_f, e1_12] at hQ hw2 ⊢; with_reducible exact hQ hw2) | exact absurd (by assumption) (by decide : ¬ (1 : Int32) = 0)
  by_cases e1_13 : x1 = 13
  · refine aj_tsIn (tgt := 101) (off := 61) dX7_begin_40 (by rw [e1_13]; decide) (by rw [e1_13]; decide) (by rw [e1_13]; rfl) (by decide) ?_
    refine aj_aload_n (q := 102) (i := 0) dX7_begin_101 rfl rfl rfl ?_
    refine aj_iconst (q := 103) (v := 1) dX7_begin_102 rfl (by decide) ?_
    refine aj_aload_n (q := 104) (i := 0) dX7_begin_103 rfl rfl rfl ?_
    refine aj_getR (q := 107) fl_X7_12 dX7_begin_104 rfl lR_0 rfl ?_
    refine aj_iload_n (q := 108) (i := 2) dX7_begin_107 rfl rfl rfl ?_
    refine aj_callV (q := 111) (As := [_]) cl_X7_144 mk_X4_read dX7_begin_108 rfl lR_1 rfl rfl (Nat.le_of_ble_eq_true rfl) (sp_X4_read ?_)
    refine aj_if_eq (q := 114) (tgt := 118) dX7_begin_111 rfl (by decide) (fun c111_3 => ?_) (fun c111_3 => ?_)
    · refine aj_iload (q := 120) (i := 4) dX7_begin_118 rfl rfl ?_
      refine aj_callV (q := 123) (As := [_, _]) cl_X7_141 mk_X7_doPart dX7_begin_120 rfl lR_0 rfl rfl (Nat.le_of_ble_eq_true rfl) (sp_X7_doPart hw (fun hw4 => ?_))
      refine aj_goto (tgt := 175) dX7_begin_123 (by decide) ?_
      refine aj_return dX7_begin_175 rfl ?_
      skip; subst ex1
      first | contradiction | with_reducible exact hQ hw4 | (simp (decide := true) only [rBegin, ↓reduceIte, sw_eq, sw_ne, ne_eq, Nat.reduceEqDiff, not_false_eq_true, Bool.false_eq_true, bi_t, bi_f, e1_13, c111_3] at hQ; with_reducible exact hQ hw4) | (simp (decide := true) only [rBegin, ↓reduceIte, sw_eq, sw_ne, ne_eq, Nat.reduceEqDiff, not_false_eq_true, Bool.false_eq_true, bi_t, bi_f, e1_13, c111_3] at hQ hw4 ⊢; with_reducible exact hQ hw4) | exact absurd (by assumption) (by decide : ¬ (1 : Int32) = 0)
    · refine aj_iload_n (q := 115) (i := 3) dX7_begin_114 rfl rfl rfl ?_
      refine aj_goto (tgt := 120) dX7_begin_115 (by decide) ?_
      refine aj_callV (q := 123) (As := [_, _]) cl_X7_141 mk_X7_doPart dX7_begin_120 rfl lR_0 rfl rfl (Nat.le_of_ble_eq_true rfl) (sp_X7_doPart hw (fun hw5 => ?_))
      refine aj_goto (tgt := 175) dX7_begin_123 (by decide) ?_
      refine aj_return dX7_begin_175 rfl ?_
      skip; subst ex1
      first | contradiction | with_reducible exact hQ hw5 | (simp (decide := true) only [rBegin, ↓reduceIte, sw_eq, sw_ne, ne_eq, Nat.reduceEqDiff, not_false_eq_true, Bool.false_eq_true, bi_t, bi_f, e1_13, c111_3] at hQ; with_reducible exact hQ hw5) | (simp (decide := true) only [rBegin, ↓reduceIte, sw_eq, sw_ne, ne_eq, Nat.reduceEqDiff, not_false_eq_true, Bool.false_eq_true, bi_t, bi_f, e1_13, c111_3] at hQ hw5 ⊢; with_reducible exact hQ hw5) | exact absurd (by assumption) (by decide : ¬ (1 : Int32) = 0)
  by_cases e1_14 : x1 = 14
  · refine aj_tsIn (tgt := 126) (off := 86) dX7_begin_40 (by rw [e1_14]; decide) (by rw [e1_14]; decide) (by rw [e1_14]; rfl) (by decide) ?_
    refine aj_aload_n (q := 127) (i := 0) dX7_begin_126 rfl rfl rfl ?_
    refine aj_iconst (q := 128) (v := 0) dX7_begin_127 rfl (by decide) ?_
    refine aj_putIw (q := 131) (f := 8) hw rfl okR fp_X7_61 dX7_begin_128 rfl lR_0 rfl rfl (fun hw6 => ?_)
    refine aj_aload_n (q := 132) (i := 0) dX7_begin_131 rfl rfl rfl ?_
    refine aj_iload_n (q := 133) (i := 2) dX7_begin_132 rfl rfl rfl ?_
    refine aj_iload_n (q := 134) (i := 3) dX7_begin_133 rfl rfl rfl ?_
    refine aj_callV (q := 137) (As := [_, _]) cl_X7_147 mk_X7_loopOrEnd dX7_begin_134 rfl lR_0 rfl rfl (Nat.le_of_ble_eq_true rfl) (sp_X7_loopOrEnd hw6 (fun hw7 => ?_))
    refine aj_goto (tgt := 175) dX7_begin_137 (by decide) ?_
    refine aj_return dX7_begin_175 rfl ?_
    skip; subst ex1
    first | contradiction | with_reducible exact hQ hw7 | (simp (decide := true) only [rBegin, ↓reduceIte, sw_eq, sw_ne, ne_eq, Nat.reduceEqDiff, not_false_eq_true, Bool.false_eq_true, bi_t, bi_f, e1_14] at hQ; with_reducible exact hQ hw7) | (simp (decide := true) only [rBegin, ↓reduceIte, sw_eq, sw_ne, ne_eq, Nat.reduceEqDiff, not_false_eq_true, Bool.false_eq_true, bi_t, bi_f, e1_14] at hQ hw7 ⊢; with_reducible exact hQ hw7) | exact absurd (by assumption) (by decide : ¬ (1 : Int32) = 0)
  by_cases e1_15 : x1 = 15
  · refine aj_tsIn (tgt := 140) (off := 100) dX7_begin_40 (by rw [e1_15]; decide) (by rw [e1_15]; decide) (by rw [e1_15]; rfl) (by decide) ?_
    refine aj_aload_n (q := 141) (i := 0) dX7_begin_140 rfl rfl rfl ?_
    refine aj_iload_n (q := 142) (i := 2) dX7_begin_141 rfl rfl rfl ?_
    refine aj_callV (q := 145) (As := [_]) cl_X7_150 mk_X7_call dX7_begin_142 rfl lR_0 rfl rfl (Nat.le_of_ble_eq_true rfl) (sp_X7_call hw (fun hw8 => ?_))
    refine aj_goto (tgt := 175) dX7_begin_145 (by decide) ?_
    refine aj_return dX7_begin_175 rfl ?_
    skip; subst ex1
    first | contradiction | with_reducible exact hQ hw8 | (simp (decide := true) only [rBegin, ↓reduceIte, sw_eq, sw_ne, ne_eq, Nat.reduceEqDiff, not_false_eq_true, Bool.false_eq_true, bi_t, bi_f, e1_15] at hQ; with_reducible exact hQ hw8) | (simp (decide := true) only [rBegin, ↓reduceIte, sw_eq, sw_ne, ne_eq, Nat.reduceEqDiff, not_false_eq_true, Bool.false_eq_true, bi_t, bi_f, e1_15] at hQ hw8 ⊢; with_reducible exact hQ hw8) | exact absurd (by assumption) (by decide : ¬ (1 : Int32) = 0)
  by_cases e1_18 : x1 = 18
  · refine aj_tsIn (tgt := 92) (off := 52) dX7_begin_40 (by rw [e1_18]; decide) (by rw [e1_18]; decide) (by rw [e1_18]; rfl) (by decide) ?_
    refine aj_aload_n (q := 93) (i := 0) dX7_begin_92 rfl rfl rfl ?_
    refine aj_iconst (q := 94) (v := 1) dX7_begin_93 rfl (by decide) ?_
    refine aj_iload_n (q := 95) (i := 2) dX7_begin_94 rfl rfl rfl ?_
    refine aj_callV (q := 98) (As := [_, _]) cl_X7_141 mk_X7_doPart dX7_begin_95 rfl lR_0 rfl rfl (Nat.le_of_ble_eq_true rfl) (sp_X7_doPart hw (fun hw9 => ?_))
    refine aj_goto (tgt := 175) dX7_begin_98 (by decide) ?_
    refine aj_return dX7_begin_175 rfl ?_
    skip; subst ex1
    first | contradiction | with_reducible exact hQ hw9 | (simp (decide := true) only [rBegin, ↓reduceIte, sw_eq, sw_ne, ne_eq, Nat.reduceEqDiff, not_false_eq_true, Bool.false_eq_true, bi_t, bi_f, e1_18] at hQ; with_reducible exact hQ hw9) | (simp (decide := true) only [rBegin, ↓reduceIte, sw_eq, sw_ne, ne_eq, Nat.reduceEqDiff, not_false_eq_true, Bool.false_eq_true, bi_t, bi_f, e1_18] at hQ hw9 ⊢; with_reducible exact hQ hw9) | exact absurd (by assumption) (by decide : ¬ (1 : Int32) = 0)
  by_cases e1_19 : x1 = 19
  · refine aj_tsIn (tgt := 92) (off := 52) dX7_begin_40 (by rw [e1_19]; decide) (by rw [e1_19]; decide) (by rw [e1_19]; rfl) (by decide) ?_
    refine aj_aload_n (q := 93) (i := 0) dX7_begin_92 rfl rfl rfl ?_
    refine aj_iconst (q := 94) (v := 1) dX7_begin_93 rfl (by decide) ?_
    refine aj_iload_n (q := 95) (i := 2) dX7_begin_94 rfl rfl rfl ?_
    refine aj_callV (q := 98) (As := [_, _]) cl_X7_141 mk_X7_doPart dX7_begin_95 rfl lR_0 rfl rfl (Nat.le_of_ble_eq_true rfl) (sp_X7_doPart hw (fun hw10 => ?_))
    refine aj_goto (tgt := 175) dX7_begin_98 (by decide) ?_
    refine aj_return dX7_begin_175 rfl ?_
    skip; subst ex1
    first | contradiction | with_reducible exact hQ hw10 | (simp (decide := true) only [rBegin, ↓reduceIte, sw_eq, sw_ne, ne_eq, Nat.reduceEqDiff, not_false_eq_true, Bool.false_eq_true, bi_t, bi_f, e1_19] at hQ; with_reducible exact hQ hw10) | (simp (decide := true) only [rBegin, ↓reduceIte, sw_eq, sw_ne, ne_eq, Nat.reduceEqDiff, not_false_eq_true, Bool.false_eq_true, bi_t, bi_f, e1_19] at hQ hw10 ⊢; with_reducible exact hQ hw10) | exact absurd (by assumption) (by decide : ¬ (1 : Int32) = 0)
  by_cases e1_20 : x1 = 20
  · refine aj_tsIn (tgt := 148) (off := 108) dX7_begin_40 (by rw [e1_20]; decide) (by rw [e1_20]; decide) (by rw [e1_20]; rfl) (by decide) ?_
    refine aj_aload_n (q := 149) (i := 0) dX7_begin_148 rfl rfl rfl ?_
    refine aj_getR (q := 152) fl_X7_28 dX7_begin_149 rfl lR_0 rfl ?_
    refine aj_iload_n (q := 153) (i := 2) dX7_begin_152 rfl rfl rfl ?_
    refine aj_callV (q := 156) (As := [_]) cl_X7_153 mk_X2_take dX7_begin_153 rfl lR_9 rfl rfl (Nat.le_of_ble_eq_true rfl) (sp_X2_take hw (fun hw11 => ?_))
    refine aj_aload_n (q := 157) (i := 0) dX7_begin_156 rfl rfl rfl ?_
    refine aj_iconst (q := 158) (v := 1) dX7_begin_157 rfl (by decide) ?_
    refine aj_iload_n (q := 159) (i := 3) dX7_begin_158 rfl rfl rfl ?_
    refine aj_callV (q := 162) (As := [_, _]) cl_X7_141 mk_X7_doPart dX7_begin_159 rfl lR_0 rfl rfl (Nat.le_of_ble_eq_true rfl) (sp_X7_doPart hw11 (fun hw12 => ?_))
    refine aj_goto (tgt := 175) dX7_begin_162 (by decide) ?_
    refine aj_return dX7_begin_175 rfl ?_
    skip; subst ex1
    first | contradiction | with_reducible exact hQ hw12 | (simp (decide := true) only [rBegin, ↓reduceIte, sw_eq, sw_ne, ne_eq, Nat.reduceEqDiff, not_false_eq_true, Bool.false_eq_true, bi_t, bi_f, e1_20] at hQ; with_reducible exact hQ hw12) | (simp (decide := true) only [rBegin, ↓reduceIte, sw_eq, sw_ne, ne_eq, Nat.reduceEqDiff, not_false_eq_true, Bool.false_eq_true, bi_t, bi_f, e1_20] at hQ hw12 ⊢; with_reducible exact hQ hw12) | exact absurd (by assumption) (by decide : ¬ (1 : Int32) = 0)
  by_cases e1_16 : x1 = 16
  · refine aj_tsIn (tgt := 165) (off := 125) dX7_begin_40 (by rw [e1_16]; decide) (by rw [e1_16]; decide) (by rw [e1_16]; rfl) (by decide) ?_
    refine aj_aload_n (q := 166) (i := 0) dX7_begin_165 rfl rfl rfl ?_
    refine aj_iload (q := 168) (i := 5) dX7_begin_166 rfl rfl ?_
    refine aj_iload_n (q := 169) (i := 2) dX7_begin_168 rfl rfl rfl ?_
    refine aj_iload_n (q := 170) (i := 3) dX7_begin_169 rfl rfl rfl ?_
    refine aj_iload (q := 172) (i := 4) dX7_begin_170 rfl rfl ?_
    refine aj_callV (q := 175) (As := [_, _, _, _]) cl_X7_156 mk_X7_doAtOnce dX7_begin_172 rfl lR_0 rfl rfl (Nat.le_of_ble_eq_true rfl) (sp_X7_doAtOnce hw (fun hw13 => ?_))
    refine aj_return dX7_begin_175 rfl ?_
    skip; subst ex1
    first | contradiction | with_reducible exact hQ hw13 | (simp (decide := true) only [rBegin, ↓reduceIte, sw_eq, sw_ne, ne_eq, Nat.reduceEqDiff, not_false_eq_true, Bool.false_eq_true, bi_t, bi_f, e1_16] at hQ; with_reducible exact hQ hw13) | (simp (decide := true) only [rBegin, ↓reduceIte, sw_eq, sw_ne, ne_eq, Nat.reduceEqDiff, not_false_eq_true, Bool.false_eq_true, bi_t, bi_f, e1_16] at hQ hw13 ⊢; with_reducible exact hQ hw13) | exact absurd (by assumption) (by decide : ¬ (1 : Int32) = 0)
  by_cases e1_17 : x1 = 17
  · refine aj_tsIn (tgt := 165) (off := 125) dX7_begin_40 (by rw [e1_17]; decide) (by rw [e1_17]; decide) (by rw [e1_17]; rfl) (by decide) ?_
    refine aj_aload_n (q := 166) (i := 0) dX7_begin_165 rfl rfl rfl ?_
    refine aj_iload (q := 168) (i := 5) dX7_begin_166 rfl rfl ?_
    refine aj_iload_n (q := 169) (i := 2) dX7_begin_168 rfl rfl rfl ?_
    refine aj_iload_n (q := 170) (i := 3) dX7_begin_169 rfl rfl rfl ?_
    refine aj_iload (q := 172) (i := 4) dX7_begin_170 rfl rfl ?_
    refine aj_callV (q := 175) (As := [_, _, _, _]) cl_X7_156 mk_X7_doAtOnce dX7_begin_172 rfl lR_0 rfl rfl (Nat.le_of_ble_eq_true rfl) (sp_X7_doAtOnce hw (fun hw14 => ?_))
    refine aj_return dX7_begin_175 rfl ?_
    skip; subst ex1
    first | contradiction | with_reducible exact hQ hw14 | (simp (decide := true) only [rBegin, ↓reduceIte, sw_eq, sw_ne, ne_eq, Nat.reduceEqDiff, not_false_eq_true, Bool.false_eq_true, bi_t, bi_f, e1_17] at hQ; with_reducible exact hQ hw14) | (simp (decide := true) only [rBegin, ↓reduceIte, sw_eq, sw_ne, ne_eq, Nat.reduceEqDiff, not_false_eq_true, Bool.false_eq_true, bi_t, bi_f, e1_17] at hQ hw14 ⊢; with_reducible exact hQ hw14) | exact absurd (by assumption) (by decide : ¬ (1 : Int32) = 0)
  refine aj_tsOut (tgt := 165) dX7_begin_40 (by have := And.intro trivial trivial; have z0 := lv_neT (a := 12) e1_12 rfl; have z1 := lv_neT (a := 13) e1_13 rfl; have z2 := lv_neT (a := 14) e1_14 rfl; have z3 := lv_neT (a := 15) e1_15 rfl; have z4 := lv_neT (a := 16) e1_16 rfl; have z5 := lv_neT (a := 17) e1_17 rfl; have z6 := lv_neT (a := 18) e1_18 rfl; have z7 := lv_neT (a := 19) e1_19 rfl; have z8 := lv_neT (a := 20) e1_20 rfl; omega) (by decide) ?_
  refine aj_aload_n (q := 166) (i := 0) dX7_begin_165 rfl rfl rfl ?_
  refine aj_iload (q := 168) (i := 5) dX7_begin_166 rfl rfl ?_
  refine aj_iload_n (q := 169) (i := 2) dX7_begin_168 rfl rfl rfl ?_
  refine aj_iload_n (q := 170) (i := 3) dX7_begin_169 rfl rfl rfl ?_
  refine aj_iload (q := 172) (i := 4) dX7_begin_170 rfl rfl ?_
  refine aj_callV (q := 175) (As := [_, _, _, _]) cl_X7_156 mk_X7_doAtOnce dX7_begin_172 rfl lR_0 rfl rfl (Nat.le_of_ble_eq_true rfl) (sp_X7_doAtOnce hw (fun hw15 => ?_))
  refine aj_return dX7_begin_175 rfl ?_
  skip; subst ex1
  first | contradiction | with_reducible exact hQ hw15 | (simp (decide := true) only [rBegin, ↓reduceIte, sw_eq, sw_ne, ne_eq, Nat.reduceEqDiff, not_false_eq_true, Bool.false_eq_true, bi_t, bi_f, e1_12, e1_13, e1_14, e1_15, e1_16, e1_17, e1_18, e1_19, e1_20] at hQ; with_reducible exact hQ hw15) | (simp (decide := true) only [rBegin, ↓reduceIte, sw_eq, sw_ne, ne_eq, Nat.reduceEqDiff, not_false_eq_true, Bool.false_eq_true, bi_t, bi_f, e1_12, e1_13, e1_14, e1_15, e1_16, e1_17, e1_18, e1_19, e1_20] at hQ hw15 ⊢; with_reducible exact hQ hw15) | exact absurd (by assumption) (by decide : ¬ (1 : Int32) = 0)
set_option maxRecDepth 2000 in
theorem sp_X7_goOnWithBoth {d : Nat} {S : Sx} {Q : Option Value → Sx → Prop} {s : Int32} (hw : wfR S) (hQ : wfR (rBoth S s) → Q none (rBoth S s)) : CC (d + 3) kX7_goOnWithBoth layR [.ref 0, .int s] S Q := by
  refine cc_intro [some _, some _] (by decide) (cc_cat (by rfl)) (Nat.le_of_ble_eq_true rfl) (cc_ls (by rfl)) ?_
  refine aj_aload_n (q := 1) (i := 0) dX7_goOnWithBoth_0 rfl rfl rfl ?_
  refine aj_getR (q := 4) fl_X7_35 dX7_goOnWithBoth_1 rfl lR_0 rfl ?_
  refine aj_callV (q := 7) (As := []) cl_X7_73 mk_X0_stage dX7_goOnWithBoth_4 rfl lR_11 rfl rfl (Nat.le_of_ble_eq_true rfl) (sp_X0_stage hw ?_)
  refine aj_iconst (q := 8) (v := 1) dX7_goOnWithBoth_7 rfl (by decide) ?_
  refine aj_icmp_ne (q := 11) (tgt := 34) dX7_goOnWithBoth_8 rfl (by decide) (fun c8_1 => ?_) (fun c8_1 => ?_)
  · refine aj_aload_n (q := 35) (i := 0) dX7_goOnWithBoth_34 rfl rfl rfl ?_
    refine aj_getR (q := 38) fl_X7_35 dX7_goOnWithBoth_35 rfl lR_0 rfl ?_
    refine aj_callV (q := 41) (As := []) cl_X7_181 mk_X0_close dX7_goOnWithBoth_38 rfl lR_11 rfl rfl (Nat.le_of_ble_eq_true rfl) (sp_X0_close hw (fun hw2 => ?_))
    refine aj_return dX7_goOnWithBoth_41 rfl ?_
    skip
    first | contradiction | with_reducible exact hQ hw2 | (simp (decide := true) only [rBoth, ↓reduceIte, sw_eq, sw_ne, ne_eq, Nat.reduceEqDiff, not_false_eq_true, Bool.false_eq_true, bi_t, bi_f, c8_1] at hQ; with_reducible exact hQ hw2) | (simp (decide := true) only [rBoth, ↓reduceIte, sw_eq, sw_ne, ne_eq, Nat.reduceEqDiff, not_false_eq_true, Bool.false_eq_true, bi_t, bi_f, c8_1] at hQ hw2 ⊢; with_reducible exact hQ hw2) | exact absurd (by assumption) (by decide : ¬ (1 : Int32) = 0)
  · refine aj_aload_n (q := 12) (i := 0) dX7_goOnWithBoth_11 rfl rfl rfl ?_
    refine aj_getI (q := 15) (f := 8) fl_X7_61 dX7_goOnWithBoth_12 rfl lR_0 rfl rfl ?_
    try simp only [sw_eq, sw_ne, ne_eq, Nat.reduceEqDiff, not_false_eq_true]
    refine aj_if_ne (q := 18) (tgt := 34) dX7_goOnWithBoth_15 rfl (by decide) (fun c15_3 => ?_) (fun c15_3 => ?_)
    · refine aj_aload_n (q := 35) (i := 0) dX7_goOnWithBoth_34 rfl rfl rfl ?_
      refine aj_getR (q := 38) fl_X7_35 dX7_goOnWithBoth_35 rfl lR_0 rfl ?_
      refine aj_callV (q := 41) (As := []) cl_X7_181 mk_X0_close dX7_goOnWithBoth_38 rfl lR_11 rfl rfl (Nat.le_of_ble_eq_true rfl) (sp_X0_close hw (fun hw4 => ?_))
      refine aj_return dX7_goOnWithBoth_41 rfl ?_
      skip
      first | contradiction | with_reducible exact hQ hw4 | (simp (decide := true) only [rBoth, ↓reduceIte, sw_eq, sw_ne, ne_eq, Nat.reduceEqDiff, not_false_eq_true, Bool.false_eq_true, bi_t, bi_f, c8_1, c15_3] at hQ; with_reducible exact hQ hw4) | (simp (decide := true) only [rBoth, ↓reduceIte, sw_eq, sw_ne, ne_eq, Nat.reduceEqDiff, not_false_eq_true, Bool.false_eq_true, bi_t, bi_f, c8_1, c15_3] at hQ hw4 ⊢; with_reducible exact hQ hw4) | exact absurd (by assumption) (by decide : ¬ (1 : Int32) = 0)
    · refine aj_aload_n (q := 19) (i := 0) dX7_goOnWithBoth_18 rfl rfl rfl ?_
      refine aj_iconst (q := 20) (v := 2) dX7_goOnWithBoth_19 rfl (by decide) ?_
      refine aj_aload_n (q := 21) (i := 0) dX7_goOnWithBoth_20 rfl rfl rfl ?_
      refine aj_getR (q := 24) fl_X7_43 dX7_goOnWithBoth_21 rfl lR_0 rfl ?_
      refine aj_iload_n (q := 25) (i := 1) dX7_goOnWithBoth_24 rfl rfl rfl ?_
      refine aj_callV (q := 28) (As := [_]) cl_X7_132 mk_X5_secondOf dX7_goOnWithBoth_25 rfl lR_17 rfl rfl (Nat.le_of_ble_eq_true rfl) (sp_X5_secondOf hw ?_)
      refine aj_callV (q := 31) (As := [_, _]) cl_X7_141 mk_X7_doPart dX7_goOnWithBoth_28 rfl lR_0 rfl rfl (Nat.le_of_ble_eq_true rfl) (sp_X7_doPart hw (fun hw5 => ?_))
      refine aj_goto (tgt := 41) dX7_goOnWithBoth_31 (by decide) ?_
      refine aj_return dX7_goOnWithBoth_41 rfl ?_
      skip
      first | contradiction | with_reducible exact hQ hw5 | (simp (decide := true) only [rBoth, ↓reduceIte, sw_eq, sw_ne, ne_eq, Nat.reduceEqDiff, not_false_eq_true, Bool.false_eq_true, bi_t, bi_f, c8_1, c15_3] at hQ; with_reducible exact hQ hw5) | (simp (decide := true) only [rBoth, ↓reduceIte, sw_eq, sw_ne, ne_eq, Nat.reduceEqDiff, not_false_eq_true, Bool.false_eq_true, bi_t, bi_f, c8_1, c15_3] at hQ hw5 ⊢; with_reducible exact hQ hw5) | exact absurd (by assumption) (by decide : ¬ (1 : Int32) = 0)
set_option maxRecDepth 2000 in
theorem sp_X7_goOnWithLoop {d : Nat} {S : Sx} {Q : Option Value → Sx → Prop} {s : Int32} (hw : wfR S) (hQ : wfR (rLoop S s) → Q none (rLoop S s)) : CC (d + 3) kX7_goOnWithLoop layR [.ref 0, .int s] S Q := by
  refine cc_intro [some _, some _] (by decide) (cc_cat (by rfl)) (Nat.le_of_ble_eq_true rfl) (cc_ls (by rfl)) ?_
  refine aj_aload_n (q := 1) (i := 0) dX7_goOnWithLoop_0 rfl rfl rfl ?_
  refine aj_getI (q := 4) (f := 8) fl_X7_61 dX7_goOnWithLoop_1 rfl lR_0 rfl rfl ?_
  try simp only [sw_eq, sw_ne, ne_eq, Nat.reduceEqDiff, not_false_eq_true]
  refine aj_if_eq (q := 7) (tgt := 17) dX7_goOnWithLoop_4 rfl (by decide) (fun c4_1 => ?_) (fun c4_1 => ?_)
  · refine aj_aload_n (q := 18) (i := 0) dX7_goOnWithLoop_17 rfl rfl rfl ?_
    refine aj_getR (q := 21) fl_X7_21 dX7_goOnWithLoop_18 rfl lR_0 rfl ?_
    refine aj_iconst (q := 22) (v := 0) dX7_goOnWithLoop_21 rfl (by decide) ?_
    refine aj_iconst (q := 23) (v := 1) dX7_goOnWithLoop_22 rfl (by decide) ?_
    refine aj_callV (q := 26) (As := [_, _]) cl_X7_53 mk_X6_pays dX7_goOnWithLoop_23 rfl lR_6 rfl rfl (Nat.le_of_ble_eq_true rfl) (sp_X6_pays hw (fun hw2 => ?_))
    refine aj_ifB_eq (q := 29) (tgt := 52) dX7_goOnWithLoop_26 rfl (by decide) (fun c26_3 => ?_) (fun c26_3 => ?_)
    · refine aj_aload_n (q := 53) (i := 0) dX7_goOnWithLoop_52 rfl rfl rfl ?_
      refine aj_iconst (q := 54) (v := 3) dX7_goOnWithLoop_53 rfl (by decide) ?_
      refine aj_callV (q := 57) (As := [_]) cl_X7_166 mk_X7_end dX7_goOnWithLoop_54 rfl lR_0 rfl rfl (Nat.le_of_ble_eq_true rfl) (sp_X7_end hw2 (fun hw4 => ?_))
      refine aj_return dX7_goOnWithLoop_57 rfl ?_
      skip
      first | contradiction | with_reducible exact hQ hw4 | (simp (decide := true) only [rLoop, ↓reduceIte, sw_eq, sw_ne, ne_eq, Nat.reduceEqDiff, not_false_eq_true, Bool.false_eq_true, bi_t, bi_f, c4_1, c26_3] at hQ; with_reducible exact hQ hw4) | (simp (decide := true) only [rLoop, ↓reduceIte, sw_eq, sw_ne, ne_eq, Nat.reduceEqDiff, not_false_eq_true, Bool.false_eq_true, bi_t, bi_f, c4_1, c26_3] at hQ hw4 ⊢; with_reducible exact hQ hw4) | exact absurd (by assumption) (by decide : ¬ (1 : Int32) = 0)
    · refine aj_aload_n (q := 30) (i := 0) dX7_goOnWithLoop_29 rfl rfl rfl ?_
      refine aj_aload_n (q := 31) (i := 0) dX7_goOnWithLoop_30 rfl rfl rfl ?_
      refine aj_getR (q := 34) fl_X7_43 dX7_goOnWithLoop_31 rfl lR_0 rfl ?_
      refine aj_iload_n (q := 35) (i := 1) dX7_goOnWithLoop_34 rfl rfl rfl ?_
      refine aj_callV (q := 38) (As := [_]) cl_X7_127 mk_X5_firstOf dX7_goOnWithLoop_35 rfl lR_17 rfl rfl (Nat.le_of_ble_eq_true rfl) (sp_X5_firstOf hw2 ?_)
      refine aj_aload_n (q := 39) (i := 0) dX7_goOnWithLoop_38 rfl rfl rfl ?_
      refine aj_getR (q := 42) fl_X7_43 dX7_goOnWithLoop_39 rfl lR_0 rfl ?_
      refine aj_iload_n (q := 43) (i := 1) dX7_goOnWithLoop_42 rfl rfl rfl ?_
      refine aj_callV (q := 46) (As := [_]) cl_X7_132 mk_X5_secondOf dX7_goOnWithLoop_43 rfl lR_17 rfl rfl (Nat.le_of_ble_eq_true rfl) (sp_X5_secondOf hw2 ?_)
      refine aj_callV (q := 49) (As := [_, _]) cl_X7_147 mk_X7_loopOrEnd dX7_goOnWithLoop_46 rfl lR_0 rfl rfl (Nat.le_of_ble_eq_true rfl) (sp_X7_loopOrEnd hw2 (fun hw5 => ?_))
      refine aj_goto (tgt := 57) dX7_goOnWithLoop_49 (by decide) ?_
      refine aj_return dX7_goOnWithLoop_57 rfl ?_
      skip
      first | contradiction | with_reducible exact hQ hw5 | (simp (decide := true) only [rLoop, ↓reduceIte, sw_eq, sw_ne, ne_eq, Nat.reduceEqDiff, not_false_eq_true, Bool.false_eq_true, bi_t, bi_f, c4_1, c26_3] at hQ; with_reducible exact hQ hw5) | (simp (decide := true) only [rLoop, ↓reduceIte, sw_eq, sw_ne, ne_eq, Nat.reduceEqDiff, not_false_eq_true, Bool.false_eq_true, bi_t, bi_f, c4_1, c26_3] at hQ hw5 ⊢; with_reducible exact hQ hw5) | exact absurd (by assumption) (by decide : ¬ (1 : Int32) = 0)
  · refine aj_aload_n (q := 8) (i := 0) dX7_goOnWithLoop_7 rfl rfl rfl ?_
    refine aj_getR (q := 11) fl_X7_35 dX7_goOnWithLoop_8 rfl lR_0 rfl ?_
    refine aj_callV (q := 14) (As := []) cl_X7_181 mk_X0_close dX7_goOnWithLoop_11 rfl lR_11 rfl rfl (Nat.le_of_ble_eq_true rfl) (sp_X0_close hw (fun hw6 => ?_))
    refine aj_goto (tgt := 57) dX7_goOnWithLoop_14 (by decide) ?_
    refine aj_return dX7_goOnWithLoop_57 rfl ?_
    skip
    first | contradiction | with_reducible exact hQ hw6 | (simp (decide := true) only [rLoop, ↓reduceIte, sw_eq, sw_ne, ne_eq, Nat.reduceEqDiff, not_false_eq_true, Bool.false_eq_true, bi_t, bi_f, c4_1] at hQ; with_reducible exact hQ hw6) | (simp (decide := true) only [rLoop, ↓reduceIte, sw_eq, sw_ne, ne_eq, Nat.reduceEqDiff, not_false_eq_true, Bool.false_eq_true, bi_t, bi_f, c4_1] at hQ hw6 ⊢; with_reducible exact hQ hw6) | exact absurd (by assumption) (by decide : ¬ (1 : Int32) = 0)
set_option maxRecDepth 2000 in
theorem sp_X7_goOnWithTry {d : Nat} {S : Sx} {Q : Option Value → Sx → Prop} {s : Int32} (hw : wfR S) (hQ : wfR (rTry S s) → Q none (rTry S s)) : CC (d + 3) kX7_goOnWithTry layR [.ref 0, .int s] S Q := by
  refine cc_intro [some _, some _, none] (by decide) (cc_cat (by rfl)) (Nat.le_of_ble_eq_true rfl) (cc_ls (by rfl)) ?_
  refine aj_aload_n (q := 1) (i := 0) dX7_goOnWithTry_0 rfl rfl rfl ?_
  refine aj_getI (q := 4) (f := 8) fl_X7_61 dX7_goOnWithTry_1 rfl lR_0 rfl rfl ?_
  try simp only [sw_eq, sw_ne, ne_eq, Nat.reduceEqDiff, not_false_eq_true]
  refine aj_iconst (q := 5) (v := 2) dX7_goOnWithTry_4 rfl (by decide) ?_
  refine aj_icmp_ne (q := 8) (tgt := 31) dX7_goOnWithTry_5 rfl (by decide) (fun c5_1 => ?_) (fun c5_1 => ?_)
  · refine aj_iconst (q := 32) (v := 0) dX7_goOnWithTry_31 rfl (by decide) ?_
    refine aj_istore_n (q := 33) (i := 2) (ls' := [_, _, _]) dX7_goOnWithTry_32 rfl rfl (by decide) rfl ?_
    refine aj_aload_n (q := 34) (i := 0) dX7_goOnWithTry_33 rfl rfl rfl ?_
    refine aj_getR (q := 37) fl_X7_35 dX7_goOnWithTry_34 rfl lR_0 rfl ?_
    refine aj_callV (q := 40) (As := []) cl_X7_73 mk_X0_stage dX7_goOnWithTry_37 rfl lR_11 rfl rfl (Nat.le_of_ble_eq_true rfl) (sp_X0_stage hw ?_)
    refine aj_iconst (q := 41) (v := 1) dX7_goOnWithTry_40 rfl (by decide) ?_
    refine aj_icmp_ne (q := 44) (tgt := 48) dX7_goOnWithTry_41 rfl (by decide) (fun c41_2 => ?_) (fun c41_2 => ?_)
    · refine aj_aload_n (q := 49) (i := 0) dX7_goOnWithTry_48 rfl rfl rfl ?_
      refine aj_getR (q := 52) fl_X7_35 dX7_goOnWithTry_49 rfl lR_0 rfl ?_
      refine aj_callV (q := 55) (As := []) cl_X7_181 mk_X0_close dX7_goOnWithTry_52 rfl lR_11 rfl rfl (Nat.le_of_ble_eq_true rfl) (sp_X0_close hw (fun hw3 => ?_))
      refine aj_goto (tgt := 131) dX7_goOnWithTry_55 (by decide) ?_
      refine aj_return dX7_goOnWithTry_131 rfl ?_
      skip
      first | contradiction | with_reducible exact hQ hw3 | (simp (decide := true) only [rTry, rTryX, rTryM, rTryN, ↓reduceIte, sw_eq, sw_ne, ne_eq, Nat.reduceEqDiff, not_false_eq_true, Bool.false_eq_true, bi_t, bi_f, c5_1, c41_2] at hQ; with_reducible exact hQ hw3) | (simp (decide := true) only [rTry, rTryX, rTryM, rTryN, ↓reduceIte, sw_eq, sw_ne, ne_eq, Nat.reduceEqDiff, not_false_eq_true, Bool.false_eq_true, bi_t, bi_f, c5_1, c41_2] at hQ hw3 ⊢; with_reducible exact hQ hw3) | exact absurd (by assumption) (by decide : ¬ (1 : Int32) = 0)
    · refine aj_iload_n (q := 45) (i := 2) dX7_goOnWithTry_44 rfl rfl rfl ?_
      refine aj_if_ne (q := 48) (tgt := 58) dX7_goOnWithTry_45 rfl (by decide) (fun c45_4 => ?_) (fun c45_4 => ?_)
      · refine aj_aload_n (q := 59) (i := 0) dX7_goOnWithTry_58 rfl rfl rfl ?_
        refine aj_getR (q := 62) fl_X7_21 dX7_goOnWithTry_59 rfl lR_0 rfl ?_
        refine aj_iconst (q := 63) (v := 2) dX7_goOnWithTry_62 rfl (by decide) ?_
        refine aj_bipush (q := 65) (v := 10) dX7_goOnWithTry_63 rfl (by decide) ?_
        refine aj_callV (q := 68) (As := [_, _]) cl_X7_53 mk_X6_pays dX7_goOnWithTry_65 rfl lR_6 rfl rfl (Nat.le_of_ble_eq_true rfl) (sp_X6_pays hw (fun hw5 => ?_))
        refine aj_ifB_eq (q := 71) (tgt := 126) dX7_goOnWithTry_68 rfl (by decide) (fun c68_6 => ?_) (fun c68_6 => ?_)
        · refine aj_aload_n (q := 127) (i := 0) dX7_goOnWithTry_126 rfl rfl rfl ?_
          refine aj_iconst (q := 128) (v := 3) dX7_goOnWithTry_127 rfl (by decide) ?_
          refine aj_callV (q := 131) (As := [_]) cl_X7_166 mk_X7_end dX7_goOnWithTry_128 rfl lR_0 rfl rfl (Nat.le_of_ble_eq_true rfl) (sp_X7_end hw5 (fun hw7 => ?_))
          refine aj_return dX7_goOnWithTry_131 rfl ?_
          skip
          first | contradiction | with_reducible exact hQ hw7 | (simp (decide := true) only [rTry, rTryX, rTryM, rTryN, ↓reduceIte, sw_eq, sw_ne, ne_eq, Nat.reduceEqDiff, not_false_eq_true, Bool.false_eq_true, bi_t, bi_f, c5_1, c41_2, c45_4, c68_6] at hQ; with_reducible exact hQ hw7) | (simp (decide := true) only [rTry, rTryX, rTryM, rTryN, ↓reduceIte, sw_eq, sw_ne, ne_eq, Nat.reduceEqDiff, not_false_eq_true, Bool.false_eq_true, bi_t, bi_f, c5_1, c41_2, c45_4, c68_6] at hQ hw7 ⊢; with_reducible exact hQ hw7) | exact absurd (by assumption) (by decide : ¬ (1 : Int32) = 0)
        · refine aj_aload_n (q := 72) (i := 0) dX7_goOnWithTry_71 rfl rfl rfl ?_
          refine aj_getR (q := 75) fl_X7_21 dX7_goOnWithTry_72 rfl lR_0 rfl ?_
          refine aj_iload_n (q := 76) (i := 1) dX7_goOnWithTry_75 rfl rfl rfl ?_
          refine aj_callV (q := 79) (As := [_]) cl_X7_184 mk_X6_noteBegun dX7_goOnWithTry_76 rfl lR_6 rfl rfl (Nat.le_of_ble_eq_true rfl) (sp_X6_noteBegun hw5 (fun hw8 => ?_))
          refine aj_aload_n (q := 80) (i := 0) dX7_goOnWithTry_79 rfl rfl rfl ?_
          refine aj_getR (q := 83) fl_X7_12 dX7_goOnWithTry_80 rfl lR_0 rfl ?_
          refine aj_bipush (q := 85) (v := 7) dX7_goOnWithTry_83 rfl (by decide) ?_
          refine aj_aload_n (q := 86) (i := 0) dX7_goOnWithTry_85 rfl rfl rfl ?_
          refine aj_getI (q := 89) (f := 9) fl_X7_82 dX7_goOnWithTry_86 rfl lR_0 rfl rfl ?_
          try simp only [sw_eq, sw_ne, ne_eq, Nat.reduceEqDiff, not_false_eq_true]
          refine aj_iconst (q := 90) (v := 5) dX7_goOnWithTry_89 rfl (by decide) ?_
          refine aj_icmp_ne (q := 93) (tgt := 103) dX7_goOnWithTry_90 rfl (by decide) (fun c90_9 => ?_) (fun c90_9 => ?_)
          · refine aj_aload_n (q := 104) (i := 0) dX7_goOnWithTry_103 rfl rfl rfl ?_
            refine aj_getI (q := 107) (f := 9) fl_X7_82 dX7_goOnWithTry_104 rfl lR_0 rfl rfl ?_
            try simp only [sw_eq, sw_ne, ne_eq, Nat.reduceEqDiff, not_false_eq_true]
            refine aj_callV (q := 110) (As := [_, _]) cl_X7_116 mk_X4_write dX7_goOnWithTry_107 rfl lR_1 rfl rfl (Nat.le_of_ble_eq_true rfl) (sp_X4_write hw8 (fun hw10 => ?_))
            refine aj_aload_n (q := 111) (i := 0) dX7_goOnWithTry_110 rfl rfl rfl ?_
            refine aj_iconst (q := 112) (v := 2) dX7_goOnWithTry_111 rfl (by decide) ?_
            refine aj_aload_n (q := 113) (i := 0) dX7_goOnWithTry_112 rfl rfl rfl ?_
            refine aj_getR (q := 116) fl_X7_43 dX7_goOnWithTry_113 rfl lR_0 rfl ?_
            refine aj_iload_n (q := 117) (i := 1) dX7_goOnWithTry_116 rfl rfl rfl ?_
            refine aj_callV (q := 120) (As := [_]) cl_X7_135 mk_X5_thirdOf dX7_goOnWithTry_117 rfl lR_17 rfl rfl (Nat.le_of_ble_eq_true rfl) (sp_X5_thirdOf hw10 ?_)
            refine aj_callV (q := 123) (As := [_, _]) cl_X7_141 mk_X7_doPart dX7_goOnWithTry_120 rfl lR_0 rfl rfl (Nat.le_of_ble_eq_true rfl) (sp_X7_doPart hw10 (fun hw11 => ?_))
            refine aj_goto (tgt := 131) dX7_goOnWithTry_123 (by decide) ?_
            refine aj_return dX7_goOnWithTry_131 rfl ?_
            skip
            first | contradiction | with_reducible exact hQ hw11 | (simp (decide := true) only [rTry, rTryX, rTryM, rTryN, ↓reduceIte, sw_eq, sw_ne, ne_eq, Nat.reduceEqDiff, not_false_eq_true, Bool.false_eq_true, bi_t, bi_f, c5_1, c41_2, c45_4, c68_6, c90_9] at hQ; with_reducible exact hQ hw11) | (simp (decide := true) only [rTry, rTryX, rTryM, rTryN, ↓reduceIte, sw_eq, sw_ne, ne_eq, Nat.reduceEqDiff, not_false_eq_true, Bool.false_eq_true, bi_t, bi_f, c5_1, c41_2, c45_4, c68_6, c90_9] at hQ hw11 ⊢; with_reducible exact hQ hw11) | exact absurd (by assumption) (by decide : ¬ (1 : Int32) = 0)
          · refine aj_bipush (q := 95) (v := 100) dX7_goOnWithTry_93 rfl (by decide) ?_
            refine aj_aload_n (q := 96) (i := 0) dX7_goOnWithTry_95 rfl rfl rfl ?_
            refine aj_getI (q := 99) (f := 10) fl_X7_85 dX7_goOnWithTry_96 rfl lR_0 rfl rfl ?_
            try simp only [sw_eq, sw_ne, ne_eq, Nat.reduceEqDiff, not_false_eq_true]
            refine aj_iadd (q := 100) dX7_goOnWithTry_99 rfl ?_
            refine aj_goto (tgt := 107) dX7_goOnWithTry_100 (by decide) ?_
            refine aj_callV (q := 110) (As := [_, _]) cl_X7_116 mk_X4_write dX7_goOnWithTry_107 rfl lR_1 rfl rfl (Nat.le_of_ble_eq_true rfl) (sp_X4_write hw8 (fun hw12 => ?_))
            refine aj_aload_n (q := 111) (i := 0) dX7_goOnWithTry_110 rfl rfl rfl ?_
            refine aj_iconst (q := 112) (v := 2) dX7_goOnWithTry_111 rfl (by decide) ?_
            refine aj_aload_n (q := 113) (i := 0) dX7_goOnWithTry_112 rfl rfl rfl ?_
            refine aj_getR (q := 116) fl_X7_43 dX7_goOnWithTry_113 rfl lR_0 rfl ?_
            refine aj_iload_n (q := 117) (i := 1) dX7_goOnWithTry_116 rfl rfl rfl ?_
            refine aj_callV (q := 120) (As := [_]) cl_X7_135 mk_X5_thirdOf dX7_goOnWithTry_117 rfl lR_17 rfl rfl (Nat.le_of_ble_eq_true rfl) (sp_X5_thirdOf hw12 ?_)
            refine aj_callV (q := 123) (As := [_, _]) cl_X7_141 mk_X7_doPart dX7_goOnWithTry_120 rfl lR_0 rfl rfl (Nat.le_of_ble_eq_true rfl) (sp_X7_doPart hw12 (fun hw13 => ?_))
            refine aj_goto (tgt := 131) dX7_goOnWithTry_123 (by decide) ?_
            refine aj_return dX7_goOnWithTry_131 rfl ?_
            skip
            first | contradiction | with_reducible exact hQ hw13 | (simp (decide := true) only [rTry, rTryX, rTryM, rTryN, ↓reduceIte, sw_eq, sw_ne, ne_eq, Nat.reduceEqDiff, not_false_eq_true, Bool.false_eq_true, bi_t, bi_f, c5_1, c41_2, c45_4, c68_6, c90_9] at hQ; with_reducible exact hQ hw13) | (simp (decide := true) only [rTry, rTryX, rTryM, rTryN, ↓reduceIte, sw_eq, sw_ne, ne_eq, Nat.reduceEqDiff, not_false_eq_true, Bool.false_eq_true, bi_t, bi_f, c5_1, c41_2, c45_4, c68_6, c90_9] at hQ hw13 ⊢; with_reducible exact hQ hw13) | exact absurd (by assumption) (by decide : ¬ (1 : Int32) = 0)
      · refine aj_aload_n (q := 49) (i := 0) dX7_goOnWithTry_48 rfl rfl rfl ?_
        refine aj_getR (q := 52) fl_X7_35 dX7_goOnWithTry_49 rfl lR_0 rfl ?_
        refine aj_callV (q := 55) (As := []) cl_X7_181 mk_X0_close dX7_goOnWithTry_52 rfl lR_11 rfl rfl (Nat.le_of_ble_eq_true rfl) (sp_X0_close hw (fun hw14 => ?_))
        refine aj_goto (tgt := 131) dX7_goOnWithTry_55 (by decide) ?_
        refine aj_return dX7_goOnWithTry_131 rfl ?_
        skip
        first | contradiction | with_reducible exact hQ hw14 | (simp (decide := true) only [rTry, rTryX, rTryM, rTryN, ↓reduceIte, sw_eq, sw_ne, ne_eq, Nat.reduceEqDiff, not_false_eq_true, Bool.false_eq_true, bi_t, bi_f, c5_1, c41_2, c45_4] at hQ; with_reducible exact hQ hw14) | (simp (decide := true) only [rTry, rTryX, rTryM, rTryN, ↓reduceIte, sw_eq, sw_ne, ne_eq, Nat.reduceEqDiff, not_false_eq_true, Bool.false_eq_true, bi_t, bi_f, c5_1, c41_2, c45_4] at hQ hw14 ⊢; with_reducible exact hQ hw14) | exact absurd (by assumption) (by decide : ¬ (1 : Int32) = 0)
  · refine aj_aload_n (q := 9) (i := 0) dX7_goOnWithTry_8 rfl rfl rfl ?_
    refine aj_getR (q := 12) fl_X7_43 dX7_goOnWithTry_9 rfl lR_0 rfl ?_
    refine aj_iload_n (q := 13) (i := 1) dX7_goOnWithTry_12 rfl rfl rfl ?_
    refine aj_callV (q := 16) (As := [_]) cl_X7_132 mk_X5_secondOf dX7_goOnWithTry_13 rfl lR_17 rfl rfl (Nat.le_of_ble_eq_true rfl) (sp_X5_secondOf hw ?_)
    refine aj_aload_n (q := 17) (i := 0) dX7_goOnWithTry_16 rfl rfl rfl ?_
    refine aj_getI (q := 20) (f := 9) fl_X7_82 dX7_goOnWithTry_17 rfl lR_0 rfl rfl ?_
    try simp only [sw_eq, sw_ne, ne_eq, Nat.reduceEqDiff, not_false_eq_true]
    refine aj_ishr (q := 21) dX7_goOnWithTry_20 rfl ?_
    refine aj_iconst (q := 22) (v := 1) dX7_goOnWithTry_21 rfl (by decide) ?_
    refine aj_iand (q := 23) dX7_goOnWithTry_22 rfl ?_
    refine aj_iconst (q := 24) (v := 1) dX7_goOnWithTry_23 rfl (by decide) ?_
    refine aj_icmp_ne (q := 27) (tgt := 31) dX7_goOnWithTry_24 rfl (by decide) (fun c24_15 => ?_) (fun c24_15 => ?_)
    · refine aj_iconst (q := 32) (v := 0) dX7_goOnWithTry_31 rfl (by decide) ?_
      refine aj_istore_n (q := 33) (i := 2) (ls' := [_, _, _]) dX7_goOnWithTry_32 rfl rfl (by decide) rfl ?_
      refine aj_aload_n (q := 34) (i := 0) dX7_goOnWithTry_33 rfl rfl rfl ?_
      refine aj_getR (q := 37) fl_X7_35 dX7_goOnWithTry_34 rfl lR_0 rfl ?_
      refine aj_callV (q := 40) (As := []) cl_X7_73 mk_X0_stage dX7_goOnWithTry_37 rfl lR_11 rfl rfl (Nat.le_of_ble_eq_true rfl) (sp_X0_stage hw ?_)
      refine aj_iconst (q := 41) (v := 1) dX7_goOnWithTry_40 rfl (by decide) ?_
      refine aj_icmp_ne (q := 44) (tgt := 48) dX7_goOnWithTry_41 rfl (by decide) (fun c41_16 => ?_) (fun c41_16 => ?_)
      · refine aj_aload_n (q := 49) (i := 0) dX7_goOnWithTry_48 rfl rfl rfl ?_
        refine aj_getR (q := 52) fl_X7_35 dX7_goOnWithTry_49 rfl lR_0 rfl ?_
        refine aj_callV (q := 55) (As := []) cl_X7_181 mk_X0_close dX7_goOnWithTry_52 rfl lR_11 rfl rfl (Nat.le_of_ble_eq_true rfl) (sp_X0_close hw (fun hw17 => ?_))
        refine aj_goto (tgt := 131) dX7_goOnWithTry_55 (by decide) ?_
        refine aj_return dX7_goOnWithTry_131 rfl ?_
        skip
        first | contradiction | with_reducible exact hQ hw17 | (simp (decide := true) only [rTry, rTryX, rTryM, rTryN, ↓reduceIte, sw_eq, sw_ne, ne_eq, Nat.reduceEqDiff, not_false_eq_true, Bool.false_eq_true, bi_t, bi_f, c5_1, c24_15, c41_16] at hQ; with_reducible exact hQ hw17) | (simp (decide := true) only [rTry, rTryX, rTryM, rTryN, ↓reduceIte, sw_eq, sw_ne, ne_eq, Nat.reduceEqDiff, not_false_eq_true, Bool.false_eq_true, bi_t, bi_f, c5_1, c24_15, c41_16] at hQ hw17 ⊢; with_reducible exact hQ hw17) | exact absurd (by assumption) (by decide : ¬ (1 : Int32) = 0)
      · refine aj_iload_n (q := 45) (i := 2) dX7_goOnWithTry_44 rfl rfl rfl ?_
        refine aj_if_ne (q := 48) (tgt := 58) dX7_goOnWithTry_45 rfl (by decide) (fun c45_18 => ?_) (fun c45_18 => ?_)
        · refine aj_aload_n (q := 59) (i := 0) dX7_goOnWithTry_58 rfl rfl rfl ?_
          refine aj_getR (q := 62) fl_X7_21 dX7_goOnWithTry_59 rfl lR_0 rfl ?_
          refine aj_iconst (q := 63) (v := 2) dX7_goOnWithTry_62 rfl (by decide) ?_
          refine aj_bipush (q := 65) (v := 10) dX7_goOnWithTry_63 rfl (by decide) ?_
          refine aj_callV (q := 68) (As := [_, _]) cl_X7_53 mk_X6_pays dX7_goOnWithTry_65 rfl lR_6 rfl rfl (Nat.le_of_ble_eq_true rfl) (sp_X6_pays hw (fun hw19 => ?_))
          refine aj_ifB_eq (q := 71) (tgt := 126) dX7_goOnWithTry_68 rfl (by decide) (fun c68_20 => ?_) (fun c68_20 => ?_)
          · refine aj_aload_n (q := 127) (i := 0) dX7_goOnWithTry_126 rfl rfl rfl ?_
            refine aj_iconst (q := 128) (v := 3) dX7_goOnWithTry_127 rfl (by decide) ?_
            refine aj_callV (q := 131) (As := [_]) cl_X7_166 mk_X7_end dX7_goOnWithTry_128 rfl lR_0 rfl rfl (Nat.le_of_ble_eq_true rfl) (sp_X7_end hw19 (fun hw21 => ?_))
            refine aj_return dX7_goOnWithTry_131 rfl ?_
            skip
            first | contradiction | with_reducible exact hQ hw21 | (simp (decide := true) only [rTry, rTryX, rTryM, rTryN, ↓reduceIte, sw_eq, sw_ne, ne_eq, Nat.reduceEqDiff, not_false_eq_true, Bool.false_eq_true, bi_t, bi_f, c5_1, c24_15, c41_16, c45_18, c68_20] at hQ; with_reducible exact hQ hw21) | (simp (decide := true) only [rTry, rTryX, rTryM, rTryN, ↓reduceIte, sw_eq, sw_ne, ne_eq, Nat.reduceEqDiff, not_false_eq_true, Bool.false_eq_true, bi_t, bi_f, c5_1, c24_15, c41_16, c45_18, c68_20] at hQ hw21 ⊢; with_reducible exact hQ hw21) | exact absurd (by assumption) (by decide : ¬ (1 : Int32) = 0)
          · refine aj_aload_n (q := 72) (i := 0) dX7_goOnWithTry_71 rfl rfl rfl ?_
            refine aj_getR (q := 75) fl_X7_21 dX7_goOnWithTry_72 rfl lR_0 rfl ?_
            refine aj_iload_n (q := 76) (i := 1) dX7_goOnWithTry_75 rfl rfl rfl ?_
            refine aj_callV (q := 79) (As := [_]) cl_X7_184 mk_X6_noteBegun dX7_goOnWithTry_76 rfl lR_6 rfl rfl (Nat.le_of_ble_eq_true rfl) (sp_X6_noteBegun hw19 (fun hw22 => ?_))
            refine aj_aload_n (q := 80) (i := 0) dX7_goOnWithTry_79 rfl rfl rfl ?_
            refine aj_getR (q := 83) fl_X7_12 dX7_goOnWithTry_80 rfl lR_0 rfl ?_
            refine aj_bipush (q := 85) (v := 7) dX7_goOnWithTry_83 rfl (by decide) ?_
            refine aj_aload_n (q := 86) (i := 0) dX7_goOnWithTry_85 rfl rfl rfl ?_
            refine aj_getI (q := 89) (f := 9) fl_X7_82 dX7_goOnWithTry_86 rfl lR_0 rfl rfl ?_
            try simp only [sw_eq, sw_ne, ne_eq, Nat.reduceEqDiff, not_false_eq_true]
            refine aj_iconst (q := 90) (v := 5) dX7_goOnWithTry_89 rfl (by decide) ?_
            refine aj_icmp_ne (q := 93) (tgt := 103) dX7_goOnWithTry_90 rfl (by decide) (fun c90_23 => ?_) (fun c90_23 => ?_)
            · refine aj_aload_n (q := 104) (i := 0) dX7_goOnWithTry_103 rfl rfl rfl ?_
              refine aj_getI (q := 107) (f := 9) fl_X7_82 dX7_goOnWithTry_104 rfl lR_0 rfl rfl ?_
              try simp only [sw_eq, sw_ne, ne_eq, Nat.reduceEqDiff, not_false_eq_true]
              refine aj_callV (q := 110) (As := [_, _]) cl_X7_116 mk_X4_write dX7_goOnWithTry_107 rfl lR_1 rfl rfl (Nat.le_of_ble_eq_true rfl) (sp_X4_write hw22 (fun hw24 => ?_))
              refine aj_aload_n (q := 111) (i := 0) dX7_goOnWithTry_110 rfl rfl rfl ?_
              refine aj_iconst (q := 112) (v := 2) dX7_goOnWithTry_111 rfl (by decide) ?_
              refine aj_aload_n (q := 113) (i := 0) dX7_goOnWithTry_112 rfl rfl rfl ?_
              refine aj_getR (q := 116) fl_X7_43 dX7_goOnWithTry_113 rfl lR_0 rfl ?_
              refine aj_iload_n (q := 117) (i := 1) dX7_goOnWithTry_116 rfl rfl rfl ?_
              refine aj_callV (q := 120) (As := [_]) cl_X7_135 mk_X5_thirdOf dX7_goOnWithTry_117 rfl lR_17 rfl rfl (Nat.le_of_ble_eq_true rfl) (sp_X5_thirdOf hw24 ?_)
              refine aj_callV (q := 123) (As := [_, _]) cl_X7_141 mk_X7_doPart dX7_goOnWithTry_120 rfl lR_0 rfl rfl (Nat.le_of_ble_eq_true rfl) (sp_X7_doPart hw24 (fun hw25 => ?_))
              refine aj_goto (tgt := 131) dX7_goOnWithTry_123 (by decide) ?_
              refine aj_return dX7_goOnWithTry_131 rfl ?_
              skip
              first | contradiction | with_reducible exact hQ hw25 | (simp (decide := true) only [rTry, rTryX, rTryM, rTryN, ↓reduceIte, sw_eq, sw_ne, ne_eq, Nat.reduceEqDiff, not_false_eq_true, Bool.false_eq_true, bi_t, bi_f, c5_1, c24_15, c41_16, c45_18, c68_20, c90_23] at hQ; with_reducible exact hQ hw25) | (simp (decide := true) only [rTry, rTryX, rTryM, rTryN, ↓reduceIte, sw_eq, sw_ne, ne_eq, Nat.reduceEqDiff, not_false_eq_true, Bool.false_eq_true, bi_t, bi_f, c5_1, c24_15, c41_16, c45_18, c68_20, c90_23] at hQ hw25 ⊢; with_reducible exact hQ hw25) | exact absurd (by assumption) (by decide : ¬ (1 : Int32) = 0)
            · refine aj_bipush (q := 95) (v := 100) dX7_goOnWithTry_93 rfl (by decide) ?_
              refine aj_aload_n (q := 96) (i := 0) dX7_goOnWithTry_95 rfl rfl rfl ?_
              refine aj_getI (q := 99) (f := 10) fl_X7_85 dX7_goOnWithTry_96 rfl lR_0 rfl rfl ?_
              try simp only [sw_eq, sw_ne, ne_eq, Nat.reduceEqDiff, not_false_eq_true]
              refine aj_iadd (q := 100) dX7_goOnWithTry_99 rfl ?_
              refine aj_goto (tgt := 107) dX7_goOnWithTry_100 (by decide) ?_
              refine aj_callV (q := 110) (As := [_, _]) cl_X7_116 mk_X4_write dX7_goOnWithTry_107 rfl lR_1 rfl rfl (Nat.le_of_ble_eq_true rfl) (sp_X4_write hw22 (fun hw26 => ?_))
              refine aj_aload_n (q := 111) (i := 0) dX7_goOnWithTry_110 rfl rfl rfl ?_
              refine aj_iconst (q := 112) (v := 2) dX7_goOnWithTry_111 rfl (by decide) ?_
              refine aj_aload_n (q := 113) (i := 0) dX7_goOnWithTry_112 rfl rfl rfl ?_
              refine aj_getR (q := 116) fl_X7_43 dX7_goOnWithTry_113 rfl lR_0 rfl ?_
              refine aj_iload_n (q := 117) (i := 1) dX7_goOnWithTry_116 rfl rfl rfl ?_
              refine aj_callV (q := 120) (As := [_]) cl_X7_135 mk_X5_thirdOf dX7_goOnWithTry_117 rfl lR_17 rfl rfl (Nat.le_of_ble_eq_true rfl) (sp_X5_thirdOf hw26 ?_)
              refine aj_callV (q := 123) (As := [_, _]) cl_X7_141 mk_X7_doPart dX7_goOnWithTry_120 rfl lR_0 rfl rfl (Nat.le_of_ble_eq_true rfl) (sp_X7_doPart hw26 (fun hw27 => ?_))
              refine aj_goto (tgt := 131) dX7_goOnWithTry_123 (by decide) ?_
              refine aj_return dX7_goOnWithTry_131 rfl ?_
              skip
              first | contradiction | with_reducible exact hQ hw27 | (simp (decide := true) only [rTry, rTryX, rTryM, rTryN, ↓reduceIte, sw_eq, sw_ne, ne_eq, Nat.reduceEqDiff, not_false_eq_true, Bool.false_eq_true, bi_t, bi_f, c5_1, c24_15, c41_16, c45_18, c68_20, c90_23] at hQ; with_reducible exact hQ hw27) | (simp (decide := true) only [rTry, rTryX, rTryM, rTryN, ↓reduceIte, sw_eq, sw_ne, ne_eq, Nat.reduceEqDiff, not_false_eq_true, Bool.false_eq_true, bi_t, bi_f, c5_1, c24_15, c41_16, c45_18, c68_20, c90_23] at hQ hw27 ⊢; with_reducible exact hQ hw27) | exact absurd (by assumption) (by decide : ¬ (1 : Int32) = 0)
        · refine aj_aload_n (q := 49) (i := 0) dX7_goOnWithTry_48 rfl rfl rfl ?_
          refine aj_getR (q := 52) fl_X7_35 dX7_goOnWithTry_49 rfl lR_0 rfl ?_
          refine aj_callV (q := 55) (As := []) cl_X7_181 mk_X0_close dX7_goOnWithTry_52 rfl lR_11 rfl rfl (Nat.le_of_ble_eq_true rfl) (sp_X0_close hw (fun hw28 => ?_))
          refine aj_goto (tgt := 131) dX7_goOnWithTry_55 (by decide) ?_
          refine aj_return dX7_goOnWithTry_131 rfl ?_
          skip
          first | contradiction | with_reducible exact hQ hw28 | (simp (decide := true) only [rTry, rTryX, rTryM, rTryN, ↓reduceIte, sw_eq, sw_ne, ne_eq, Nat.reduceEqDiff, not_false_eq_true, Bool.false_eq_true, bi_t, bi_f, c5_1, c24_15, c41_16, c45_18] at hQ; with_reducible exact hQ hw28) | (simp (decide := true) only [rTry, rTryX, rTryM, rTryN, ↓reduceIte, sw_eq, sw_ne, ne_eq, Nat.reduceEqDiff, not_false_eq_true, Bool.false_eq_true, bi_t, bi_f, c5_1, c24_15, c41_16, c45_18] at hQ hw28 ⊢; with_reducible exact hQ hw28) | exact absurd (by assumption) (by decide : ¬ (1 : Int32) = 0)
    · refine aj_iconst (q := 28) (v := 1) dX7_goOnWithTry_27 rfl (by decide) ?_
      refine aj_goto (tgt := 32) dX7_goOnWithTry_28 (by decide) ?_
      refine aj_istore_n (q := 33) (i := 2) (ls' := [_, _, _]) dX7_goOnWithTry_32 rfl rfl (by decide) rfl ?_
      refine aj_aload_n (q := 34) (i := 0) dX7_goOnWithTry_33 rfl rfl rfl ?_
      refine aj_getR (q := 37) fl_X7_35 dX7_goOnWithTry_34 rfl lR_0 rfl ?_
      refine aj_callV (q := 40) (As := []) cl_X7_73 mk_X0_stage dX7_goOnWithTry_37 rfl lR_11 rfl rfl (Nat.le_of_ble_eq_true rfl) (sp_X0_stage hw ?_)
      refine aj_iconst (q := 41) (v := 1) dX7_goOnWithTry_40 rfl (by decide) ?_
      refine aj_icmp_ne (q := 44) (tgt := 48) dX7_goOnWithTry_41 rfl (by decide) (fun c41_29 => ?_) (fun c41_29 => ?_)
      · refine aj_aload_n (q := 49) (i := 0) dX7_goOnWithTry_48 rfl rfl rfl ?_
        refine aj_getR (q := 52) fl_X7_35 dX7_goOnWithTry_49 rfl lR_0 rfl ?_
        refine aj_callV (q := 55) (As := []) cl_X7_181 mk_X0_close dX7_goOnWithTry_52 rfl lR_11 rfl rfl (Nat.le_of_ble_eq_true rfl) (sp_X0_close hw (fun hw30 => ?_))
        refine aj_goto (tgt := 131) dX7_goOnWithTry_55 (by decide) ?_
        refine aj_return dX7_goOnWithTry_131 rfl ?_
        skip
        first | contradiction | with_reducible exact hQ hw30 | (simp (decide := true) only [rTry, rTryX, rTryM, rTryN, ↓reduceIte, sw_eq, sw_ne, ne_eq, Nat.reduceEqDiff, not_false_eq_true, Bool.false_eq_true, bi_t, bi_f, c5_1, c24_15, c41_29] at hQ; with_reducible exact hQ hw30) | (simp (decide := true) only [rTry, rTryX, rTryM, rTryN, ↓reduceIte, sw_eq, sw_ne, ne_eq, Nat.reduceEqDiff, not_false_eq_true, Bool.false_eq_true, bi_t, bi_f, c5_1, c24_15, c41_29] at hQ hw30 ⊢; with_reducible exact hQ hw30) | exact absurd (by assumption) (by decide : ¬ (1 : Int32) = 0)
      · refine aj_iload_n (q := 45) (i := 2) dX7_goOnWithTry_44 rfl rfl rfl ?_
        refine aj_if_ne (q := 48) (tgt := 58) dX7_goOnWithTry_45 rfl (by decide) (fun c45_31 => ?_) (fun c45_31 => ?_)
        · refine aj_aload_n (q := 59) (i := 0) dX7_goOnWithTry_58 rfl rfl rfl ?_
          refine aj_getR (q := 62) fl_X7_21 dX7_goOnWithTry_59 rfl lR_0 rfl ?_
          refine aj_iconst (q := 63) (v := 2) dX7_goOnWithTry_62 rfl (by decide) ?_
          refine aj_bipush (q := 65) (v := 10) dX7_goOnWithTry_63 rfl (by decide) ?_
          refine aj_callV (q := 68) (As := [_, _]) cl_X7_53 mk_X6_pays dX7_goOnWithTry_65 rfl lR_6 rfl rfl (Nat.le_of_ble_eq_true rfl) (sp_X6_pays hw (fun hw32 => ?_))
          refine aj_ifB_eq (q := 71) (tgt := 126) dX7_goOnWithTry_68 rfl (by decide) (fun c68_33 => ?_) (fun c68_33 => ?_)
          · refine aj_aload_n (q := 127) (i := 0) dX7_goOnWithTry_126 rfl rfl rfl ?_
            refine aj_iconst (q := 128) (v := 3) dX7_goOnWithTry_127 rfl (by decide) ?_
            refine aj_callV (q := 131) (As := [_]) cl_X7_166 mk_X7_end dX7_goOnWithTry_128 rfl lR_0 rfl rfl (Nat.le_of_ble_eq_true rfl) (sp_X7_end hw32 (fun hw34 => ?_))
            refine aj_return dX7_goOnWithTry_131 rfl ?_
            skip
            first | contradiction | with_reducible exact hQ hw34 | (simp (decide := true) only [rTry, rTryX, rTryM, rTryN, ↓reduceIte, sw_eq, sw_ne, ne_eq, Nat.reduceEqDiff, not_false_eq_true, Bool.false_eq_true, bi_t, bi_f, c5_1, c24_15, c41_29, c45_31, c68_33] at hQ; with_reducible exact hQ hw34) | (simp (decide := true) only [rTry, rTryX, rTryM, rTryN, ↓reduceIte, sw_eq, sw_ne, ne_eq, Nat.reduceEqDiff, not_false_eq_true, Bool.false_eq_true, bi_t, bi_f, c5_1, c24_15, c41_29, c45_31, c68_33] at hQ hw34 ⊢; with_reducible exact hQ hw34) | exact absurd (by assumption) (by decide : ¬ (1 : Int32) = 0)
          · refine aj_aload_n (q := 72) (i := 0) dX7_goOnWithTry_71 rfl rfl rfl ?_
            refine aj_getR (q := 75) fl_X7_21 dX7_goOnWithTry_72 rfl lR_0 rfl ?_
            refine aj_iload_n (q := 76) (i := 1) dX7_goOnWithTry_75 rfl rfl rfl ?_
            refine aj_callV (q := 79) (As := [_]) cl_X7_184 mk_X6_noteBegun dX7_goOnWithTry_76 rfl lR_6 rfl rfl (Nat.le_of_ble_eq_true rfl) (sp_X6_noteBegun hw32 (fun hw35 => ?_))
            refine aj_aload_n (q := 80) (i := 0) dX7_goOnWithTry_79 rfl rfl rfl ?_
            refine aj_getR (q := 83) fl_X7_12 dX7_goOnWithTry_80 rfl lR_0 rfl ?_
            refine aj_bipush (q := 85) (v := 7) dX7_goOnWithTry_83 rfl (by decide) ?_
            refine aj_aload_n (q := 86) (i := 0) dX7_goOnWithTry_85 rfl rfl rfl ?_
            refine aj_getI (q := 89) (f := 9) fl_X7_82 dX7_goOnWithTry_86 rfl lR_0 rfl rfl ?_
            try simp only [sw_eq, sw_ne, ne_eq, Nat.reduceEqDiff, not_false_eq_true]
            refine aj_iconst (q := 90) (v := 5) dX7_goOnWithTry_89 rfl (by decide) ?_
            refine aj_icmp_ne (q := 93) (tgt := 103) dX7_goOnWithTry_90 rfl (by decide) (fun c90_36 => ?_) (fun c90_36 => ?_)
            · refine aj_aload_n (q := 104) (i := 0) dX7_goOnWithTry_103 rfl rfl rfl ?_
              refine aj_getI (q := 107) (f := 9) fl_X7_82 dX7_goOnWithTry_104 rfl lR_0 rfl rfl ?_
              try simp only [sw_eq, sw_ne, ne_eq, Nat.reduceEqDiff, not_false_eq_true]
              refine aj_callV (q := 110) (As := [_, _]) cl_X7_116 mk_X4_write dX7_goOnWithTry_107 rfl lR_1 rfl rfl (Nat.le_of_ble_eq_true rfl) (sp_X4_write hw35 (fun hw37 => ?_))
              refine aj_aload_n (q := 111) (i := 0) dX7_goOnWithTry_110 rfl rfl rfl ?_
              refine aj_iconst (q := 112) (v := 2) dX7_goOnWithTry_111 rfl (by decide) ?_
              refine aj_aload_n (q := 113) (i := 0) dX7_goOnWithTry_112 rfl rfl rfl ?_
              refine aj_getR (q := 116) fl_X7_43 dX7_goOnWithTry_113 rfl lR_0 rfl ?_
              refine aj_iload_n (q := 117) (i := 1) dX7_goOnWithTry_116 rfl rfl rfl ?_
              refine aj_callV (q := 120) (As := [_]) cl_X7_135 mk_X5_thirdOf dX7_goOnWithTry_117 rfl lR_17 rfl rfl (Nat.le_of_ble_eq_true rfl) (sp_X5_thirdOf hw37 ?_)
              refine aj_callV (q := 123) (As := [_, _]) cl_X7_141 mk_X7_doPart dX7_goOnWithTry_120 rfl lR_0 rfl rfl (Nat.le_of_ble_eq_true rfl) (sp_X7_doPart hw37 (fun hw38 => ?_))
              refine aj_goto (tgt := 131) dX7_goOnWithTry_123 (by decide) ?_
              refine aj_return dX7_goOnWithTry_131 rfl ?_
              skip
              first | contradiction | with_reducible exact hQ hw38 | (simp (decide := true) only [rTry, rTryX, rTryM, rTryN, ↓reduceIte, sw_eq, sw_ne, ne_eq, Nat.reduceEqDiff, not_false_eq_true, Bool.false_eq_true, bi_t, bi_f, c5_1, c24_15, c41_29, c45_31, c68_33, c90_36] at hQ; with_reducible exact hQ hw38) | (simp (decide := true) only [rTry, rTryX, rTryM, rTryN, ↓reduceIte, sw_eq, sw_ne, ne_eq, Nat.reduceEqDiff, not_false_eq_true, Bool.false_eq_true, bi_t, bi_f, c5_1, c24_15, c41_29, c45_31, c68_33, c90_36] at hQ hw38 ⊢; with_reducible exact hQ hw38) | exact absurd (by assumption) (by decide : ¬ (1 : Int32) = 0)
            · refine aj_bipush (q := 95) (v := 100) dX7_goOnWithTry_93 rfl (by decide) ?_
              refine aj_aload_n (q := 96) (i := 0) dX7_goOnWithTry_95 rfl rfl rfl ?_
              refine aj_getI (q := 99) (f := 10) fl_X7_85 dX7_goOnWithTry_96 rfl lR_0 rfl rfl ?_
              try simp only [sw_eq, sw_ne, ne_eq, Nat.reduceEqDiff, not_false_eq_true]
              refine aj_iadd (q := 100) dX7_goOnWithTry_99 rfl ?_
              refine aj_goto (tgt := 107) dX7_goOnWithTry_100 (by decide) ?_
              refine aj_callV (q := 110) (As := [_, _]) cl_X7_116 mk_X4_write dX7_goOnWithTry_107 rfl lR_1 rfl rfl (Nat.le_of_ble_eq_true rfl) (sp_X4_write hw35 (fun hw39 => ?_))
              refine aj_aload_n (q := 111) (i := 0) dX7_goOnWithTry_110 rfl rfl rfl ?_
              refine aj_iconst (q := 112) (v := 2) dX7_goOnWithTry_111 rfl (by decide) ?_
              refine aj_aload_n (q := 113) (i := 0) dX7_goOnWithTry_112 rfl rfl rfl ?_
              refine aj_getR (q := 116) fl_X7_43 dX7_goOnWithTry_113 rfl lR_0 rfl ?_
              refine aj_iload_n (q := 117) (i := 1) dX7_goOnWithTry_116 rfl rfl rfl ?_
              refine aj_callV (q := 120) (As := [_]) cl_X7_135 mk_X5_thirdOf dX7_goOnWithTry_117 rfl lR_17 rfl rfl (Nat.le_of_ble_eq_true rfl) (sp_X5_thirdOf hw39 ?_)
              refine aj_callV (q := 123) (As := [_, _]) cl_X7_141 mk_X7_doPart dX7_goOnWithTry_120 rfl lR_0 rfl rfl (Nat.le_of_ble_eq_true rfl) (sp_X7_doPart hw39 (fun hw40 => ?_))
              refine aj_goto (tgt := 131) dX7_goOnWithTry_123 (by decide) ?_
              refine aj_return dX7_goOnWithTry_131 rfl ?_
              skip
              first | contradiction | with_reducible exact hQ hw40 | (simp (decide := true) only [rTry, rTryX, rTryM, rTryN, ↓reduceIte, sw_eq, sw_ne, ne_eq, Nat.reduceEqDiff, not_false_eq_true, Bool.false_eq_true, bi_t, bi_f, c5_1, c24_15, c41_29, c45_31, c68_33, c90_36] at hQ; with_reducible exact hQ hw40) | (simp (decide := true) only [rTry, rTryX, rTryM, rTryN, ↓reduceIte, sw_eq, sw_ne, ne_eq, Nat.reduceEqDiff, not_false_eq_true, Bool.false_eq_true, bi_t, bi_f, c5_1, c24_15, c41_29, c45_31, c68_33, c90_36] at hQ hw40 ⊢; with_reducible exact hQ hw40) | exact absurd (by assumption) (by decide : ¬ (1 : Int32) = 0)
        · refine aj_aload_n (q := 49) (i := 0) dX7_goOnWithTry_48 rfl rfl rfl ?_
          refine aj_getR (q := 52) fl_X7_35 dX7_goOnWithTry_49 rfl lR_0 rfl ?_
          refine aj_callV (q := 55) (As := []) cl_X7_181 mk_X0_close dX7_goOnWithTry_52 rfl lR_11 rfl rfl (Nat.le_of_ble_eq_true rfl) (sp_X0_close hw (fun hw41 => ?_))
          refine aj_goto (tgt := 131) dX7_goOnWithTry_55 (by decide) ?_
          refine aj_return dX7_goOnWithTry_131 rfl ?_
          skip
          first | contradiction | with_reducible exact hQ hw41 | (simp (decide := true) only [rTry, rTryX, rTryM, rTryN, ↓reduceIte, sw_eq, sw_ne, ne_eq, Nat.reduceEqDiff, not_false_eq_true, Bool.false_eq_true, bi_t, bi_f, c5_1, c24_15, c41_29, c45_31] at hQ; with_reducible exact hQ hw41) | (simp (decide := true) only [rTry, rTryX, rTryM, rTryN, ↓reduceIte, sw_eq, sw_ne, ne_eq, Nat.reduceEqDiff, not_false_eq_true, Bool.false_eq_true, bi_t, bi_f, c5_1, c24_15, c41_29, c45_31] at hQ hw41 ⊢; with_reducible exact hQ hw41) | exact absurd (by assumption) (by decide : ¬ (1 : Int32) = 0)
set_option maxRecDepth 2000 in
theorem sp_X7_payForLastPart {d : Nat} {S : Sx} {Q : Option Value → Sx → Prop} (hw : wfR S) (hQ : wfR (lpS S) → Q (some (.int (lpG S))) (lpS S)) : CC (d + 2) kX7_payForLastPart layR [.ref 0] S Q := by
  refine cc_intro [some _] (by decide) (cc_cat (by rfl)) (Nat.le_of_ble_eq_true rfl) (cc_ls (by rfl)) ?_
  refine aj_aload_n (q := 1) (i := 0) dX7_payForLastPart_0 rfl rfl rfl ?_
  refine aj_getI (q := 4) (f := 8) fl_X7_61 dX7_payForLastPart_1 rfl lR_0 rfl rfl ?_
  try simp only [sw_eq, sw_ne, ne_eq, Nat.reduceEqDiff, not_false_eq_true]
  refine aj_iconst (q := 5) (v := 3) dX7_payForLastPart_4 rfl (by decide) ?_
  refine aj_icmp_eq (q := 8) (tgt := 23) dX7_payForLastPart_5 rfl (by decide) (fun c5_1 => ?_) (fun c5_1 => ?_)
  · refine aj_aload_n (q := 24) (i := 0) dX7_payForLastPart_23 rfl rfl rfl ?_
    refine aj_getR (q := 27) fl_X7_21 dX7_payForLastPart_24 rfl lR_0 rfl ?_
    refine aj_callV (q := 30) (As := []) cl_X7_196 mk_X6_isByReserve dX7_payForLastPart_27 rfl lR_6 rfl rfl (Nat.le_of_ble_eq_true rfl) (sp_X6_isByReserve hw ?_)
    refine aj_ifB_eq (q := 33) (tgt := 35) dX7_payForLastPart_30 rfl (by decide) (fun c30_2 => ?_) (fun c30_2 => ?_)
    · refine aj_aload_n (q := 36) (i := 0) dX7_payForLastPart_35 rfl rfl rfl ?_
      refine aj_getR (q := 39) fl_X7_21 dX7_payForLastPart_36 rfl lR_0 rfl ?_
      refine aj_iconst (q := 40) (v := 1) dX7_payForLastPart_39 rfl (by decide) ?_
      refine aj_callV (q := 43) (As := [_]) cl_X7_199 mk_X6_setByReserve dX7_payForLastPart_40 rfl lR_6 rfl rfl (Nat.le_of_ble_eq_true rfl) (sp_X6_setByReserve (by decide) hw (fun hw3 => ?_))
      refine aj_aload_n (q := 44) (i := 0) dX7_payForLastPart_43 rfl rfl rfl ?_
      refine aj_getR (q := 47) fl_X7_21 dX7_payForLastPart_44 rfl lR_0 rfl ?_
      refine aj_iconst (q := 48) (v := 3) dX7_payForLastPart_47 rfl (by decide) ?_
      refine aj_bipush (q := 50) (v := 10) dX7_payForLastPart_48 rfl (by decide) ?_
      refine aj_callV (q := 53) (As := [_, _]) cl_X7_53 mk_X6_pays dX7_payForLastPart_50 rfl lR_6 rfl rfl (Nat.le_of_ble_eq_true rfl) (sp_X6_pays hw3 (fun hw4 => ?_))
      refine aj_ifB_eq (q := 56) (tgt := 58) dX7_payForLastPart_53 rfl (by decide) (fun c53_5 => ?_) (fun c53_5 => ?_)
      · refine aj_aload_n (q := 59) (i := 0) dX7_payForLastPart_58 rfl rfl rfl ?_
        refine aj_getR (q := 62) fl_X7_21 dX7_payForLastPart_59 rfl lR_0 rfl ?_
        refine aj_iconst (q := 63) (v := 0) dX7_payForLastPart_62 rfl (by decide) ?_
        refine aj_callV (q := 66) (As := [_]) cl_X7_199 mk_X6_setByReserve dX7_payForLastPart_63 rfl lR_6 rfl rfl (Nat.le_of_ble_eq_true rfl) (sp_X6_setByReserve (by decide) hw4 (fun hw6 => ?_))
        refine aj_iconst (q := 67) (v := (-1)) dX7_payForLastPart_66 rfl (by decide) ?_
        refine aj_ireturn dX7_payForLastPart_67 rfl ?_
        skip
        first | contradiction | with_reducible exact hQ hw6 | (simp (decide := true) only [lpS, lpG, lpB, lpA, lpOk, ↓reduceIte, sw_eq, sw_ne, ne_eq, Nat.reduceEqDiff, not_false_eq_true, Bool.false_eq_true, bi_t, bi_f, c5_1, c30_2, c53_5] at hQ; with_reducible exact hQ hw6) | (simp (decide := true) only [lpS, lpG, lpB, lpA, lpOk, ↓reduceIte, sw_eq, sw_ne, ne_eq, Nat.reduceEqDiff, not_false_eq_true, Bool.false_eq_true, bi_t, bi_f, c5_1, c30_2, c53_5] at hQ hw6 ⊢; with_reducible exact hQ hw6) | exact absurd (by assumption) (by decide : ¬ (1 : Int32) = 0)
      · refine aj_iconst (q := 57) (v := 3) dX7_payForLastPart_56 rfl (by decide) ?_
        refine aj_ireturn dX7_payForLastPart_57 rfl ?_
        skip
        first | contradiction | with_reducible exact hQ hw4 | (simp (decide := true) only [lpS, lpG, lpB, lpA, lpOk, ↓reduceIte, sw_eq, sw_ne, ne_eq, Nat.reduceEqDiff, not_false_eq_true, Bool.false_eq_true, bi_t, bi_f, c5_1, c30_2, c53_5] at hQ; with_reducible exact hQ hw4) | (simp (decide := true) only [lpS, lpG, lpB, lpA, lpOk, ↓reduceIte, sw_eq, sw_ne, ne_eq, Nat.reduceEqDiff, not_false_eq_true, Bool.false_eq_true, bi_t, bi_f, c5_1, c30_2, c53_5] at hQ hw4 ⊢; with_reducible exact hQ hw4) | exact absurd (by assumption) (by decide : ¬ (1 : Int32) = 0)
    · refine aj_iconst (q := 34) (v := (-1)) dX7_payForLastPart_33 rfl (by decide) ?_
      refine aj_ireturn dX7_payForLastPart_34 rfl ?_
      skip
      first | contradiction | with_reducible exact hQ hw | (simp (decide := true) only [lpS, lpG, lpB, lpA, lpOk, ↓reduceIte, sw_eq, sw_ne, ne_eq, Nat.reduceEqDiff, not_false_eq_true, Bool.false_eq_true, bi_t, bi_f, c5_1, c30_2] at hQ; with_reducible exact hQ hw) | (simp (decide := true) only [lpS, lpG, lpB, lpA, lpOk, ↓reduceIte, sw_eq, sw_ne, ne_eq, Nat.reduceEqDiff, not_false_eq_true, Bool.false_eq_true, bi_t, bi_f, c5_1, c30_2] at hQ hw ⊢; with_reducible exact hQ hw) | exact absurd (by assumption) (by decide : ¬ (1 : Int32) = 0)
  · refine aj_aload_n (q := 9) (i := 0) dX7_payForLastPart_8 rfl rfl rfl ?_
    refine aj_getR (q := 12) fl_X7_21 dX7_payForLastPart_9 rfl lR_0 rfl ?_
    refine aj_iconst (q := 13) (v := 3) dX7_payForLastPart_12 rfl (by decide) ?_
    refine aj_bipush (q := 15) (v := 10) dX7_payForLastPart_13 rfl (by decide) ?_
    refine aj_callV (q := 18) (As := [_, _]) cl_X7_53 mk_X6_pays dX7_payForLastPart_15 rfl lR_6 rfl rfl (Nat.le_of_ble_eq_true rfl) (sp_X6_pays hw (fun hw7 => ?_))
    refine aj_ifB_eq (q := 21) (tgt := 23) dX7_payForLastPart_18 rfl (by decide) (fun c18_8 => ?_) (fun c18_8 => ?_)
    · refine aj_aload_n (q := 24) (i := 0) dX7_payForLastPart_23 rfl rfl rfl ?_
      refine aj_getR (q := 27) fl_X7_21 dX7_payForLastPart_24 rfl lR_0 rfl ?_
      refine aj_callV (q := 30) (As := []) cl_X7_196 mk_X6_isByReserve dX7_payForLastPart_27 rfl lR_6 rfl rfl (Nat.le_of_ble_eq_true rfl) (sp_X6_isByReserve hw7 ?_)
      refine aj_ifB_eq (q := 33) (tgt := 35) dX7_payForLastPart_30 rfl (by decide) (fun c30_9 => ?_) (fun c30_9 => ?_)
      · refine aj_aload_n (q := 36) (i := 0) dX7_payForLastPart_35 rfl rfl rfl ?_
        refine aj_getR (q := 39) fl_X7_21 dX7_payForLastPart_36 rfl lR_0 rfl ?_
        refine aj_iconst (q := 40) (v := 1) dX7_payForLastPart_39 rfl (by decide) ?_
        refine aj_callV (q := 43) (As := [_]) cl_X7_199 mk_X6_setByReserve dX7_payForLastPart_40 rfl lR_6 rfl rfl (Nat.le_of_ble_eq_true rfl) (sp_X6_setByReserve (by decide) hw7 (fun hw10 => ?_))
        refine aj_aload_n (q := 44) (i := 0) dX7_payForLastPart_43 rfl rfl rfl ?_
        refine aj_getR (q := 47) fl_X7_21 dX7_payForLastPart_44 rfl lR_0 rfl ?_
        refine aj_iconst (q := 48) (v := 3) dX7_payForLastPart_47 rfl (by decide) ?_
        refine aj_bipush (q := 50) (v := 10) dX7_payForLastPart_48 rfl (by decide) ?_
        refine aj_callV (q := 53) (As := [_, _]) cl_X7_53 mk_X6_pays dX7_payForLastPart_50 rfl lR_6 rfl rfl (Nat.le_of_ble_eq_true rfl) (sp_X6_pays hw10 (fun hw11 => ?_))
        refine aj_ifB_eq (q := 56) (tgt := 58) dX7_payForLastPart_53 rfl (by decide) (fun c53_12 => ?_) (fun c53_12 => ?_)
        · refine aj_aload_n (q := 59) (i := 0) dX7_payForLastPart_58 rfl rfl rfl ?_
          refine aj_getR (q := 62) fl_X7_21 dX7_payForLastPart_59 rfl lR_0 rfl ?_
          refine aj_iconst (q := 63) (v := 0) dX7_payForLastPart_62 rfl (by decide) ?_
          refine aj_callV (q := 66) (As := [_]) cl_X7_199 mk_X6_setByReserve dX7_payForLastPart_63 rfl lR_6 rfl rfl (Nat.le_of_ble_eq_true rfl) (sp_X6_setByReserve (by decide) hw11 (fun hw13 => ?_))
          refine aj_iconst (q := 67) (v := (-1)) dX7_payForLastPart_66 rfl (by decide) ?_
          refine aj_ireturn dX7_payForLastPart_67 rfl ?_
          skip
          first | contradiction | with_reducible exact hQ hw13 | (simp (decide := true) only [lpS, lpG, lpB, lpA, lpOk, ↓reduceIte, sw_eq, sw_ne, ne_eq, Nat.reduceEqDiff, not_false_eq_true, Bool.false_eq_true, bi_t, bi_f, c5_1, c18_8, c30_9, c53_12] at hQ; with_reducible exact hQ hw13) | (simp (decide := true) only [lpS, lpG, lpB, lpA, lpOk, ↓reduceIte, sw_eq, sw_ne, ne_eq, Nat.reduceEqDiff, not_false_eq_true, Bool.false_eq_true, bi_t, bi_f, c5_1, c18_8, c30_9, c53_12] at hQ hw13 ⊢; with_reducible exact hQ hw13) | exact absurd (by assumption) (by decide : ¬ (1 : Int32) = 0)
        · refine aj_iconst (q := 57) (v := 3) dX7_payForLastPart_56 rfl (by decide) ?_
          refine aj_ireturn dX7_payForLastPart_57 rfl ?_
          skip
          first | contradiction | with_reducible exact hQ hw11 | (simp (decide := true) only [lpS, lpG, lpB, lpA, lpOk, ↓reduceIte, sw_eq, sw_ne, ne_eq, Nat.reduceEqDiff, not_false_eq_true, Bool.false_eq_true, bi_t, bi_f, c5_1, c18_8, c30_9, c53_12] at hQ; with_reducible exact hQ hw11) | (simp (decide := true) only [lpS, lpG, lpB, lpA, lpOk, ↓reduceIte, sw_eq, sw_ne, ne_eq, Nat.reduceEqDiff, not_false_eq_true, Bool.false_eq_true, bi_t, bi_f, c5_1, c18_8, c30_9, c53_12] at hQ hw11 ⊢; with_reducible exact hQ hw11) | exact absurd (by assumption) (by decide : ¬ (1 : Int32) = 0)
      · refine aj_iconst (q := 34) (v := (-1)) dX7_payForLastPart_33 rfl (by decide) ?_
        refine aj_ireturn dX7_payForLastPart_34 rfl ?_
        skip
        first | contradiction | with_reducible exact hQ hw7 | (simp (decide := true) only [lpS, lpG, lpB, lpA, lpOk, ↓reduceIte, sw_eq, sw_ne, ne_eq, Nat.reduceEqDiff, not_false_eq_true, Bool.false_eq_true, bi_t, bi_f, c5_1, c18_8, c30_9] at hQ; with_reducible exact hQ hw7) | (simp (decide := true) only [lpS, lpG, lpB, lpA, lpOk, ↓reduceIte, sw_eq, sw_ne, ne_eq, Nat.reduceEqDiff, not_false_eq_true, Bool.false_eq_true, bi_t, bi_f, c5_1, c18_8, c30_9] at hQ hw7 ⊢; with_reducible exact hQ hw7) | exact absurd (by assumption) (by decide : ¬ (1 : Int32) = 0)
    · refine aj_iconst (q := 22) (v := 2) dX7_payForLastPart_21 rfl (by decide) ?_
      refine aj_ireturn dX7_payForLastPart_22 rfl ?_
      skip
      first | contradiction | with_reducible exact hQ hw7 | (simp (decide := true) only [lpS, lpG, lpB, lpA, lpOk, ↓reduceIte, sw_eq, sw_ne, ne_eq, Nat.reduceEqDiff, not_false_eq_true, Bool.false_eq_true, bi_t, bi_f, c5_1, c18_8] at hQ; with_reducible exact hQ hw7) | (simp (decide := true) only [lpS, lpG, lpB, lpA, lpOk, ↓reduceIte, sw_eq, sw_ne, ne_eq, Nat.reduceEqDiff, not_false_eq_true, Bool.false_eq_true, bi_t, bi_f, c5_1, c18_8] at hQ hw7 ⊢; with_reducible exact hQ hw7) | exact absurd (by assumption) (by decide : ¬ (1 : Int32) = 0)
set_option maxRecDepth 2000 in
theorem sp_X7_beginLastPart {d : Nat} {S : Sx} {Q : Option Value → Sx → Prop} {s : Int32} (hw : wfR S) (hQ : wfR (rBeginLast S s) → Q none (rBeginLast S s)) : CC (d + 3) kX7_beginLastPart layR [.ref 0, .int s] S Q := by
  refine cc_intro [some _, some _, none] (by decide) (cc_cat (by rfl)) (Nat.le_of_ble_eq_true rfl) (cc_ls (by rfl)) ?_
  refine aj_aload_n (q := 1) (i := 0) dX7_beginLastPart_0 rfl rfl rfl ?_
  refine aj_callV (q := 4) (As := []) cl_X7_189 mk_X7_payForLastPart dX7_beginLastPart_1 rfl lR_0 rfl rfl (Nat.le_of_ble_eq_true rfl) (sp_X7_payForLastPart hw (fun hw1 => ?_))
  refine aj_istore_n (q := 5) (i := 2) (ls' := [_, _, _]) dX7_beginLastPart_4 rfl rfl (by decide) rfl ?_
  refine aj_iload_n (q := 6) (i := 2) dX7_beginLastPart_5 rfl rfl rfl ?_
  refine aj_iconst (q := 7) (v := (-1)) dX7_beginLastPart_6 rfl (by decide) ?_
  refine aj_icmp_ne (q := 10) (tgt := 18) dX7_beginLastPart_7 rfl (by decide) (fun c7_2 => ?_) (fun c7_2 => ?_)
  · refine aj_aload_n (q := 19) (i := 0) dX7_beginLastPart_18 rfl rfl rfl ?_
    refine aj_getR (q := 22) fl_X7_35 dX7_beginLastPart_19 rfl lR_0 rfl ?_
    refine aj_aload_n (q := 23) (i := 0) dX7_beginLastPart_22 rfl rfl rfl ?_
    refine aj_getI (q := 26) (f := 8) fl_X7_61 dX7_beginLastPart_23 rfl lR_0 rfl rfl ?_
    try simp only [sw_eq, sw_ne, ne_eq, Nat.reduceEqDiff, not_false_eq_true]
    refine aj_aload_n (q := 27) (i := 0) dX7_beginLastPart_26 rfl rfl rfl ?_
    refine aj_getI (q := 30) (f := 9) fl_X7_82 dX7_beginLastPart_27 rfl lR_0 rfl rfl ?_
    try simp only [sw_eq, sw_ne, ne_eq, Nat.reduceEqDiff, not_false_eq_true]
    refine aj_aload_n (q := 31) (i := 0) dX7_beginLastPart_30 rfl rfl rfl ?_
    refine aj_getI (q := 34) (f := 10) fl_X7_85 dX7_beginLastPart_31 rfl lR_0 rfl rfl ?_
    try simp only [sw_eq, sw_ne, ne_eq, Nat.reduceEqDiff, not_false_eq_true]
    refine aj_callV (q := 37) (As := [_, _, _]) cl_X7_192 mk_X0_keep dX7_beginLastPart_34 rfl lR_11 rfl rfl (Nat.le_of_ble_eq_true rfl) (sp_X0_keep hw1 (fun hw3 => ?_))
    refine aj_aload_n (q := 38) (i := 0) dX7_beginLastPart_37 rfl rfl rfl ?_
    refine aj_getR (q := 41) fl_X7_21 dX7_beginLastPart_38 rfl lR_0 rfl ?_
    refine aj_iload_n (q := 42) (i := 1) dX7_beginLastPart_41 rfl rfl rfl ?_
    refine aj_callV (q := 45) (As := [_]) cl_X7_184 mk_X6_noteBegun dX7_beginLastPart_42 rfl lR_6 rfl rfl (Nat.le_of_ble_eq_true rfl) (sp_X6_noteBegun hw3 (fun hw4 => ?_))
    refine aj_aload_n (q := 46) (i := 0) dX7_beginLastPart_45 rfl rfl rfl ?_
    refine aj_iload_n (q := 47) (i := 2) dX7_beginLastPart_46 rfl rfl rfl ?_
    refine aj_aload_n (q := 48) (i := 0) dX7_beginLastPart_47 rfl rfl rfl ?_
    refine aj_getR (q := 51) fl_X7_43 dX7_beginLastPart_48 rfl lR_0 rfl ?_
    refine aj_iload_n (q := 52) (i := 1) dX7_beginLastPart_51 rfl rfl rfl ?_
    refine aj_callV (q := 55) (As := [_]) cl_X7_132 mk_X5_secondOf dX7_beginLastPart_52 rfl lR_17 rfl rfl (Nat.le_of_ble_eq_true rfl) (sp_X5_secondOf hw4 ?_)
    refine aj_callV (q := 58) (As := [_, _]) cl_X7_141 mk_X7_doPart dX7_beginLastPart_55 rfl lR_0 rfl rfl (Nat.le_of_ble_eq_true rfl) (sp_X7_doPart hw4 (fun hw5 => ?_))
    refine aj_return dX7_beginLastPart_58 rfl ?_
    skip
    first | contradiction | with_reducible exact hQ hw5 | (simp (decide := true) only [rBeginLast, rLastK, ↓reduceIte, sw_eq, sw_ne, ne_eq, Nat.reduceEqDiff, not_false_eq_true, Bool.false_eq_true, bi_t, bi_f, c7_2] at hQ; with_reducible exact hQ hw5) | (simp (decide := true) only [rBeginLast, rLastK, ↓reduceIte, sw_eq, sw_ne, ne_eq, Nat.reduceEqDiff, not_false_eq_true, Bool.false_eq_true, bi_t, bi_f, c7_2] at hQ hw5 ⊢; with_reducible exact hQ hw5) | exact absurd (by assumption) (by decide : ¬ (1 : Int32) = 0)
  · refine aj_aload_n (q := 11) (i := 0) dX7_beginLastPart_10 rfl rfl rfl ?_
    refine aj_iconst (q := 12) (v := 3) dX7_beginLastPart_11 rfl (by decide) ?_
    refine aj_callV (q := 15) (As := [_]) cl_X7_166 mk_X7_end dX7_beginLastPart_12 rfl lR_0 rfl rfl (Nat.le_of_ble_eq_true rfl) (sp_X7_end hw1 (fun hw6 => ?_))
    refine aj_goto (tgt := 58) dX7_beginLastPart_15 (by decide) ?_
    refine aj_return dX7_beginLastPart_58 rfl ?_
    skip
    first | contradiction | with_reducible exact hQ hw6 | (simp (decide := true) only [rBeginLast, rLastK, ↓reduceIte, sw_eq, sw_ne, ne_eq, Nat.reduceEqDiff, not_false_eq_true, Bool.false_eq_true, bi_t, bi_f, c7_2] at hQ; with_reducible exact hQ hw6) | (simp (decide := true) only [rBeginLast, rLastK, ↓reduceIte, sw_eq, sw_ne, ne_eq, Nat.reduceEqDiff, not_false_eq_true, Bool.false_eq_true, bi_t, bi_f, c7_2] at hQ hw6 ⊢; with_reducible exact hQ hw6) | exact absurd (by assumption) (by decide : ¬ (1 : Int32) = 0)
set_option maxRecDepth 2000 in
theorem sp_X7_endLastPart {d : Nat} {S : Sx} {Q : Option Value → Sx → Prop} (hw : wfR S) (hQ : wfR (rEndLast S) → Q none (rEndLast S)) : CC (d + 1) kX7_endLastPart layR [.ref 0] S Q := by
  refine cc_intro [some _] (by decide) (cc_cat (by rfl)) (Nat.le_of_ble_eq_true rfl) (cc_ls (by rfl)) ?_
  refine aj_aload_n (q := 1) (i := 0) dX7_endLastPart_0 rfl rfl rfl ?_
  refine aj_getR (q := 4) fl_X7_35 dX7_endLastPart_1 rfl lR_0 rfl ?_
  refine aj_callV (q := 7) (As := []) cl_X7_73 mk_X0_stage dX7_endLastPart_4 rfl lR_11 rfl rfl (Nat.le_of_ble_eq_true rfl) (sp_X0_stage hw ?_)
  refine aj_iconst (q := 8) (v := 3) dX7_endLastPart_7 rfl (by decide) ?_
  refine aj_icmp_ne (q := 11) (tgt := 27) dX7_endLastPart_8 rfl (by decide) (fun c8_1 => ?_) (fun c8_1 => ?_)
  · refine aj_aload_n (q := 28) (i := 0) dX7_endLastPart_27 rfl rfl rfl ?_
    refine aj_getI (q := 31) (f := 8) fl_X7_61 dX7_endLastPart_28 rfl lR_0 rfl rfl ?_
    try simp only [sw_eq, sw_ne, ne_eq, Nat.reduceEqDiff, not_false_eq_true]
    refine aj_if_ne (q := 34) (tgt := 67) dX7_endLastPart_31 rfl (by decide) (fun c31_2 => ?_) (fun c31_2 => ?_)
    · refine aj_aload_n (q := 68) (i := 0) dX7_endLastPart_67 rfl rfl rfl ?_
      refine aj_getR (q := 71) fl_X7_35 dX7_endLastPart_68 rfl lR_0 rfl ?_
      refine aj_callV (q := 74) (As := []) cl_X7_181 mk_X0_close dX7_endLastPart_71 rfl lR_11 rfl rfl (Nat.le_of_ble_eq_true rfl) (sp_X0_close hw (fun hw3 => ?_))
      refine aj_return dX7_endLastPart_74 rfl ?_
      skip
      first | contradiction | with_reducible exact hQ hw3 | (simp (decide := true) only [rEndLast, rLastE3, rLastE2, rLastE1, ↓reduceIte, sw_eq, sw_ne, ne_eq, Nat.reduceEqDiff, not_false_eq_true, Bool.false_eq_true, bi_t, bi_f, c8_1, c31_2] at hQ; with_reducible exact hQ hw3) | (simp (decide := true) only [rEndLast, rLastE3, rLastE2, rLastE1, ↓reduceIte, sw_eq, sw_ne, ne_eq, Nat.reduceEqDiff, not_false_eq_true, Bool.false_eq_true, bi_t, bi_f, c8_1, c31_2] at hQ hw3 ⊢; with_reducible exact hQ hw3) | exact absurd (by assumption) (by decide : ¬ (1 : Int32) = 0)
    · refine aj_aload_n (q := 35) (i := 0) dX7_endLastPart_34 rfl rfl rfl ?_
      refine aj_aload_n (q := 36) (i := 0) dX7_endLastPart_35 rfl rfl rfl ?_
      refine aj_getR (q := 39) fl_X7_35 dX7_endLastPart_36 rfl lR_0 rfl ?_
      refine aj_callV (q := 42) (As := []) cl_X7_203 mk_X0_keptEnding dX7_endLastPart_39 rfl lR_11 rfl rfl (Nat.le_of_ble_eq_true rfl) (sp_X0_keptEnding hw ?_)
      refine aj_putIw (q := 45) (f := 8) hw rfl okR fp_X7_61 dX7_endLastPart_42 rfl lR_0 rfl rfl (fun hw4 => ?_)
      refine aj_aload_n (q := 46) (i := 0) dX7_endLastPart_45 rfl rfl rfl ?_
      refine aj_aload_n (q := 47) (i := 0) dX7_endLastPart_46 rfl rfl rfl ?_
      refine aj_getR (q := 50) fl_X7_35 dX7_endLastPart_47 rfl lR_0 rfl ?_
      refine aj_callV (q := 53) (As := []) cl_X7_206 mk_X0_keptKind dX7_endLastPart_50 rfl lR_11 rfl rfl (Nat.le_of_ble_eq_true rfl) (sp_X0_keptKind hw4 ?_)
      refine aj_putIw (q := 56) (f := 9) hw4 rfl okR fp_X7_82 dX7_endLastPart_53 rfl lR_0 rfl rfl (fun hw5 => ?_)
      refine aj_aload_n (q := 57) (i := 0) dX7_endLastPart_56 rfl rfl rfl ?_
      refine aj_aload_n (q := 58) (i := 0) dX7_endLastPart_57 rfl rfl rfl ?_
      refine aj_getR (q := 61) fl_X7_35 dX7_endLastPart_58 rfl lR_0 rfl ?_
      refine aj_callV (q := 64) (As := []) cl_X7_209 mk_X0_keptNumber dX7_endLastPart_61 rfl lR_11 rfl rfl (Nat.le_of_ble_eq_true rfl) (sp_X0_keptNumber hw5 ?_)
      refine aj_putIw (q := 67) (f := 10) hw5 rfl okR fp_X7_85 dX7_endLastPart_64 rfl lR_0 rfl rfl (fun hw6 => ?_)
      refine aj_aload_n (q := 68) (i := 0) dX7_endLastPart_67 rfl rfl rfl ?_
      refine aj_getR (q := 71) fl_X7_35 dX7_endLastPart_68 rfl lR_0 rfl ?_
      refine aj_callV (q := 74) (As := []) cl_X7_181 mk_X0_close dX7_endLastPart_71 rfl lR_11 rfl rfl (Nat.le_of_ble_eq_true rfl) (sp_X0_close hw6 (fun hw7 => ?_))
      refine aj_return dX7_endLastPart_74 rfl ?_
      skip
      first | contradiction | with_reducible exact hQ hw7 | (simp (decide := true) only [rEndLast, rLastE3, rLastE2, rLastE1, ↓reduceIte, sw_eq, sw_ne, ne_eq, Nat.reduceEqDiff, not_false_eq_true, Bool.false_eq_true, bi_t, bi_f, c8_1, c31_2] at hQ; with_reducible exact hQ hw7) | (simp (decide := true) only [rEndLast, rLastE3, rLastE2, rLastE1, ↓reduceIte, sw_eq, sw_ne, ne_eq, Nat.reduceEqDiff, not_false_eq_true, Bool.false_eq_true, bi_t, bi_f, c8_1, c31_2] at hQ hw7 ⊢; with_reducible exact hQ hw7) | exact absurd (by assumption) (by decide : ¬ (1 : Int32) = 0)
  · refine aj_aload_n (q := 12) (i := 0) dX7_endLastPart_11 rfl rfl rfl ?_
    refine aj_getR (q := 15) fl_X7_21 dX7_endLastPart_12 rfl lR_0 rfl ?_
    refine aj_iconst (q := 16) (v := 0) dX7_endLastPart_15 rfl (by decide) ?_
    refine aj_callV (q := 19) (As := [_]) cl_X7_199 mk_X6_setByReserve dX7_endLastPart_16 rfl lR_6 rfl rfl (Nat.le_of_ble_eq_true rfl) (sp_X6_setByReserve (by decide) hw (fun hw8 => ?_))
    refine aj_aload_n (q := 20) (i := 0) dX7_endLastPart_19 rfl rfl rfl ?_
    refine aj_iconst (q := 21) (v := 3) dX7_endLastPart_20 rfl (by decide) ?_
    refine aj_putIw (q := 24) (f := 8) hw8 rfl okR fp_X7_61 dX7_endLastPart_21 rfl lR_0 rfl rfl (fun hw9 => ?_)
    refine aj_goto (tgt := 67) dX7_endLastPart_24 (by decide) ?_
    refine aj_aload_n (q := 68) (i := 0) dX7_endLastPart_67 rfl rfl rfl ?_
    refine aj_getR (q := 71) fl_X7_35 dX7_endLastPart_68 rfl lR_0 rfl ?_
    refine aj_callV (q := 74) (As := []) cl_X7_181 mk_X0_close dX7_endLastPart_71 rfl lR_11 rfl rfl (Nat.le_of_ble_eq_true rfl) (sp_X0_close hw9 (fun hw10 => ?_))
    refine aj_return dX7_endLastPart_74 rfl ?_
    skip
    first | contradiction | with_reducible exact hQ hw10 | (simp (decide := true) only [rEndLast, rLastE3, rLastE2, rLastE1, ↓reduceIte, sw_eq, sw_ne, ne_eq, Nat.reduceEqDiff, not_false_eq_true, Bool.false_eq_true, bi_t, bi_f, c8_1] at hQ; with_reducible exact hQ hw10) | (simp (decide := true) only [rEndLast, rLastE3, rLastE2, rLastE1, ↓reduceIte, sw_eq, sw_ne, ne_eq, Nat.reduceEqDiff, not_false_eq_true, Bool.false_eq_true, bi_t, bi_f, c8_1] at hQ hw10 ⊢; with_reducible exact hQ hw10) | exact absurd (by assumption) (by decide : ¬ (1 : Int32) = 0)
set_option maxRecDepth 2000 in
theorem sp_X7_goOn {d : Nat} {S : Sx} {Q : Option Value → Sx → Prop} {s : Int32} (hw : wfR S) (hQ : wfR (rGoOn S s) → Q none (rGoOn S s)) : CC (d + 4) kX7_goOn layR [.ref 0, .int s] S Q := by
  refine cc_intro [some _, some _] (by decide) (cc_cat (by rfl)) (Nat.le_of_ble_eq_true rfl) (cc_ls (by rfl)) ?_
  refine aj_aload_n (q := 1) (i := 0) dX7_goOn_0 rfl rfl rfl ?_
  refine aj_getR (q := 4) fl_X7_43 dX7_goOn_1 rfl lR_0 rfl ?_
  refine aj_iload_n (q := 5) (i := 1) dX7_goOn_4 rfl rfl rfl ?_
  refine aj_callV (q := 8) (As := [_]) cl_X7_138 mk_X5_sortOf dX7_goOn_5 rfl lR_17 rfl rfl (Nat.le_of_ble_eq_true rfl) (sp_X5_sortOf hw ?_)
  refine aj_tsn (fun x1 ex1 => ?_)
  by_cases e1_12 : x1 = 12
  · refine aj_tsIn (tgt := 60) (off := 52) dX7_goOn_8 (by rw [e1_12]; decide) (by rw [e1_12]; decide) (by rw [e1_12]; rfl) (by decide) ?_
    refine aj_aload_n (q := 61) (i := 0) dX7_goOn_60 rfl rfl rfl ?_
    refine aj_iload_n (q := 62) (i := 1) dX7_goOn_61 rfl rfl rfl ?_
    refine aj_callV (q := 65) (As := [_]) cl_X7_160 mk_X7_goOnWithBoth dX7_goOn_62 rfl lR_0 rfl rfl (Nat.le_of_ble_eq_true rfl) (sp_X7_goOnWithBoth hw (fun hw2 => ?_))
    refine aj_goto (tgt := 175) dX7_goOn_65 (by decide) ?_
    refine aj_return dX7_goOn_175 rfl ?_
    skip; subst ex1
    first | contradiction | with_reducible exact hQ hw2 | (simp (decide := true) only [rGoOn, ↓reduceIte, sw_eq, sw_ne, ne_eq, Nat.reduceEqDiff, not_false_eq_true, Bool.false_eq_true, bi_t, bi_f, e1_12] at hQ; with_reducible exact hQ hw2) | (simp (decide := true) only [rGoOn, ↓reduceIte, sw_eq, sw_ne, ne_eq, Nat.reduceEqDiff, not_false_eq_true, Bool.false_eq_true, bi_t, bi_f, e1_12] at hQ hw2 ⊢; with_reducible exact hQ hw2) | exact absurd (by assumption) (by decide : ¬ (1 : Int32) = 0)
  by_cases e1_14 : x1 = 14
  · refine aj_tsIn (tgt := 68) (off := 60) dX7_goOn_8 (by rw [e1_14]; decide) (by rw [e1_14]; decide) (by rw [e1_14]; rfl) (by decide) ?_
    refine aj_aload_n (q := 69) (i := 0) dX7_goOn_68 rfl rfl rfl ?_
    refine aj_iload_n (q := 70) (i := 1) dX7_goOn_69 rfl rfl rfl ?_
    refine aj_callV (q := 73) (As := [_]) cl_X7_163 mk_X7_goOnWithLoop dX7_goOn_70 rfl lR_0 rfl rfl (Nat.le_of_ble_eq_true rfl) (sp_X7_goOnWithLoop hw (fun hw3 => ?_))
    refine aj_goto (tgt := 175) dX7_goOn_73 (by decide) ?_
    refine aj_return dX7_goOn_175 rfl ?_
    skip; subst ex1
    first | contradiction | with_reducible exact hQ hw3 | (simp (decide := true) only [rGoOn, ↓reduceIte, sw_eq, sw_ne, ne_eq, Nat.reduceEqDiff, not_false_eq_true, Bool.false_eq_true, bi_t, bi_f, e1_14] at hQ; with_reducible exact hQ hw3) | (simp (decide := true) only [rGoOn, ↓reduceIte, sw_eq, sw_ne, ne_eq, Nat.reduceEqDiff, not_false_eq_true, Bool.false_eq_true, bi_t, bi_f, e1_14] at hQ hw3 ⊢; with_reducible exact hQ hw3) | exact absurd (by assumption) (by decide : ¬ (1 : Int32) = 0)
  by_cases e1_15 : x1 = 15
  · refine aj_tsIn (tgt := 76) (off := 68) dX7_goOn_8 (by rw [e1_15]; decide) (by rw [e1_15]; decide) (by rw [e1_15]; rfl) (by decide) ?_
    refine aj_aload_n (q := 77) (i := 0) dX7_goOn_76 rfl rfl rfl ?_
    refine aj_dup (q := 78) dX7_goOn_77 rfl rfl ?_
    refine aj_getI (q := 81) (f := 6) fl_X7_124 dX7_goOn_78 rfl lR_0 rfl rfl ?_
    try simp only [sw_eq, sw_ne, ne_eq, Nat.reduceEqDiff, not_false_eq_true]
    refine aj_iconst (q := 82) (v := 1) dX7_goOn_81 rfl (by decide) ?_
    refine aj_isub (q := 83) dX7_goOn_82 rfl ?_
    refine aj_putIw (q := 86) (f := 6) hw rfl okR fp_X7_124 dX7_goOn_83 rfl lR_0 rfl rfl (fun hw4 => ?_)
    refine aj_aload_n (q := 87) (i := 0) dX7_goOn_86 rfl rfl rfl ?_
    refine aj_aload_n (q := 88) (i := 0) dX7_goOn_87 rfl rfl rfl ?_
    refine aj_getI (q := 91) (f := 8) fl_X7_61 dX7_goOn_88 rfl lR_0 rfl rfl ?_
    try simp only [sw_eq, sw_ne, ne_eq, Nat.reduceEqDiff, not_false_eq_true]
    refine aj_iconst (q := 92) (v := 1) dX7_goOn_91 rfl (by decide) ?_
    refine aj_icmp_ne (q := 95) (tgt := 99) dX7_goOn_92 rfl (by decide) (fun c92_5 => ?_) (fun c92_5 => ?_)
    · refine aj_aload_n (q := 100) (i := 0) dX7_goOn_99 rfl rfl rfl ?_
      refine aj_getI (q := 103) (f := 8) fl_X7_61 dX7_goOn_100 rfl lR_0 rfl rfl ?_
      try simp only [sw_eq, sw_ne, ne_eq, Nat.reduceEqDiff, not_false_eq_true]
      refine aj_callV (q := 106) (As := [_]) cl_X7_166 mk_X7_end dX7_goOn_103 rfl lR_0 rfl rfl (Nat.le_of_ble_eq_true rfl) (sp_X7_end hw4 (fun hw6 => ?_))
      refine aj_goto (tgt := 175) dX7_goOn_106 (by decide) ?_
      refine aj_return dX7_goOn_175 rfl ?_
      skip; subst ex1
      first | contradiction | with_reducible exact hQ hw6 | (simp (decide := true) only [rGoOn, ↓reduceIte, sw_eq, sw_ne, ne_eq, Nat.reduceEqDiff, not_false_eq_true, Bool.false_eq_true, bi_t, bi_f, e1_15, c92_5] at hQ; with_reducible exact hQ hw6) | (simp (decide := true) only [rGoOn, ↓reduceIte, sw_eq, sw_ne, ne_eq, Nat.reduceEqDiff, not_false_eq_true, Bool.false_eq_true, bi_t, bi_f, e1_15, c92_5] at hQ hw6 ⊢; with_reducible exact hQ hw6) | exact absurd (by assumption) (by decide : ¬ (1 : Int32) = 0)
    · refine aj_iconst (q := 96) (v := 0) dX7_goOn_95 rfl (by decide) ?_
      refine aj_goto (tgt := 103) dX7_goOn_96 (by decide) ?_
      refine aj_callV (q := 106) (As := [_]) cl_X7_166 mk_X7_end dX7_goOn_103 rfl lR_0 rfl rfl (Nat.le_of_ble_eq_true rfl) (sp_X7_end hw4 (fun hw7 => ?_))
      refine aj_goto (tgt := 175) dX7_goOn_106 (by decide) ?_
      refine aj_return dX7_goOn_175 rfl ?_
      skip; subst ex1
      first | contradiction | with_reducible exact hQ hw7 | (simp (decide := true) only [rGoOn, ↓reduceIte, sw_eq, sw_ne, ne_eq, Nat.reduceEqDiff, not_false_eq_true, Bool.false_eq_true, bi_t, bi_f, e1_15, c92_5] at hQ; with_reducible exact hQ hw7) | (simp (decide := true) only [rGoOn, ↓reduceIte, sw_eq, sw_ne, ne_eq, Nat.reduceEqDiff, not_false_eq_true, Bool.false_eq_true, bi_t, bi_f, e1_15, c92_5] at hQ hw7 ⊢; with_reducible exact hQ hw7) | exact absurd (by assumption) (by decide : ¬ (1 : Int32) = 0)
  by_cases e1_18 : x1 = 18
  · refine aj_tsIn (tgt := 109) (off := 101) dX7_goOn_8 (by rw [e1_18]; decide) (by rw [e1_18]; decide) (by rw [e1_18]; rfl) (by decide) ?_
    refine aj_aload_n (q := 110) (i := 0) dX7_goOn_109 rfl rfl rfl ?_
    refine aj_iload_n (q := 111) (i := 1) dX7_goOn_110 rfl rfl rfl ?_
    refine aj_callV (q := 114) (As := [_]) cl_X7_169 mk_X7_goOnWithTry dX7_goOn_111 rfl lR_0 rfl rfl (Nat.le_of_ble_eq_true rfl) (sp_X7_goOnWithTry hw (fun hw8 => ?_))
    refine aj_goto (tgt := 175) dX7_goOn_114 (by decide) ?_
    refine aj_return dX7_goOn_175 rfl ?_
    skip; subst ex1
    first | contradiction | with_reducible exact hQ hw8 | (simp (decide := true) only [rGoOn, ↓reduceIte, sw_eq, sw_ne, ne_eq, Nat.reduceEqDiff, not_false_eq_true, Bool.false_eq_true, bi_t, bi_f, e1_18] at hQ; with_reducible exact hQ hw8) | (simp (decide := true) only [rGoOn, ↓reduceIte, sw_eq, sw_ne, ne_eq, Nat.reduceEqDiff, not_false_eq_true, Bool.false_eq_true, bi_t, bi_f, e1_18] at hQ hw8 ⊢; with_reducible exact hQ hw8) | exact absurd (by assumption) (by decide : ¬ (1 : Int32) = 0)
  by_cases e1_19 : x1 = 19
  · refine aj_tsIn (tgt := 117) (off := 109) dX7_goOn_8 (by rw [e1_19]; decide) (by rw [e1_19]; decide) (by rw [e1_19]; rfl) (by decide) ?_
    refine aj_aload_n (q := 118) (i := 0) dX7_goOn_117 rfl rfl rfl ?_
    refine aj_getR (q := 121) fl_X7_35 dX7_goOn_118 rfl lR_0 rfl ?_
    refine aj_callV (q := 124) (As := []) cl_X7_73 mk_X0_stage dX7_goOn_121 rfl lR_11 rfl rfl (Nat.le_of_ble_eq_true rfl) (sp_X0_stage hw ?_)
    refine aj_iconst (q := 125) (v := 1) dX7_goOn_124 rfl (by decide) ?_
    refine aj_icmp_ne (q := 128) (tgt := 136) dX7_goOn_125 rfl (by decide) (fun c125_9 => ?_) (fun c125_9 => ?_)
    · refine aj_aload_n (q := 137) (i := 0) dX7_goOn_136 rfl rfl rfl ?_
      refine aj_callV (q := 140) (As := []) cl_X7_175 mk_X7_endLastPart dX7_goOn_137 rfl lR_0 rfl rfl (Nat.le_of_ble_eq_true rfl) (sp_X7_endLastPart hw (fun hw10 => ?_))
      refine aj_goto (tgt := 175) dX7_goOn_140 (by decide) ?_
      refine aj_return dX7_goOn_175 rfl ?_
      skip; subst ex1
      first | contradiction | with_reducible exact hQ hw10 | (simp (decide := true) only [rGoOn, ↓reduceIte, sw_eq, sw_ne, ne_eq, Nat.reduceEqDiff, not_false_eq_true, Bool.false_eq_true, bi_t, bi_f, e1_19, c125_9] at hQ; with_reducible exact hQ hw10) | (simp (decide := true) only [rGoOn, ↓reduceIte, sw_eq, sw_ne, ne_eq, Nat.reduceEqDiff, not_false_eq_true, Bool.false_eq_true, bi_t, bi_f, e1_19, c125_9] at hQ hw10 ⊢; with_reducible exact hQ hw10) | exact absurd (by assumption) (by decide : ¬ (1 : Int32) = 0)
    · refine aj_aload_n (q := 129) (i := 0) dX7_goOn_128 rfl rfl rfl ?_
      refine aj_iload_n (q := 130) (i := 1) dX7_goOn_129 rfl rfl rfl ?_
      refine aj_callV (q := 133) (As := [_]) cl_X7_172 mk_X7_beginLastPart dX7_goOn_130 rfl lR_0 rfl rfl (Nat.le_of_ble_eq_true rfl) (sp_X7_beginLastPart hw (fun hw11 => ?_))
      refine aj_goto (tgt := 175) dX7_goOn_133 (by decide) ?_
      refine aj_return dX7_goOn_175 rfl ?_
      skip; subst ex1
      first | contradiction | with_reducible exact hQ hw11 | (simp (decide := true) only [rGoOn, ↓reduceIte, sw_eq, sw_ne, ne_eq, Nat.reduceEqDiff, not_false_eq_true, Bool.false_eq_true, bi_t, bi_f, e1_19, c125_9] at hQ; with_reducible exact hQ hw11) | (simp (decide := true) only [rGoOn, ↓reduceIte, sw_eq, sw_ne, ne_eq, Nat.reduceEqDiff, not_false_eq_true, Bool.false_eq_true, bi_t, bi_f, e1_19, c125_9] at hQ hw11 ⊢; with_reducible exact hQ hw11) | exact absurd (by assumption) (by decide : ¬ (1 : Int32) = 0)
  by_cases e1_20 : x1 = 20
  · refine aj_tsIn (tgt := 143) (off := 135) dX7_goOn_8 (by rw [e1_20]; decide) (by rw [e1_20]; decide) (by rw [e1_20]; rfl) (by decide) ?_
    refine aj_aload_n (q := 144) (i := 0) dX7_goOn_143 rfl rfl rfl ?_
    refine aj_getR (q := 147) fl_X7_28 dX7_goOn_144 rfl lR_0 rfl ?_
    refine aj_aload_n (q := 148) (i := 0) dX7_goOn_147 rfl rfl rfl ?_
    refine aj_getR (q := 151) fl_X7_43 dX7_goOn_148 rfl lR_0 rfl ?_
    refine aj_iload_n (q := 152) (i := 1) dX7_goOn_151 rfl rfl rfl ?_
    refine aj_callV (q := 155) (As := [_]) cl_X7_127 mk_X5_firstOf dX7_goOn_152 rfl lR_17 rfl rfl (Nat.le_of_ble_eq_true rfl) (sp_X5_firstOf hw ?_)
    refine aj_callV (q := 158) (As := [_]) cl_X7_178 mk_X2_free dX7_goOn_155 rfl lR_9 rfl rfl (Nat.le_of_ble_eq_true rfl) (sp_X2_free hw (fun hw12 => ?_))
    refine aj_aload_n (q := 159) (i := 0) dX7_goOn_158 rfl rfl rfl ?_
    refine aj_getR (q := 162) fl_X7_35 dX7_goOn_159 rfl lR_0 rfl ?_
    refine aj_callV (q := 165) (As := []) cl_X7_181 mk_X0_close dX7_goOn_162 rfl lR_11 rfl rfl (Nat.le_of_ble_eq_true rfl) (sp_X0_close hw12 (fun hw13 => ?_))
    refine aj_goto (tgt := 175) dX7_goOn_165 (by decide) ?_
    refine aj_return dX7_goOn_175 rfl ?_
    skip; subst ex1
    first | contradiction | with_reducible exact hQ hw13 | (simp (decide := true) only [rGoOn, ↓reduceIte, sw_eq, sw_ne, ne_eq, Nat.reduceEqDiff, not_false_eq_true, Bool.false_eq_true, bi_t, bi_f, e1_20] at hQ; with_reducible exact hQ hw13) | (simp (decide := true) only [rGoOn, ↓reduceIte, sw_eq, sw_ne, ne_eq, Nat.reduceEqDiff, not_false_eq_true, Bool.false_eq_true, bi_t, bi_f, e1_20] at hQ hw13 ⊢; with_reducible exact hQ hw13) | exact absurd (by assumption) (by decide : ¬ (1 : Int32) = 0)
  by_cases e1_13 : x1 = 13
  · refine aj_tsIn (tgt := 168) (off := 160) dX7_goOn_8 (by rw [e1_13]; decide) (by rw [e1_13]; decide) (by rw [e1_13]; rfl) (by decide) ?_
    refine aj_aload_n (q := 169) (i := 0) dX7_goOn_168 rfl rfl rfl ?_
    refine aj_getR (q := 172) fl_X7_35 dX7_goOn_169 rfl lR_0 rfl ?_
    refine aj_callV (q := 175) (As := []) cl_X7_181 mk_X0_close dX7_goOn_172 rfl lR_11 rfl rfl (Nat.le_of_ble_eq_true rfl) (sp_X0_close hw (fun hw14 => ?_))
    refine aj_return dX7_goOn_175 rfl ?_
    skip; subst ex1
    first | contradiction | with_reducible exact hQ hw14 | (simp (decide := true) only [rGoOn, ↓reduceIte, sw_eq, sw_ne, ne_eq, Nat.reduceEqDiff, not_false_eq_true, Bool.false_eq_true, bi_t, bi_f, e1_13] at hQ; with_reducible exact hQ hw14) | (simp (decide := true) only [rGoOn, ↓reduceIte, sw_eq, sw_ne, ne_eq, Nat.reduceEqDiff, not_false_eq_true, Bool.false_eq_true, bi_t, bi_f, e1_13] at hQ hw14 ⊢; with_reducible exact hQ hw14) | exact absurd (by assumption) (by decide : ¬ (1 : Int32) = 0)
  by_cases e1_16 : x1 = 16
  · refine aj_tsIn (tgt := 168) (off := 160) dX7_goOn_8 (by rw [e1_16]; decide) (by rw [e1_16]; decide) (by rw [e1_16]; rfl) (by decide) ?_
    refine aj_aload_n (q := 169) (i := 0) dX7_goOn_168 rfl rfl rfl ?_
    refine aj_getR (q := 172) fl_X7_35 dX7_goOn_169 rfl lR_0 rfl ?_
    refine aj_callV (q := 175) (As := []) cl_X7_181 mk_X0_close dX7_goOn_172 rfl lR_11 rfl rfl (Nat.le_of_ble_eq_true rfl) (sp_X0_close hw (fun hw15 => ?_))
    refine aj_return dX7_goOn_175 rfl ?_
    skip; subst ex1
    first | contradiction | with_reducible exact hQ hw15 | (simp (decide := true) only [rGoOn, ↓reduceIte, sw_eq, sw_ne, ne_eq, Nat.reduceEqDiff, not_false_eq_true, Bool.false_eq_true, bi_t, bi_f, e1_16] at hQ; with_reducible exact hQ hw15) | (simp (decide := true) only [rGoOn, ↓reduceIte, sw_eq, sw_ne, ne_eq, Nat.reduceEqDiff, not_false_eq_true, Bool.false_eq_true, bi_t, bi_f, e1_16] at hQ hw15 ⊢; with_reducible exact hQ hw15) | exact absurd (by assumption) (by decide : ¬ (1 : Int32) = 0)
  by_cases e1_17 : x1 = 17
  · refine aj_tsIn (tgt := 168) (off := 160) dX7_goOn_8 (by rw [e1_17]; decide) (by rw [e1_17]; decide) (by rw [e1_17]; rfl) (by decide) ?_
    refine aj_aload_n (q := 169) (i := 0) dX7_goOn_168 rfl rfl rfl ?_
    refine aj_getR (q := 172) fl_X7_35 dX7_goOn_169 rfl lR_0 rfl ?_
    refine aj_callV (q := 175) (As := []) cl_X7_181 mk_X0_close dX7_goOn_172 rfl lR_11 rfl rfl (Nat.le_of_ble_eq_true rfl) (sp_X0_close hw (fun hw16 => ?_))
    refine aj_return dX7_goOn_175 rfl ?_
    skip; subst ex1
    first | contradiction | with_reducible exact hQ hw16 | (simp (decide := true) only [rGoOn, ↓reduceIte, sw_eq, sw_ne, ne_eq, Nat.reduceEqDiff, not_false_eq_true, Bool.false_eq_true, bi_t, bi_f, e1_17] at hQ; with_reducible exact hQ hw16) | (simp (decide := true) only [rGoOn, ↓reduceIte, sw_eq, sw_ne, ne_eq, Nat.reduceEqDiff, not_false_eq_true, Bool.false_eq_true, bi_t, bi_f, e1_17] at hQ hw16 ⊢; with_reducible exact hQ hw16) | exact absurd (by assumption) (by decide : ¬ (1 : Int32) = 0)
  refine aj_tsOut (tgt := 168) dX7_goOn_8 (by have := And.intro trivial trivial; have z0 := lv_neT (a := 12) e1_12 rfl; have z1 := lv_neT (a := 13) e1_13 rfl; have z2 := lv_neT (a := 14) e1_14 rfl; have z3 := lv_neT (a := 15) e1_15 rfl; have z4 := lv_neT (a := 16) e1_16 rfl; have z5 := lv_neT (a := 17) e1_17 rfl; have z6 := lv_neT (a := 18) e1_18 rfl; have z7 := lv_neT (a := 19) e1_19 rfl; have z8 := lv_neT (a := 20) e1_20 rfl; omega) (by decide) ?_
  refine aj_aload_n (q := 169) (i := 0) dX7_goOn_168 rfl rfl rfl ?_
  refine aj_getR (q := 172) fl_X7_35 dX7_goOn_169 rfl lR_0 rfl ?_
  refine aj_callV (q := 175) (As := []) cl_X7_181 mk_X0_close dX7_goOn_172 rfl lR_11 rfl rfl (Nat.le_of_ble_eq_true rfl) (sp_X0_close hw (fun hw17 => ?_))
  refine aj_return dX7_goOn_175 rfl ?_
  skip; subst ex1
  first | contradiction | with_reducible exact hQ hw17 | (simp (decide := true) only [rGoOn, ↓reduceIte, sw_eq, sw_ne, ne_eq, Nat.reduceEqDiff, not_false_eq_true, Bool.false_eq_true, bi_t, bi_f, e1_12, e1_13, e1_14, e1_15, e1_16, e1_17, e1_18, e1_19, e1_20] at hQ; with_reducible exact hQ hw17) | (simp (decide := true) only [rGoOn, ↓reduceIte, sw_eq, sw_ne, ne_eq, Nat.reduceEqDiff, not_false_eq_true, Bool.false_eq_true, bi_t, bi_f, e1_12, e1_13, e1_14, e1_15, e1_16, e1_17, e1_18, e1_19, e1_20] at hQ hw17 ⊢; with_reducible exact hQ hw17) | exact absurd (by assumption) (by decide : ¬ (1 : Int32) = 0)
set_option maxRecDepth 2000 in
theorem sp_X7_clear {d : Nat} {S : Sx} {Q : Option Value → Sx → Prop} {x b : Int32} (hw : wfR S) (hQ : wfR (rClear S x b) → Q none (rClear S x b)) : CC (d + 2) kX7_clear layR [.ref 0, .int x, .int b] S Q := by
  refine cc_intro [some _, some _, some _] (by decide) (cc_cat (by rfl)) (Nat.le_of_ble_eq_true rfl) (cc_ls (by rfl)) ?_
  refine aj_aload_n (q := 1) (i := 0) dX7_clear_0 rfl rfl rfl ?_
  refine aj_getR (q := 4) fl_X7_12 dX7_clear_1 rfl lR_0 rfl ?_
  refine aj_callV (q := 7) (As := []) cl_X7_114 mk_X4_clear dX7_clear_4 rfl lR_1 rfl rfl (Nat.le_of_ble_eq_true rfl) (sp_X4_clear hw (fun hw1 => ?_))
  refine aj_aload_n (q := 8) (i := 0) dX7_clear_7 rfl rfl rfl ?_
  refine aj_getR (q := 11) fl_X7_12 dX7_clear_8 rfl lR_0 rfl ?_
  refine aj_iconst (q := 12) (v := 0) dX7_clear_11 rfl (by decide) ?_
  refine aj_iload_n (q := 13) (i := 1) dX7_clear_12 rfl rfl rfl ?_
  refine aj_callV (q := 16) (As := [_, _]) cl_X7_116 mk_X4_write dX7_clear_13 rfl lR_1 rfl rfl (Nat.le_of_ble_eq_true rfl) (sp_X4_write hw1 (fun hw2 => ?_))
  refine aj_aload_n (q := 17) (i := 0) dX7_clear_16 rfl rfl rfl ?_
  refine aj_getR (q := 20) fl_X7_21 dX7_clear_17 rfl lR_0 rfl ?_
  refine aj_iload_n (q := 21) (i := 2) dX7_clear_20 rfl rfl rfl ?_
  refine aj_callV (q := 24) (As := [_]) cl_X7_119 mk_X6_fill dX7_clear_21 rfl lR_6 rfl rfl (Nat.le_of_ble_eq_true rfl) (sp_X6_fill hw2 (fun hw3 => ?_))
  refine aj_aload_n (q := 25) (i := 0) dX7_clear_24 rfl rfl rfl ?_
  refine aj_getR (q := 28) fl_X7_28 dX7_clear_25 rfl lR_0 rfl ?_
  refine aj_callV (q := 31) (As := []) cl_X7_122 mk_X2_clear dX7_clear_28 rfl lR_9 rfl rfl (Nat.le_of_ble_eq_true rfl) (sp_X2_clear hw3 (fun hw4 => ?_))
  refine aj_aload_n (q := 32) (i := 0) dX7_clear_31 rfl rfl rfl ?_
  refine aj_getR (q := 35) fl_X7_35 dX7_clear_32 rfl lR_0 rfl ?_
  refine aj_callV (q := 38) (As := []) cl_X7_123 mk_X0_clear dX7_clear_35 rfl lR_11 rfl rfl (Nat.le_of_ble_eq_true rfl) (sp_X0_clear hw4 (fun hw5 => ?_))
  refine aj_aload_n (q := 39) (i := 0) dX7_clear_38 rfl rfl rfl ?_
  refine aj_iconst (q := 40) (v := 0) dX7_clear_39 rfl (by decide) ?_
  refine aj_putIw (q := 43) (f := 6) hw5 rfl okR fp_X7_124 dX7_clear_40 rfl lR_0 rfl rfl (fun hw6 => ?_)
  refine aj_aload_n (q := 44) (i := 0) dX7_clear_43 rfl rfl rfl ?_
  refine aj_iconst (q := 45) (v := 0) dX7_clear_44 rfl (by decide) ?_
  refine aj_putIw (q := 48) (f := 7) hw6 rfl okR fp_X7_97 dX7_clear_45 rfl lR_0 rfl rfl (fun hw7 => ?_)
  refine aj_aload_n (q := 49) (i := 0) dX7_clear_48 rfl rfl rfl ?_
  refine aj_iconst (q := 50) (v := 0) dX7_clear_49 rfl (by decide) ?_
  refine aj_putIw (q := 53) (f := 8) hw7 rfl okR fp_X7_61 dX7_clear_50 rfl lR_0 rfl rfl (fun hw8 => ?_)
  refine aj_aload_n (q := 54) (i := 0) dX7_clear_53 rfl rfl rfl ?_
  refine aj_iconst (q := 55) (v := 0) dX7_clear_54 rfl (by decide) ?_
  refine aj_putIw (q := 58) (f := 9) hw8 rfl okR fp_X7_82 dX7_clear_55 rfl lR_0 rfl rfl (fun hw9 => ?_)
  refine aj_aload_n (q := 59) (i := 0) dX7_clear_58 rfl rfl rfl ?_
  refine aj_iconst (q := 60) (v := 0) dX7_clear_59 rfl (by decide) ?_
  refine aj_putIw (q := 63) (f := 10) hw9 rfl okR fp_X7_85 dX7_clear_60 rfl lR_0 rfl rfl (fun hw10 => ?_)
  refine aj_return dX7_clear_63 rfl ?_
  skip
  first | contradiction | with_reducible exact hQ hw10 | (simp (decide := true) only [rClear, ↓reduceIte, sw_eq, sw_ne, ne_eq, Nat.reduceEqDiff, not_false_eq_true, Bool.false_eq_true, bi_t, bi_f, ] at hQ; with_reducible exact hQ hw10) | (simp (decide := true) only [rClear, ↓reduceIte, sw_eq, sw_ne, ne_eq, Nat.reduceEqDiff, not_false_eq_true, Bool.false_eq_true, bi_t, bi_f, ] at hQ hw10 ⊢; with_reducible exact hQ hw10) | exact absurd (by assumption) (by decide : ¬ (1 : Int32) = 0)
