/-- n turns of the run's loop -/
def rIt : Nat → Sx → Sx
  | 0, S => S
  | n + 1, S => rIt n (rStep S)
def rStart (S : Sx) (body x b : Int32) : Sx := if pOk (rClear S x b) 1 2 then rEnter (pPay (rClear S x b) 1 2) body else sw (pPay (rClear S x b) 1 2) 8 0 3
def rFin (S : Sx) : Sx := sw S 5 0 (S 8 0)
theorem perf_end {d : Nat} {S : Sx} {Q : Option Value → Sx → Prop} {ls : AL} (hl : ls[0]? = some (some (.ref 0))) (hw : wfR S) (hQ : wfR (rFin S) → Q (some (.int (S 8 0))) (rFin S)) : AJ (d + 6) kX7_perform layR 91 ls [] S Q := by
  refine aj_aload_n (q := 92) (i := 0) dX7_perform_91 rfl rfl hl ?_
  refine aj_aload_n (q := 93) (i := 0) dX7_perform_92 rfl rfl hl ?_
  refine aj_getI (q := 96) (f := 8) fl_X7_61 dX7_perform_93 rfl lR_0 rfl rfl ?_
  refine aj_putIw (q := 99) (f := 5) hw rfl okR fp_X7_39 dX7_perform_96 rfl lR_0 rfl rfl (fun hw1 => ?_)
  refine aj_aload_n (q := 100) (i := 0) dX7_perform_99 rfl rfl hl ?_
  refine aj_getI (q := 103) (f := 5) fl_X7_39 dX7_perform_100 rfl lR_0 rfl rfl ?_
  simp only [sw_eq]
  refine aj_ireturn dX7_perform_103 rfl ?_
  exact hQ hw1
theorem perf_loop {d : Nat} {Q : Option Value → Sx → Prop} {a b c : Value} : ∀ (j t : Nat) (z : Option Value) (S : Sx), t + j ≤ 1000000000 → (∀ i, i < j → fEmpty (rIt i S) = false) → fEmpty (rIt j S) = true → wfR S → (wfR (rFin (rIt j S)) → Q (some (.int (rIt j S 8 0))) (rFin (rIt j S))) → AJ (d + 6) kX7_perform layR 34 [some (.ref 0), some a, some b, some c, some (.int (nI t)), z] [] S Q := by
  intro j
  induction j with
  | zero =>
    intro t z S ht h0 h1 hw hQ
    have h1 : fEmpty S = true := h1
    refine aj_iload (q := 36) (i := 4) dX7_perform_34 rfl rfl ?_
    refine aj_ldc (q := 38) dX7_perform_36 rfl cn_X7_64 ?_
    refine aj_icmp_ge (q := 41) (tgt := 91) dX7_perform_38 rfl (by decide) (fun c38 => ?_) (fun c38 => ?_)
    · exact perf_end rfl hw hQ
    · refine aj_aload_n (q := 42) (i := 0) dX7_perform_41 rfl rfl rfl ?_
      refine aj_getR (q := 45) fl_X7_35 dX7_perform_42 rfl lR_0 rfl ?_
      refine aj_callV (q := 48) (As := []) cl_X7_65 mk_X0_isEmpty dX7_perform_45 rfl lR_11 rfl rfl (Nat.le_of_ble_eq_true rfl) (sp_X0_isEmpty hw ?_)
      refine aj_ifB_ne (q := 51) (tgt := 91) dX7_perform_48 rfl (by decide) (fun c48 => ?_) (fun c48 => ?_)
      · exact perf_end rfl hw hQ
      · rw [h1] at c48; cases c48
  | succ j ih =>
    intro t z S ht h0 h1 hw hQ
    have h00 : fEmpty S = false := h0 0 (by omega)
    refine aj_iload (q := 36) (i := 4) dX7_perform_34 rfl rfl ?_
    refine aj_ldc (q := 38) dX7_perform_36 rfl cn_X7_64 ?_
    refine aj_icmp_ge (q := 41) (tgt := 91) dX7_perform_38 rfl (by decide) (fun c38 => absurd (show nI 1000000000 ≤ nI t from c38) (nI_ge (by omega) (by omega))) (fun c38 => ?_)
    refine aj_aload_n (q := 42) (i := 0) dX7_perform_41 rfl rfl rfl ?_
    refine aj_getR (q := 45) fl_X7_35 dX7_perform_42 rfl lR_0 rfl ?_
    refine aj_callV (q := 48) (As := []) cl_X7_65 mk_X0_isEmpty dX7_perform_45 rfl lR_11 rfl rfl (Nat.le_of_ble_eq_true rfl) (sp_X0_isEmpty hw ?_)
    refine aj_ifB_ne (q := 51) (tgt := 91) dX7_perform_48 rfl (by decide) (fun c48 => ?_) (fun c48 => ?_)
    · rw [h00] at c48; cases c48
    refine aj_aload_n (q := 52) (i := 0) dX7_perform_51 rfl rfl rfl ?_
    refine aj_getR (q := 55) fl_X7_35 dX7_perform_52 rfl lR_0 rfl ?_
    refine aj_callV (q := 58) (As := []) cl_X7_69 mk_X0_statement dX7_perform_55 rfl lR_11 rfl rfl (Nat.le_of_ble_eq_true rfl) (sp_X0_statement hw ?_)
    refine aj_istore (q := 60) (i := 5) (ls' := [_, _, _, _, _, _]) dX7_perform_58 rfl (by decide) rfl ?_
    refine aj_aload_n (q := 61) (i := 0) dX7_perform_60 rfl rfl rfl ?_
    refine aj_getR (q := 64) fl_X7_35 dX7_perform_61 rfl lR_0 rfl ?_
    refine aj_callV (q := 67) (As := []) cl_X7_73 mk_X0_stage dX7_perform_64 rfl lR_11 rfl rfl (Nat.le_of_ble_eq_true rfl) (sp_X0_stage hw ?_)
    refine aj_if_ne (q := 70) (tgt := 79) dX7_perform_67 rfl (by decide) (fun c67_1 => ?_) (fun c67_1 => ?_)
    · refine aj_aload_n (q := 80) (i := 0) dX7_perform_79 rfl rfl rfl ?_
      refine aj_iload (q := 82) (i := 5) dX7_perform_80 rfl rfl ?_
      refine aj_callV (q := 85) (As := [_]) cl_X7_79 mk_X7_goOn dX7_perform_82 rfl lR_0 rfl rfl (Nat.le_of_ble_eq_true rfl) (sp_X7_goOn hw (fun hw2 => ?_))
      refine aj_iinc (q := 88) (i := 4) (ls' := [_, _, _, _, _, _]) dX7_perform_85 rfl rfl (nI_1 t) (by decide) rfl ?_
      refine aj_goto (tgt := 34) dX7_perform_88 (by decide) ?_
      refine ih (t + 1) _ _ (by omega) (fun i hi => ?_) ?_ hw2 ?_
      · have := h0 (i + 1) (by omega)
        rwa [rIt, (show rStep S = rGoOn S (fGet S 1200 (-1)) by rw [rStep, if_neg c67_1])] at this
      · rwa [rIt, (show rStep S = rGoOn S (fGet S 1200 (-1)) by rw [rStep, if_neg c67_1])] at h1
      · rwa [rIt, (show rStep S = rGoOn S (fGet S 1200 (-1)) by rw [rStep, if_neg c67_1])] at hQ
    · refine aj_aload_n (q := 71) (i := 0) dX7_perform_70 rfl rfl rfl ?_
      refine aj_iload (q := 73) (i := 5) dX7_perform_71 rfl rfl ?_
      refine aj_callV (q := 76) (As := [_]) cl_X7_76 mk_X7_begin dX7_perform_73 rfl lR_0 rfl rfl (Nat.le_of_ble_eq_true rfl) (sp_X7_begin hw (fun hw3 => ?_))
      refine aj_goto (tgt := 85) dX7_perform_76 (by decide) ?_
      refine aj_iinc (q := 88) (i := 4) (ls' := [_, _, _, _, _, _]) dX7_perform_85 rfl rfl (nI_1 t) (by decide) rfl ?_
      refine aj_goto (tgt := 34) dX7_perform_88 (by decide) ?_
      refine ih (t + 1) _ _ (by omega) (fun i hi => ?_) ?_ hw3 ?_
      · have := h0 (i + 1) (by omega)
        rwa [rIt, (show rStep S = rBegin S (fGet S 1200 (-1)) by rw [rStep, if_pos c67_1])] at this
      · rwa [rIt, (show rStep S = rBegin S (fGet S 1200 (-1)) by rw [rStep, if_pos c67_1])] at h1
      · rwa [rIt, (show rStep S = rBegin S (fGet S 1200 (-1)) by rw [rStep, if_pos c67_1])] at hQ
theorem sp_X7_perform {d : Nat} {S : Sx} {Q : Option Value → Sx → Prop} {body x b : Int32} (j : Nat) (hj : j ≤ 1000000000) (h0 : ∀ i, i < j → fEmpty (rIt i (rStart S body x b)) = false) (h1 : fEmpty (rIt j (rStart S body x b)) = true) (hw : wfR S) (hQ : wfR (rFin (rIt j (rStart S body x b))) → Q (some (.int (rIt j (rStart S body x b) 8 0))) (rFin (rIt j (rStart S body x b)))) : CC (d + 6) kX7_perform layR [.ref 0, .int body, .int x, .int b] S Q := by
  refine cc_intro [some _, some _, some _, some _, none, none] (by decide) (cc_cat (by rfl)) (Nat.le_of_ble_eq_true rfl) (cc_ls (by rfl)) ?_
  refine aj_aload_n (q := 1) (i := 0) dX7_perform_0 rfl rfl rfl ?_
  refine aj_iload_n (q := 2) (i := 2) dX7_perform_1 rfl rfl rfl ?_
  refine aj_iload_n (q := 3) (i := 3) dX7_perform_2 rfl rfl rfl ?_
  refine aj_callV (q := 6) (As := [_, _]) cl_X7_47 mk_X7_clear dX7_perform_3 rfl lR_0 rfl rfl (Nat.le_of_ble_eq_true rfl) (sp_X7_clear hw (fun hw1 => ?_))
  refine aj_aload_n (q := 7) (i := 0) dX7_perform_6 rfl rfl rfl ?_
  refine aj_getR (q := 10) fl_X7_21 dX7_perform_7 rfl lR_0 rfl ?_
  refine aj_iconst (q := 11) (v := 1) dX7_perform_10 rfl (by decide) ?_
  refine aj_iconst (q := 12) (v := 2) dX7_perform_11 rfl (by decide) ?_
  refine aj_callV (q := 15) (As := [_, _]) cl_X7_53 mk_X6_pays dX7_perform_12 rfl lR_6 rfl rfl (Nat.le_of_ble_eq_true rfl) (sp_X6_pays hw1 (fun hw2 => ?_))
  refine aj_ifB_eq (q := 18) (tgt := 26) dX7_perform_15 rfl (by decide) (fun c15_3 => ?_) (fun c15_3 => ?_)
  · refine aj_aload_n (q := 27) (i := 0) dX7_perform_26 rfl rfl rfl ?_
    refine aj_iconst (q := 28) (v := 3) dX7_perform_27 rfl (by decide) ?_
    refine aj_putIw (q := 31) (f := 8) hw2 rfl okR fp_X7_61 dX7_perform_28 rfl lR_0 rfl rfl (fun hw4 => ?_)
    refine aj_iconst (q := 32) (v := 0) dX7_perform_31 rfl (by decide) ?_
    refine aj_istore (q := 34) (i := 4) (ls' := [_, _, _, _, _, _]) dX7_perform_32 rfl (by decide) rfl ?_
    first | (rw [rStart, if_pos (by assumption)] at h0 h1 hQ; exact perf_loop j 0 none _ (by omega) h0 h1 hw4 hQ) | (rw [rStart, if_neg (by simpa using by assumption)] at h0 h1 hQ; exact perf_loop j 0 none _ (by omega) h0 h1 hw4 hQ)
  · refine aj_aload_n (q := 19) (i := 0) dX7_perform_18 rfl rfl rfl ?_
    refine aj_iload_n (q := 20) (i := 1) dX7_perform_19 rfl rfl rfl ?_
    refine aj_callV (q := 23) (As := [_]) cl_X7_57 mk_X7_enter dX7_perform_20 rfl lR_0 rfl rfl (Nat.le_of_ble_eq_true rfl) (sp_X7_enter hw2 (fun hw5 => ?_))
    refine aj_goto (tgt := 31) dX7_perform_23 (by decide) ?_
    refine aj_iconst (q := 32) (v := 0) dX7_perform_31 rfl (by decide) ?_
    refine aj_istore (q := 34) (i := 4) (ls' := [_, _, _, _, _, _]) dX7_perform_32 rfl (by decide) rfl ?_
    first | (rw [rStart, if_pos (by assumption)] at h0 h1 hQ; exact perf_loop j 0 none _ (by omega) h0 h1 hw5 hQ) | (rw [rStart, if_neg (by simpa using by assumption)] at h0 h1 hQ; exact perf_loop j 0 none _ (by omega) h0 h1 hw5 hQ)
