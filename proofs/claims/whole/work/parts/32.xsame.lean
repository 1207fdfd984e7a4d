theorem pl_lo {sg : List Nat} (hg : ∀ k, k < 24 → 2 ≤ sg.getD k 0) {S : Sx} {g i : Nat} {v : Int32} (hlt : g < 200) {f j : Nat} (hf : f < 2400) : plS sg (sw S g i v) f j = plS sg S f j := by
  unfold plS sw
  have := hg (f / 100) (by omega)
  rw [if_neg (by omega)]
theorem sgA_ge : ∀ k, k < 24 → 2 ≤ sgA.getD k 0 := by decide
theorem sgB_ge : ∀ k, k < 24 → 2 ≤ sgB.getD k 0 := by decide
theorem ps_lo {sg : List Nat} (hi : inv sg 0 = none) (hi1 : inv sg 1 = none) {S F : Sx} {f i : Nat} (hf : f < 200) : psS sg S F f i = S f i := by
  unfold psS
  rcases (show f / 100 = 0 ∨ f / 100 = 1 by omega) with e | e <;> rw [e] <;> simp only [hi, hi1]
theorem psA_lo {S F : Sx} {f i : Nat} (hf : f < 200) : psS sgA S F f i = S f i := ps_lo (by decide) (by decide) hf
theorem psB_lo {S F : Sx} {f i : Nat} (hf : f < 200) : psS sgB S F f i = S f i := ps_lo (by decide) (by decide) hf
/-- two stores over one run's layout agree -/
def Ag (X Y : Sx) : Prop := ∀ f, f < 2400 → ∀ i, X f i = Y f i
theorem Ag.rf {X : Sx} : Ag X X := fun _ _ _ => rfl
theorem Ag.tr {X Y Z : Sx} (h : Ag X Y) (g : Ag Y Z) : Ag X Z := fun f hf i => (h f hf i).trans (g f hf i)
theorem Ag.sy {X Y : Sx} (h : Ag X Y) : Ag Y X := fun f hf i => (h f hf i).symm
theorem Ag.wf {X Y : Sx} (h : Ag X Y) (hw : wfR X) : wfR Y := by
  unfold wfR at hw ⊢
  simp only [h 1105 (by omega), h 602 (by omega), h 104 (by omega), h 400 (by omega), h 300 (by omega), h 1706 (by omega), h 607 (by omega)] at hw
  exact hw
theorem ag_ps {sg : List Nat} (hn : va_nd sg = true) (hl : sg.length = 24) {S F : Sx} : Ag (plS sg (psS sg S F)) F := by
  intro f hf i
  have e : f = 100 * (f / 100) + f % 100 := by omega
  rw [e, plS_at (by omega), psS_at hn (by omega) (by omega)]
theorem ag_sw {sg : List Nat} (hg : ∀ k, k < 24 → 2 ≤ sg.getD k 0) {S : Sx} {g i : Nat} {v : Int32} (hlt : g < 200) : Ag (plS sg (sw S g i v)) (plS sg S) := fun _ hf _ => pl_lo hg hlt hf
theorem ag_cnt {sg : List Nat} (hg : ∀ k, k < 24 → 2 ≤ sg.getD k 0) {S : Sx} {a : Int32} : Ag (plS sg (xCnt S a)) (plS sg S) := by
  unfold xCnt
  split
  · exact ag_sw hg (by omega)
  · exact Ag.rf
/-- the other run, after one: its own part stays, the program's part is the run's -/
def Mix (X F : Sx) : Sx := fun f i => if f < 1700 then X f i else F f i
theorem ag_cross {sg sg' : List Nat} (h1 : ∀ k, k < 17 → inv sg (sg'.getD k 0) = none) (h2 : ∀ k, k < 24 → 17 ≤ k → sg'.getD k 0 = sg.getD k 0) (hn : va_nd sg = true) (hl : sg.length = 24) {S F : Sx} : Ag (plS sg' (psS sg S F)) (Mix (plS sg' S) F) := by
  intro f hf i
  have e : f = 100 * (f / 100) + f % 100 := by omega
  unfold Mix
  split
  · rw [e, plS_at (by omega), psS_no (h1 _ (by omega)) (by omega), plS_at (by omega)]
  · rw [e, plS_at (by omega), h2 _ (by omega) (by omega), psS_at hn (by omega) (by omega)]
theorem agA {S F : Sx} : Ag (plS sgA (psS sgA S F)) F := ag_ps (by decide) rfl
theorem agB {S F : Sx} : Ag (plS sgB (psS sgB S F)) F := ag_ps (by decide) rfl
theorem agAB {S F : Sx} : Ag (plS sgB (psS sgA S F)) (Mix (plS sgB S) F) := ag_cross (by decide) (by decide) (by decide) rfl
theorem agBA {S F : Sx} : Ag (plS sgA (psS sgB S F)) (Mix (plS sgA S) F) := ag_cross (by decide) (by decide) (by decide) rfl
theorem Mix.wf {X F : Sx} (h : wfR X) (g : wfR F) : wfR (Mix X F) := by
  obtain ⟨h1, h2, h3, h4, h5, h6⟩ := h
  obtain ⟨g1, g2, g3, g4, g5, g6⟩ := g
  exact ⟨h1, h2, h3, h4, g5, h6⟩
theorem xc_lo {S : Sx} {a : Int32} {f i : Nat} (hf : f ≠ 100) : xCnt S a f i = S f i := by
  unfold xCnt
  split
  · rw [sw_ne hf]
  · rfl
/-- rows of two runs are alike -/
def RowEq (X Y : Sx) (r : Nat) : Prop := mLen X (nI r) = mLen Y (nI r) ∧ ∀ i, i < (mLen X (nI r)).toNatClampNeg → mLoad X (nI r) (nI i) = mLoad Y (nI r) (nI i)
def MemEq (X Y : Sx) : Prop := X 105 0 = Y 105 0 ∧ (∀ v, v < 8 → X 200 v = Y 200 v) ∧ ∀ r, r < 4 → RowEq X Y r
def RunEq (X Y : Sx) : Prop := (∀ w, w < 3 → rTell X (nI w) = rTell Y (nI w)) ∧ MemEq X Y
theorem wf_len {X : Sx} {r : Nat} (hw : wfR X) (hr : r < 4) : mLen X (nI r) = -1 ∨ ∃ n : Nat, mLen X (nI r) = nI n ∧ n ≤ 800 := by
  rw [mLen_e hr]
  rcases hw.2.2.2.1 r hr with h | ⟨h1, h2, h3⟩
  · exact Or.inl h
  · refine Or.inr ⟨(X 400 r).toNatClampNeg, ?_, ?_⟩
    · apply Int32.toInt_inj.mp
      rw [nI_toInt (by have : ((X 400 r).toNatClampNeg : Int) = (X 400 r).toInt := Int.toNat_of_nonneg h1; omega)]
      exact (Int.toNat_of_nonneg h1).symm
    · have : ((X 400 r).toNatClampNeg : Int) = (X 400 r).toInt := Int.toNat_of_nonneg h1
      omega
theorem len_ge {L : Int32} {n i : Nat} (h : L = -1 ∧ n = 0 ∨ L = nI n ∧ n ≤ 800) (hi : i ≤ 800) : L ≤ nI i ↔ n ≤ i := by
  rcases h with ⟨rfl, rfl⟩ | ⟨rfl, hn⟩
  · constructor
    · intro _; omega
    · intro _
      rw [Int32.le_iff_toInt_le, nI_toInt (by omega)]
      have : (-1 : Int32).toInt = -1 := by decide
      omega
  · exact nI_leI (by omega) (by omega)

theorem row_loop_B {d : Nat} {S : Sx} {Q : Option Value → Sx → Prop} {r n : Nat} {L : Int32} (hT : wfR (plS sgB S)) (hO : wfR (plS sgA S)) (hL : L = -1 ∧ n = 0 ∨ L = nI n ∧ n ≤ 800) : ∀ (t i : Nat), i + t = n → (∀ j, j < i → mLoad (plS sgB S) (nI r) (nI j) = mLoad (plS sgA S) (nI r) (nI j)) → (∀ b : Bool, (b = true ↔ ∀ j, j < n → mLoad (plS sgB S) (nI r) (nI j) = mLoad (plS sgA S) (nI r) (nI j)) → Q (some (.int (bi b))) S) → AJ (d + 3) kX4_rowEqualTo layX 20 [some (.ref 27), some (.ref 10), some (.int (nI r)), some (.int L), some (.int (nI i))] [] S Q := by
  have hn8 : n ≤ 800 := by omega
  intro t
  induction t with
  | zero =>
    intro i hi hp hQ
    refine aj_iload (q := 22) (i := 4) dX4_rowEqualTo_20 rfl rfl ?_
    refine aj_iload_n (q := 23) (i := 3) dX4_rowEqualTo_22 rfl rfl rfl ?_
    refine aj_icmp_ge (q := 26) (tgt := 51) dX4_rowEqualTo_23 rfl (by decide) (fun _ => ?_) (fun c => absurd ((len_ge hL (by omega)).mpr (by omega)) c)
    refine aj_iconst (q := 52) (v := 1) dX4_rowEqualTo_51 rfl (by decide) ?_
    refine aj_zreturn dX4_rowEqualTo_52 rfl (bi_nar true) ?_
    exact hQ true ⟨fun _ j hj => hp j (by omega), fun _ => rfl⟩
  | succ t ih =>
    intro i hi hp hQ
    refine aj_iload (q := 22) (i := 4) dX4_rowEqualTo_20 rfl rfl ?_
    refine aj_iload_n (q := 23) (i := 3) dX4_rowEqualTo_22 rfl rfl rfl ?_
    refine aj_icmp_ge (q := 26) (tgt := 51) dX4_rowEqualTo_23 rfl (by decide) (fun c => absurd ((len_ge hL (by omega)).mp c) (by omega)) (fun _ => ?_)
    refine aj_aload_n (q := 27) (i := 0) dX4_rowEqualTo_26 rfl rfl rfl ?_
    refine aj_iload_n (q := 28) (i := 2) dX4_rowEqualTo_27 rfl rfl rfl ?_
    refine aj_iload (q := 30) (i := 4) dX4_rowEqualTo_28 rfl rfl ?_
    refine aj_callV (q := 33) (As := [_, _]) cl_X4_49 mk_X4_load dX4_rowEqualTo_30 rfl lX_27 rfl rfl (Nat.le_of_ble_eq_true rfl) (cc_frame (sg := sgB) (av := [.ref 1, .int _, .int _]) embB rfl (sg_r rfl) (sp_X4_load hT (fq ?_)))
    rw [psS_pl]
    refine aj_aload_n (q := 34) (i := 1) dX4_rowEqualTo_33 rfl rfl rfl ?_
    refine aj_iload_n (q := 35) (i := 2) dX4_rowEqualTo_34 rfl rfl rfl ?_
    refine aj_iload (q := 37) (i := 4) dX4_rowEqualTo_35 rfl rfl ?_
    refine aj_callV (q := 40) (As := [_, _]) cl_X4_49 mk_X4_load dX4_rowEqualTo_37 rfl lX_10 rfl rfl (Nat.le_of_ble_eq_true rfl) (cc_frame (sg := sgA) (av := [.ref 1, .int _, .int _]) embA rfl (sg_r rfl) (sp_X4_load hO (fq ?_)))
    rw [psS_pl]
    refine aj_icmp_eq (q := 43) (tgt := 45) dX4_rowEqualTo_40 rfl (by decide) (fun c40_2 => ?_) (fun c40_2 => ?_)
    · refine aj_iinc (q := 48) (i := 4) (ls' := [_, _, _, _, _]) dX4_rowEqualTo_45 rfl rfl (nI_1 i) (by decide) rfl ?_
      refine aj_goto (tgt := 20) dX4_rowEqualTo_48 (by decide) ?_
      refine ih (i + 1) (by omega) (fun j hj => ?_) hQ
      rcases (show j < i ∨ j = i by omega) with q | rfl
      · exact hp j q
      · assumption
    · refine aj_iconst (q := 44) (v := 0) dX4_rowEqualTo_43 rfl (by decide) ?_
      refine aj_zreturn dX4_rowEqualTo_44 rfl (bi_nar false) ?_
      exact hQ false ⟨fun h => (by cases h), fun h => absurd (h i (by omega)) (by assumption)⟩
theorem sp_X4_rowEqualTo_B {d : Nat} {S : Sx} {Q : Option Value → Sx → Prop} {r : Nat} (hr : r < 4) (hT : wfR (plS sgB S)) (hO : wfR (plS sgA S)) (hQ : ∀ b : Bool, (b = true ↔ RowEq (plS sgB S) (plS sgA S) r) → Q (some (.int (bi b))) S) : CC (d + 3) kX4_rowEqualTo layX [.ref 27, .ref 10, .int (nI r)] S Q := by
  refine cc_intro [some _, some _, some _, none, none] (by decide) (cc_cat (by rfl)) (Nat.le_of_ble_eq_true rfl) (cc_ls (by rfl)) ?_
  refine aj_aload_n (q := 1) (i := 0) dX4_rowEqualTo_0 rfl rfl rfl ?_
  refine aj_iload_n (q := 2) (i := 2) dX4_rowEqualTo_1 rfl rfl rfl ?_
  refine aj_callV (q := 5) (As := [_]) cl_X4_45 mk_X4_lengthOf dX4_rowEqualTo_2 rfl lX_27 rfl rfl (Nat.le_of_ble_eq_true rfl) (cc_frame (sg := sgB) (av := [.ref 1, .int _]) embB rfl (sg_r rfl) (sp_X4_lengthOf (fq ?_)))
  rw [psS_pl]
  refine aj_istore_n (q := 6) (i := 3) (ls' := [_, _, _, _, _]) dX4_rowEqualTo_5 rfl rfl (by decide) rfl ?_
  refine aj_iload_n (q := 7) (i := 3) dX4_rowEqualTo_6 rfl rfl rfl ?_
  refine aj_aload_n (q := 8) (i := 1) dX4_rowEqualTo_7 rfl rfl rfl ?_
  refine aj_iload_n (q := 9) (i := 2) dX4_rowEqualTo_8 rfl rfl rfl ?_
  refine aj_callV (q := 12) (As := [_]) cl_X4_45 mk_X4_lengthOf dX4_rowEqualTo_9 rfl lX_10 rfl rfl (Nat.le_of_ble_eq_true rfl) (cc_frame (sg := sgA) (av := [.ref 1, .int _]) embA rfl (sg_r rfl) (sp_X4_lengthOf (fq ?_)))
  rw [psS_pl]
  refine aj_icmp_eq (q := 15) (tgt := 17) dX4_rowEqualTo_12 rfl (by decide) (fun c12_1 => ?_) (fun c12_1 => ?_)
  · refine aj_iconst (q := 18) (v := 0) dX4_rowEqualTo_17 rfl (by decide) ?_
    refine aj_istore (q := 20) (i := 4) (ls' := [_, _, _, _, _]) dX4_rowEqualTo_18 rfl (by decide) rfl ?_
    refine row_loop_B (n := (mLen (plS sgB S) (nI r)).toNatClampNeg) hT hO ?_ _ 0 (Nat.zero_add _) (fun j hj => by omega) (fun b hb => hQ b ⟨fun h => ⟨by assumption, hb.mp h⟩, fun h => hb.mpr h.2⟩)
    rcases wf_len hT hr with h | ⟨n, h, hn⟩
    · exact Or.inl ⟨h, by rw [h]; decide⟩
    · exact Or.inr ⟨by rw [h, cl n], by rw [h, cl n]; exact hn⟩
  · refine aj_iconst (q := 16) (v := 0) dX4_rowEqualTo_15 rfl (by decide) ?_
    refine aj_zreturn dX4_rowEqualTo_16 rfl (bi_nar false) ?_
    exact hQ false ⟨fun h => (by cases h), fun h => absurd h.1 (by assumption)⟩
theorem eq_loop2_B {d : Nat} {S : Sx} {Q : Option Value → Sx → Prop} (hT : wfR (plS sgB S)) (hO : wfR (plS sgA S)) (e1 : (plS sgB S) 105 0 = (plS sgA S) 105 0) (e2 : ∀ v, v < 8 → (plS sgB S) 200 v = (plS sgA S) 200 v) (hQ : (∀ b : Bool, (b = true ↔ MemEq (plS sgB S) (plS sgA S)) → Q (some (.int (bi b))) S)) : ∀ (t i : Nat), i + t = 4 → (∀ j, j < i → RowEq (plS sgB S) (plS sgA S) j) → AJ (d + 4) kX4_equalTo layX 50 [some (.ref 27), some (.ref 10), some (.int (nI i))] [] S Q := by
  intro t
  induction t with
  | zero =>
    intro i hi hp
    obtain rfl : i = 4 := by omega
    refine aj_iload_n (q := 51) (i := 2) dX4_equalTo_50 rfl rfl rfl ?_
    refine aj_iconst (q := 52) (v := 4) dX4_equalTo_51 rfl (by decide) ?_
    refine aj_icmp_ge (q := 55) (tgt := 72) dX4_equalTo_52 rfl (by decide) (fun _ => ?_) (fun c => absurd (show (4 : Int32) ≤ nI 4 by decide) c)
    refine aj_iconst (q := 73) (v := 1) dX4_equalTo_72 rfl (by decide) ?_
    refine aj_zreturn dX4_equalTo_73 rfl (bi_nar true) ?_
    exact hQ true ⟨fun _ => ⟨e1, e2, hp⟩, fun _ => rfl⟩
  | succ t ih =>
    intro i hi hp
    refine aj_iload_n (q := 51) (i := 2) dX4_equalTo_50 rfl rfl rfl ?_
    refine aj_iconst (q := 52) (v := 4) dX4_equalTo_51 rfl (by decide) ?_
    refine aj_icmp_ge (q := 55) (tgt := 72) dX4_equalTo_52 rfl (by decide) (fun c => absurd (show nI 4 ≤ nI i from c) (nI_ge (by omega) (by omega))) (fun _ => ?_)
    refine aj_aload_n (q := 56) (i := 0) dX4_equalTo_55 rfl rfl rfl ?_
    refine aj_aload_n (q := 57) (i := 1) dX4_equalTo_56 rfl rfl rfl ?_
    refine aj_iload_n (q := 58) (i := 2) dX4_equalTo_57 rfl rfl rfl ?_
    refine aj_callV (q := 61) (As := [_, _]) cl_X4_41 mk_X4_rowEqualTo dX4_equalTo_58 rfl lX_27 rfl rfl (Nat.le_of_ble_eq_true rfl) (sp_X4_rowEqualTo_B (by omega) hT hO (fun b hb => ?_))
    refine aj_ifB_ne (q := 64) (tgt := 66) dX4_equalTo_61 rfl (by decide) (fun c61_2 => ?_) (fun c61_2 => ?_)
    · refine aj_iinc (q := 69) (i := 2) (ls' := [_, _, _]) dX4_equalTo_66 rfl rfl (nI_1 i) (by decide) rfl ?_
      refine aj_goto (tgt := 50) dX4_equalTo_69 (by decide) ?_
      refine ih (i + 1) (by omega) (fun j hj => ?_)
      rcases (show j < i ∨ j = i by omega) with q | rfl
      · exact hp j q
      · exact hb.mp (by assumption)
    · refine aj_iconst (q := 65) (v := 0) dX4_equalTo_64 rfl (by decide) ?_
      refine aj_zreturn dX4_equalTo_65 rfl (bi_nar false) ?_
      exact hQ false ⟨fun h => (by cases h), fun h => absurd (hb.mpr (h.2.2 i (by omega))) (by rw [show b = false by assumption]; decide)⟩
theorem eq_loop1_B {d : Nat} {S : Sx} {Q : Option Value → Sx → Prop} (hT : wfR (plS sgB S)) (hO : wfR (plS sgA S)) (e1 : (plS sgB S) 105 0 = (plS sgA S) 105 0) (hQ : (∀ b : Bool, (b = true ↔ MemEq (plS sgB S) (plS sgA S)) → Q (some (.int (bi b))) S)) : ∀ (t i : Nat), i + t = 8 → (∀ v, v < i → (plS sgB S) 200 v = (plS sgA S) 200 v) → AJ (d + 4) kX4_equalTo layX 19 [some (.ref 27), some (.ref 10), some (.int (nI i))] [] S Q := by
  intro t
  induction t with
  | zero =>
    intro i hi hp
    obtain rfl : i = 8 := by omega
    refine aj_iload_n (q := 20) (i := 2) dX4_equalTo_19 rfl rfl rfl ?_
    refine aj_bipush (q := 22) (v := 8) dX4_equalTo_20 rfl (by decide) ?_
    refine aj_icmp_ge (q := 25) (tgt := 48) dX4_equalTo_22 rfl (by decide) (fun _ => ?_) (fun c => absurd (show (8 : Int32) ≤ nI 8 by decide) c)
    refine aj_iconst (q := 49) (v := 0) dX4_equalTo_48 rfl (by decide) ?_
    refine aj_istore_n (q := 50) (i := 2) (ls' := [_, _, _]) dX4_equalTo_49 rfl rfl (by decide) rfl ?_
    exact eq_loop2_B hT hO e1 hp hQ 4 0 (by omega) (fun j hj => by omega)
  | succ t ih =>
    intro i hi hp
    refine aj_iload_n (q := 20) (i := 2) dX4_equalTo_19 rfl rfl rfl ?_
    refine aj_bipush (q := 22) (v := 8) dX4_equalTo_20 rfl (by decide) ?_
    refine aj_icmp_ge (q := 25) (tgt := 48) dX4_equalTo_22 rfl (by decide) (fun c => absurd (show nI 8 ≤ nI i from c) (nI_ge (by omega) (by omega))) (fun _ => ?_)
    refine aj_aload_n (q := 26) (i := 0) dX4_equalTo_25 rfl rfl rfl ?_
    refine aj_getR (q := 29) fl_X4_9 dX4_equalTo_26 rfl lX_27 rfl ?_
    refine aj_iload_n (q := 30) (i := 2) dX4_equalTo_29 rfl rfl rfl ?_
    refine aj_iaload (q := 31) (f := 2800) dX4_equalTo_30 rfl lX_28 rfl (vp_in_nI (by omega) (by omega)) ?_
    try simp only [cl i]
    refine aj_aload_n (q := 32) (i := 1) dX4_equalTo_31 rfl rfl rfl ?_
    refine aj_getR (q := 35) fl_X4_9 dX4_equalTo_32 rfl lX_10 rfl ?_
    refine aj_iload_n (q := 36) (i := 2) dX4_equalTo_35 rfl rfl rfl ?_
    refine aj_iaload (q := 37) (f := 1100) dX4_equalTo_36 rfl lX_11 rfl (vp_in_nI (by omega) (by omega)) ?_
    try simp only [cl i]
    refine aj_icmp_eq (q := 40) (tgt := 42) dX4_equalTo_37 rfl (by decide) (fun c37_2 => ?_) (fun c37_2 => ?_)
    · refine aj_iinc (q := 45) (i := 2) (ls' := [_, _, _]) dX4_equalTo_42 rfl rfl (nI_1 i) (by decide) rfl ?_
      refine aj_goto (tgt := 19) dX4_equalTo_45 (by decide) ?_
      refine ih (i + 1) (by omega) (fun j hj => ?_)
      rcases (show j < i ∨ j = i by omega) with q | rfl
      · exact hp j q
      · assumption
    · refine aj_iconst (q := 41) (v := 0) dX4_equalTo_40 rfl (by decide) ?_
      refine aj_zreturn dX4_equalTo_41 rfl (bi_nar false) ?_
      exact hQ false ⟨fun h => (by cases h), fun h => absurd (h.2.1 i (by omega)) (by assumption)⟩
theorem sp_X4_equalTo_B {d : Nat} {S : Sx} {Q : Option Value → Sx → Prop} (hT : wfR (plS sgB S)) (hO : wfR (plS sgA S)) (hQ : (∀ b : Bool, (b = true ↔ MemEq (plS sgB S) (plS sgA S)) → Q (some (.int (bi b))) S)) : CC (d + 4) kX4_equalTo layX [.ref 27, .ref 10] S Q := by
  refine cc_intro [some _, some _, none] (by decide) (cc_cat (by rfl)) (Nat.le_of_ble_eq_true rfl) (cc_ls (by rfl)) ?_
  refine aj_aload_n (q := 1) (i := 1) dX4_equalTo_0 rfl rfl rfl ?_
  refine aj_ifnull (q := 4) dX4_equalTo_1 rfl ?_
  refine aj_aload_n (q := 5) (i := 0) dX4_equalTo_4 rfl rfl rfl ?_
  refine aj_getI (q := 8) (f := 2705) fl_X4_34 dX4_equalTo_5 rfl lX_27 rfl rfl ?_
  refine aj_aload_n (q := 9) (i := 1) dX4_equalTo_8 rfl rfl rfl ?_
  refine aj_getI (q := 12) (f := 1005) fl_X4_34 dX4_equalTo_9 rfl lX_10 rfl rfl ?_
  refine aj_icmp_eq (q := 15) (tgt := 17) dX4_equalTo_12 rfl (by decide) (fun c12_1 => ?_) (fun c12_1 => ?_)
  · refine aj_iconst (q := 18) (v := 0) dX4_equalTo_17 rfl (by decide) ?_
    refine aj_istore_n (q := 19) (i := 2) (ls' := [_, _, _]) dX4_equalTo_18 rfl rfl (by decide) rfl ?_
    exact eq_loop1_B hT hO (by assumption) hQ 8 0 (by omega) (fun j hj => by omega)
  · refine aj_iconst (q := 16) (v := 0) dX4_equalTo_15 rfl (by decide) ?_
    refine aj_zreturn dX4_equalTo_16 rfl (bi_nar false) ?_
    exact hQ false ⟨fun h => (by cases h), fun h => absurd h.1 (by assumption)⟩
theorem tells_loop_B {d : Nat} {S : Sx} {Q : Option Value → Sx → Prop} (hT : wfR (plS sgB S)) (hO : wfR (plS sgA S)) (hQ : (∀ b : Bool, (b = true ↔ RunEq (plS sgB S) (plS sgA S)) → Q (some (.int (bi b))) S)) : ∀ (t i : Nat), i + t = 3 → (∀ v, v < i → rTell (plS sgB S) (nI v) = rTell (plS sgA S) (nI v)) → AJ (d + 5) kX7_tellsTheSameAs layX 8 [some (.ref 26), some (.ref 9), some (.int (nI i))] [] S Q := by
  intro t
  induction t with
  | zero =>
    intro i hi hp
    obtain rfl : i = 3 := by omega
    refine aj_iload_n (q := 9) (i := 2) dX7_tellsTheSameAs_8 rfl rfl rfl ?_
    refine aj_iconst (q := 10) (v := 2) dX7_tellsTheSameAs_9 rfl (by decide) ?_
    refine aj_icmp_gt (q := 13) (tgt := 34) dX7_tellsTheSameAs_10 rfl (by decide) (fun _ => ?_) (fun c => absurd (show (2 : Int32) < nI 3 by decide) c)
    refine aj_aload_n (q := 35) (i := 0) dX7_tellsTheSameAs_34 rfl rfl rfl ?_
    refine aj_getR (q := 38) fl_X7_12 dX7_tellsTheSameAs_35 rfl lX_26 rfl ?_
    refine aj_aload_n (q := 39) (i := 1) dX7_tellsTheSameAs_38 rfl rfl rfl ?_
    refine aj_getR (q := 42) fl_X7_12 dX7_tellsTheSameAs_39 rfl lX_9 rfl ?_
    refine aj_callV (q := 45) (As := [_]) cl_X7_110 mk_X4_equalTo dX7_tellsTheSameAs_42 rfl lX_27 rfl rfl (Nat.le_of_ble_eq_true rfl) (sp_X4_equalTo_B hT hO (fun b hb => ?_))
    refine aj_zreturn dX7_tellsTheSameAs_45 rfl (bi_nar _) ?_
    exact hQ b ⟨fun h => ⟨hp, hb.mp h⟩, fun h => hb.mpr h.2⟩
  | succ t ih =>
    intro i hi hp
    refine aj_iload_n (q := 9) (i := 2) dX7_tellsTheSameAs_8 rfl rfl rfl ?_
    refine aj_iconst (q := 10) (v := 2) dX7_tellsTheSameAs_9 rfl (by decide) ?_
    refine aj_icmp_gt (q := 13) (tgt := 34) dX7_tellsTheSameAs_10 rfl (by decide) (fun c => absurd ((nI_ltI (a := 2) (b := i) (by omega) (by omega)).mp c) (by omega)) (fun _ => ?_)
    refine aj_aload_n (q := 14) (i := 0) dX7_tellsTheSameAs_13 rfl rfl rfl ?_
    refine aj_iload_n (q := 15) (i := 2) dX7_tellsTheSameAs_14 rfl rfl rfl ?_
    refine aj_callV (q := 18) (As := [_]) cl_X7_106 mk_X7_tell dX7_tellsTheSameAs_15 rfl lX_26 rfl rfl (Nat.le_of_ble_eq_true rfl) (cc_frame (sg := sgB) (av := [.ref 0, .int _]) embB rfl (sg_r rfl) (sp_X7_tell hT (fq ?_)))
    rw [psS_pl]
    refine aj_aload_n (q := 19) (i := 1) dX7_tellsTheSameAs_18 rfl rfl rfl ?_
    refine aj_iload_n (q := 20) (i := 2) dX7_tellsTheSameAs_19 rfl rfl rfl ?_
    refine aj_callV (q := 23) (As := [_]) cl_X7_106 mk_X7_tell dX7_tellsTheSameAs_20 rfl lX_9 rfl rfl (Nat.le_of_ble_eq_true rfl) (cc_frame (sg := sgA) (av := [.ref 0, .int _]) embA rfl (sg_r rfl) (sp_X7_tell hO (fq ?_)))
    rw [psS_pl]
    refine aj_icmp_eq (q := 26) (tgt := 28) dX7_tellsTheSameAs_23 rfl (by decide) (fun c23_2 => ?_) (fun c23_2 => ?_)
    · refine aj_iinc (q := 31) (i := 2) (ls' := [_, _, _]) dX7_tellsTheSameAs_28 rfl rfl (nI_1 i) (by decide) rfl ?_
      refine aj_goto (tgt := 8) dX7_tellsTheSameAs_31 (by decide) ?_
      refine ih (i + 1) (by omega) (fun j hj => ?_)
      rcases (show j < i ∨ j = i by omega) with q | rfl
      · exact hp j q
      · assumption
    · refine aj_iconst (q := 27) (v := 0) dX7_tellsTheSameAs_26 rfl (by decide) ?_
      refine aj_zreturn dX7_tellsTheSameAs_27 rfl (bi_nar false) ?_
      exact hQ false ⟨fun h => (by cases h), fun h => absurd (h.1 i (by omega)) (by assumption)⟩
theorem sp_X7_tellsTheSameAs_B {d : Nat} {S : Sx} {Q : Option Value → Sx → Prop} (hT : wfR (plS sgB S)) (hO : wfR (plS sgA S)) (hQ : (∀ b : Bool, (b = true ↔ RunEq (plS sgB S) (plS sgA S)) → Q (some (.int (bi b))) S)) : CC (d + 5) kX7_tellsTheSameAs layX [.ref 26, .ref 9] S Q := by
  refine cc_intro [some _, some _, none] (by decide) (cc_cat (by rfl)) (Nat.le_of_ble_eq_true rfl) (cc_ls (by rfl)) ?_
  refine aj_aload_n (q := 1) (i := 1) dX7_tellsTheSameAs_0 rfl rfl rfl ?_
  refine aj_ifnonnull (tgt := 6) dX7_tellsTheSameAs_1 (by decide) ?_
  refine aj_iconst (q := 7) (v := 0) dX7_tellsTheSameAs_6 rfl (by decide) ?_
  refine aj_istore_n (q := 8) (i := 2) (ls' := [_, _, _]) dX7_tellsTheSameAs_7 rfl rfl (by decide) rfl ?_
  exact tells_loop_B hT hO hQ 3 0 (by omega) (fun j hj => by omega)
theorem row_loop_A {d : Nat} {S : Sx} {Q : Option Value → Sx → Prop} {r n : Nat} {L : Int32} (hT : wfR (plS sgA S)) (hO : wfR (plS sgB S)) (hL : L = -1 ∧ n = 0 ∨ L = nI n ∧ n ≤ 800) : ∀ (t i : Nat), i + t = n → (∀ j, j < i → mLoad (plS sgA S) (nI r) (nI j) = mLoad (plS sgB S) (nI r) (nI j)) → (∀ b : Bool, (b = true ↔ ∀ j, j < n → mLoad (plS sgA S) (nI r) (nI j) = mLoad (plS sgB S) (nI r) (nI j)) → Q (some (.int (bi b))) S) → AJ (d + 3) kX4_rowEqualTo layX 20 [some (.ref 10), some (.ref 27), some (.int (nI r)), some (.int L), some (.int (nI i))] [] S Q := by
  have hn8 : n ≤ 800 := by omega
  intro t
  induction t with
  | zero =>
    intro i hi hp hQ
    refine aj_iload (q := 22) (i := 4) dX4_rowEqualTo_20 rfl rfl ?_
    refine aj_iload_n (q := 23) (i := 3) dX4_rowEqualTo_22 rfl rfl rfl ?_
    refine aj_icmp_ge (q := 26) (tgt := 51) dX4_rowEqualTo_23 rfl (by decide) (fun _ => ?_) (fun c => absurd ((len_ge hL (by omega)).mpr (by omega)) c)
    refine aj_iconst (q := 52) (v := 1) dX4_rowEqualTo_51 rfl (by decide) ?_
    refine aj_zreturn dX4_rowEqualTo_52 rfl (bi_nar true) ?_
    exact hQ true ⟨fun _ j hj => hp j (by omega), fun _ => rfl⟩
  | succ t ih =>
    intro i hi hp hQ
    refine aj_iload (q := 22) (i := 4) dX4_rowEqualTo_20 rfl rfl ?_
    refine aj_iload_n (q := 23) (i := 3) dX4_rowEqualTo_22 rfl rfl rfl ?_
    refine aj_icmp_ge (q := 26) (tgt := 51) dX4_rowEqualTo_23 rfl (by decide) (fun c => absurd ((len_ge hL (by omega)).mp c) (by omega)) (fun _ => ?_)
    refine aj_aload_n (q := 27) (i := 0) dX4_rowEqualTo_26 rfl rfl rfl ?_
    refine aj_iload_n (q := 28) (i := 2) dX4_rowEqualTo_27 rfl rfl rfl ?_
    refine aj_iload (q := 30) (i := 4) dX4_rowEqualTo_28 rfl rfl ?_
    refine aj_callV (q := 33) (As := [_, _]) cl_X4_49 mk_X4_load dX4_rowEqualTo_30 rfl lX_10 rfl rfl (Nat.le_of_ble_eq_true rfl) (cc_frame (sg := sgA) (av := [.ref 1, .int _, .int _]) embA rfl (sg_r rfl) (sp_X4_load hT (fq ?_)))
    rw [psS_pl]
    refine aj_aload_n (q := 34) (i := 1) dX4_rowEqualTo_33 rfl rfl rfl ?_
    refine aj_iload_n (q := 35) (i := 2) dX4_rowEqualTo_34 rfl rfl rfl ?_
    refine aj_iload (q := 37) (i := 4) dX4_rowEqualTo_35 rfl rfl ?_
    refine aj_callV (q := 40) (As := [_, _]) cl_X4_49 mk_X4_load dX4_rowEqualTo_37 rfl lX_27 rfl rfl (Nat.le_of_ble_eq_true rfl) (cc_frame (sg := sgB) (av := [.ref 1, .int _, .int _]) embB rfl (sg_r rfl) (sp_X4_load hO (fq ?_)))
    rw [psS_pl]
    refine aj_icmp_eq (q := 43) (tgt := 45) dX4_rowEqualTo_40 rfl (by decide) (fun c40_2 => ?_) (fun c40_2 => ?_)
    · refine aj_iinc (q := 48) (i := 4) (ls' := [_, _, _, _, _]) dX4_rowEqualTo_45 rfl rfl (nI_1 i) (by decide) rfl ?_
      refine aj_goto (tgt := 20) dX4_rowEqualTo_48 (by decide) ?_
      refine ih (i + 1) (by omega) (fun j hj => ?_) hQ
      rcases (show j < i ∨ j = i by omega) with q | rfl
      · exact hp j q
      · assumption
    · refine aj_iconst (q := 44) (v := 0) dX4_rowEqualTo_43 rfl (by decide) ?_
      refine aj_zreturn dX4_rowEqualTo_44 rfl (bi_nar false) ?_
      exact hQ false ⟨fun h => (by cases h), fun h => absurd (h i (by omega)) (by assumption)⟩
theorem sp_X4_rowEqualTo_A {d : Nat} {S : Sx} {Q : Option Value → Sx → Prop} {r : Nat} (hr : r < 4) (hT : wfR (plS sgA S)) (hO : wfR (plS sgB S)) (hQ : ∀ b : Bool, (b = true ↔ RowEq (plS sgA S) (plS sgB S) r) → Q (some (.int (bi b))) S) : CC (d + 3) kX4_rowEqualTo layX [.ref 10, .ref 27, .int (nI r)] S Q := by
  refine cc_intro [some _, some _, some _, none, none] (by decide) (cc_cat (by rfl)) (Nat.le_of_ble_eq_true rfl) (cc_ls (by rfl)) ?_
  refine aj_aload_n (q := 1) (i := 0) dX4_rowEqualTo_0 rfl rfl rfl ?_
  refine aj_iload_n (q := 2) (i := 2) dX4_rowEqualTo_1 rfl rfl rfl ?_
  refine aj_callV (q := 5) (As := [_]) cl_X4_45 mk_X4_lengthOf dX4_rowEqualTo_2 rfl lX_10 rfl rfl (Nat.le_of_ble_eq_true rfl) (cc_frame (sg := sgA) (av := [.ref 1, .int _]) embA rfl (sg_r rfl) (sp_X4_lengthOf (fq ?_)))
  rw [psS_pl]
  refine aj_istore_n (q := 6) (i := 3) (ls' := [_, _, _, _, _]) dX4_rowEqualTo_5 rfl rfl (by decide) rfl ?_
  refine aj_iload_n (q := 7) (i := 3) dX4_rowEqualTo_6 rfl rfl rfl ?_
  refine aj_aload_n (q := 8) (i := 1) dX4_rowEqualTo_7 rfl rfl rfl ?_
  refine aj_iload_n (q := 9) (i := 2) dX4_rowEqualTo_8 rfl rfl rfl ?_
  refine aj_callV (q := 12) (As := [_]) cl_X4_45 mk_X4_lengthOf dX4_rowEqualTo_9 rfl lX_27 rfl rfl (Nat.le_of_ble_eq_true rfl) (cc_frame (sg := sgB) (av := [.ref 1, .int _]) embB rfl (sg_r rfl) (sp_X4_lengthOf (fq ?_)))
  rw [psS_pl]
  refine aj_icmp_eq (q := 15) (tgt := 17) dX4_rowEqualTo_12 rfl (by decide) (fun c12_1 => ?_) (fun c12_1 => ?_)
  · refine aj_iconst (q := 18) (v := 0) dX4_rowEqualTo_17 rfl (by decide) ?_
    refine aj_istore (q := 20) (i := 4) (ls' := [_, _, _, _, _]) dX4_rowEqualTo_18 rfl (by decide) rfl ?_
    refine row_loop_A (n := (mLen (plS sgA S) (nI r)).toNatClampNeg) hT hO ?_ _ 0 (Nat.zero_add _) (fun j hj => by omega) (fun b hb => hQ b ⟨fun h => ⟨by assumption, hb.mp h⟩, fun h => hb.mpr h.2⟩)
    rcases wf_len hT hr with h | ⟨n, h, hn⟩
    · exact Or.inl ⟨h, by rw [h]; decide⟩
    · exact Or.inr ⟨by rw [h, cl n], by rw [h, cl n]; exact hn⟩
  · refine aj_iconst (q := 16) (v := 0) dX4_rowEqualTo_15 rfl (by decide) ?_
    refine aj_zreturn dX4_rowEqualTo_16 rfl (bi_nar false) ?_
    exact hQ false ⟨fun h => (by cases h), fun h => absurd h.1 (by assumption)⟩
theorem eq_loop2_A {d : Nat} {S : Sx} {Q : Option Value → Sx → Prop} (hT : wfR (plS sgA S)) (hO : wfR (plS sgB S)) (e1 : (plS sgA S) 105 0 = (plS sgB S) 105 0) (e2 : ∀ v, v < 8 → (plS sgA S) 200 v = (plS sgB S) 200 v) (hQ : (∀ b : Bool, (b = true ↔ MemEq (plS sgA S) (plS sgB S)) → Q (some (.int (bi b))) S)) : ∀ (t i : Nat), i + t = 4 → (∀ j, j < i → RowEq (plS sgA S) (plS sgB S) j) → AJ (d + 4) kX4_equalTo layX 50 [some (.ref 10), some (.ref 27), some (.int (nI i))] [] S Q := by
  intro t
  induction t with
  | zero =>
    intro i hi hp
    obtain rfl : i = 4 := by omega
    refine aj_iload_n (q := 51) (i := 2) dX4_equalTo_50 rfl rfl rfl ?_
    refine aj_iconst (q := 52) (v := 4) dX4_equalTo_51 rfl (by decide) ?_
    refine aj_icmp_ge (q := 55) (tgt := 72) dX4_equalTo_52 rfl (by decide) (fun _ => ?_) (fun c => absurd (show (4 : Int32) ≤ nI 4 by decide) c)
    refine aj_iconst (q := 73) (v := 1) dX4_equalTo_72 rfl (by decide) ?_
    refine aj_zreturn dX4_equalTo_73 rfl (bi_nar true) ?_
    exact hQ true ⟨fun _ => ⟨e1, e2, hp⟩, fun _ => rfl⟩
  | succ t ih =>
    intro i hi hp
    refine aj_iload_n (q := 51) (i := 2) dX4_equalTo_50 rfl rfl rfl ?_
    refine aj_iconst (q := 52) (v := 4) dX4_equalTo_51 rfl (by decide) ?_
    refine aj_icmp_ge (q := 55) (tgt := 72) dX4_equalTo_52 rfl (by decide) (fun c => absurd (show nI 4 ≤ nI i from c) (nI_ge (by omega) (by omega))) (fun _ => ?_)
    refine aj_aload_n (q := 56) (i := 0) dX4_equalTo_55 rfl rfl rfl ?_
    refine aj_aload_n (q := 57) (i := 1) dX4_equalTo_56 rfl rfl rfl ?_
    refine aj_iload_n (q := 58) (i := 2) dX4_equalTo_57 rfl rfl rfl ?_
    refine aj_callV (q := 61) (As := [_, _]) cl_X4_41 mk_X4_rowEqualTo dX4_equalTo_58 rfl lX_10 rfl rfl (Nat.le_of_ble_eq_true rfl) (sp_X4_rowEqualTo_A (by omega) hT hO (fun b hb => ?_))
    refine aj_ifB_ne (q := 64) (tgt := 66) dX4_equalTo_61 rfl (by decide) (fun c61_2 => ?_) (fun c61_2 => ?_)
    · refine aj_iinc (q := 69) (i := 2) (ls' := [_, _, _]) dX4_equalTo_66 rfl rfl (nI_1 i) (by decide) rfl ?_
      refine aj_goto (tgt := 50) dX4_equalTo_69 (by decide) ?_
      refine ih (i + 1) (by omega) (fun j hj => ?_)
      rcases (show j < i ∨ j = i by omega) with q | rfl
      · exact hp j q
      · exact hb.mp (by assumption)
    · refine aj_iconst (q := 65) (v := 0) dX4_equalTo_64 rfl (by decide) ?_
      refine aj_zreturn dX4_equalTo_65 rfl (bi_nar false) ?_
      exact hQ false ⟨fun h => (by cases h), fun h => absurd (hb.mpr (h.2.2 i (by omega))) (by rw [show b = false by assumption]; decide)⟩
theorem eq_loop1_A {d : Nat} {S : Sx} {Q : Option Value → Sx → Prop} (hT : wfR (plS sgA S)) (hO : wfR (plS sgB S)) (e1 : (plS sgA S) 105 0 = (plS sgB S) 105 0) (hQ : (∀ b : Bool, (b = true ↔ MemEq (plS sgA S) (plS sgB S)) → Q (some (.int (bi b))) S)) : ∀ (t i : Nat), i + t = 8 → (∀ v, v < i → (plS sgA S) 200 v = (plS sgB S) 200 v) → AJ (d + 4) kX4_equalTo layX 19 [some (.ref 10), some (.ref 27), some (.int (nI i))] [] S Q := by
  intro t
  induction t with
  | zero =>
    intro i hi hp
    obtain rfl : i = 8 := by omega
    refine aj_iload_n (q := 20) (i := 2) dX4_equalTo_19 rfl rfl rfl ?_
    refine aj_bipush (q := 22) (v := 8) dX4_equalTo_20 rfl (by decide) ?_
    refine aj_icmp_ge (q := 25) (tgt := 48) dX4_equalTo_22 rfl (by decide) (fun _ => ?_) (fun c => absurd (show (8 : Int32) ≤ nI 8 by decide) c)
    refine aj_iconst (q := 49) (v := 0) dX4_equalTo_48 rfl (by decide) ?_
    refine aj_istore_n (q := 50) (i := 2) (ls' := [_, _, _]) dX4_equalTo_49 rfl rfl (by decide) rfl ?_
    exact eq_loop2_A hT hO e1 hp hQ 4 0 (by omega) (fun j hj => by omega)
  | succ t ih =>
    intro i hi hp
    refine aj_iload_n (q := 20) (i := 2) dX4_equalTo_19 rfl rfl rfl ?_
    refine aj_bipush (q := 22) (v := 8) dX4_equalTo_20 rfl (by decide) ?_
    refine aj_icmp_ge (q := 25) (tgt := 48) dX4_equalTo_22 rfl (by decide) (fun c => absurd (show nI 8 ≤ nI i from c) (nI_ge (by omega) (by omega))) (fun _ => ?_)
    refine aj_aload_n (q := 26) (i := 0) dX4_equalTo_25 rfl rfl rfl ?_
    refine aj_getR (q := 29) fl_X4_9 dX4_equalTo_26 rfl lX_10 rfl ?_
    refine aj_iload_n (q := 30) (i := 2) dX4_equalTo_29 rfl rfl rfl ?_
    refine aj_iaload (q := 31) (f := 1100) dX4_equalTo_30 rfl lX_11 rfl (vp_in_nI (by omega) (by omega)) ?_
    try simp only [cl i]
    refine aj_aload_n (q := 32) (i := 1) dX4_equalTo_31 rfl rfl rfl ?_
    refine aj_getR (q := 35) fl_X4_9 dX4_equalTo_32 rfl lX_27 rfl ?_
    refine aj_iload_n (q := 36) (i := 2) dX4_equalTo_35 rfl rfl rfl ?_
    refine aj_iaload (q := 37) (f := 2800) dX4_equalTo_36 rfl lX_28 rfl (vp_in_nI (by omega) (by omega)) ?_
    try simp only [cl i]
    refine aj_icmp_eq (q := 40) (tgt := 42) dX4_equalTo_37 rfl (by decide) (fun c37_2 => ?_) (fun c37_2 => ?_)
    · refine aj_iinc (q := 45) (i := 2) (ls' := [_, _, _]) dX4_equalTo_42 rfl rfl (nI_1 i) (by decide) rfl ?_
      refine aj_goto (tgt := 19) dX4_equalTo_45 (by decide) ?_
      refine ih (i + 1) (by omega) (fun j hj => ?_)
      rcases (show j < i ∨ j = i by omega) with q | rfl
      · exact hp j q
      · assumption
    · refine aj_iconst (q := 41) (v := 0) dX4_equalTo_40 rfl (by decide) ?_
      refine aj_zreturn dX4_equalTo_41 rfl (bi_nar false) ?_
      exact hQ false ⟨fun h => (by cases h), fun h => absurd (h.2.1 i (by omega)) (by assumption)⟩
theorem sp_X4_equalTo_A {d : Nat} {S : Sx} {Q : Option Value → Sx → Prop} (hT : wfR (plS sgA S)) (hO : wfR (plS sgB S)) (hQ : (∀ b : Bool, (b = true ↔ MemEq (plS sgA S) (plS sgB S)) → Q (some (.int (bi b))) S)) : CC (d + 4) kX4_equalTo layX [.ref 10, .ref 27] S Q := by
  refine cc_intro [some _, some _, none] (by decide) (cc_cat (by rfl)) (Nat.le_of_ble_eq_true rfl) (cc_ls (by rfl)) ?_
  refine aj_aload_n (q := 1) (i := 1) dX4_equalTo_0 rfl rfl rfl ?_
  refine aj_ifnull (q := 4) dX4_equalTo_1 rfl ?_
  refine aj_aload_n (q := 5) (i := 0) dX4_equalTo_4 rfl rfl rfl ?_
  refine aj_getI (q := 8) (f := 1005) fl_X4_34 dX4_equalTo_5 rfl lX_10 rfl rfl ?_
  refine aj_aload_n (q := 9) (i := 1) dX4_equalTo_8 rfl rfl rfl ?_
  refine aj_getI (q := 12) (f := 2705) fl_X4_34 dX4_equalTo_9 rfl lX_27 rfl rfl ?_
  refine aj_icmp_eq (q := 15) (tgt := 17) dX4_equalTo_12 rfl (by decide) (fun c12_1 => ?_) (fun c12_1 => ?_)
  · refine aj_iconst (q := 18) (v := 0) dX4_equalTo_17 rfl (by decide) ?_
    refine aj_istore_n (q := 19) (i := 2) (ls' := [_, _, _]) dX4_equalTo_18 rfl rfl (by decide) rfl ?_
    exact eq_loop1_A hT hO (by assumption) hQ 8 0 (by omega) (fun j hj => by omega)
  · refine aj_iconst (q := 16) (v := 0) dX4_equalTo_15 rfl (by decide) ?_
    refine aj_zreturn dX4_equalTo_16 rfl (bi_nar false) ?_
    exact hQ false ⟨fun h => (by cases h), fun h => absurd h.1 (by assumption)⟩
theorem tells_loop_A {d : Nat} {S : Sx} {Q : Option Value → Sx → Prop} (hT : wfR (plS sgA S)) (hO : wfR (plS sgB S)) (hQ : (∀ b : Bool, (b = true ↔ RunEq (plS sgA S) (plS sgB S)) → Q (some (.int (bi b))) S)) : ∀ (t i : Nat), i + t = 3 → (∀ v, v < i → rTell (plS sgA S) (nI v) = rTell (plS sgB S) (nI v)) → AJ (d + 5) kX7_tellsTheSameAs layX 8 [some (.ref 9), some (.ref 26), some (.int (nI i))] [] S Q := by
  intro t
  induction t with
  | zero =>
    intro i hi hp
    obtain rfl : i = 3 := by omega
    refine aj_iload_n (q := 9) (i := 2) dX7_tellsTheSameAs_8 rfl rfl rfl ?_
    refine aj_iconst (q := 10) (v := 2) dX7_tellsTheSameAs_9 rfl (by decide) ?_
    refine aj_icmp_gt (q := 13) (tgt := 34) dX7_tellsTheSameAs_10 rfl (by decide) (fun _ => ?_) (fun c => absurd (show (2 : Int32) < nI 3 by decide) c)
    refine aj_aload_n (q := 35) (i := 0) dX7_tellsTheSameAs_34 rfl rfl rfl ?_
    refine aj_getR (q := 38) fl_X7_12 dX7_tellsTheSameAs_35 rfl lX_9 rfl ?_
    refine aj_aload_n (q := 39) (i := 1) dX7_tellsTheSameAs_38 rfl rfl rfl ?_
    refine aj_getR (q := 42) fl_X7_12 dX7_tellsTheSameAs_39 rfl lX_26 rfl ?_
    refine aj_callV (q := 45) (As := [_]) cl_X7_110 mk_X4_equalTo dX7_tellsTheSameAs_42 rfl lX_10 rfl rfl (Nat.le_of_ble_eq_true rfl) (sp_X4_equalTo_A hT hO (fun b hb => ?_))
    refine aj_zreturn dX7_tellsTheSameAs_45 rfl (bi_nar _) ?_
    exact hQ b ⟨fun h => ⟨hp, hb.mp h⟩, fun h => hb.mpr h.2⟩
  | succ t ih =>
    intro i hi hp
    refine aj_iload_n (q := 9) (i := 2) dX7_tellsTheSameAs_8 rfl rfl rfl ?_
    refine aj_iconst (q := 10) (v := 2) dX7_tellsTheSameAs_9 rfl (by decide) ?_
    refine aj_icmp_gt (q := 13) (tgt := 34) dX7_tellsTheSameAs_10 rfl (by decide) (fun c => absurd ((nI_ltI (a := 2) (b := i) (by omega) (by omega)).mp c) (by omega)) (fun _ => ?_)
    refine aj_aload_n (q := 14) (i := 0) dX7_tellsTheSameAs_13 rfl rfl rfl ?_
    refine aj_iload_n (q := 15) (i := 2) dX7_tellsTheSameAs_14 rfl rfl rfl ?_
    refine aj_callV (q := 18) (As := [_]) cl_X7_106 mk_X7_tell dX7_tellsTheSameAs_15 rfl lX_9 rfl rfl (Nat.le_of_ble_eq_true rfl) (cc_frame (sg := sgA) (av := [.ref 0, .int _]) embA rfl (sg_r rfl) (sp_X7_tell hT (fq ?_)))
    rw [psS_pl]
    refine aj_aload_n (q := 19) (i := 1) dX7_tellsTheSameAs_18 rfl rfl rfl ?_
    refine aj_iload_n (q := 20) (i := 2) dX7_tellsTheSameAs_19 rfl rfl rfl ?_
    refine aj_callV (q := 23) (As := [_]) cl_X7_106 mk_X7_tell dX7_tellsTheSameAs_20 rfl lX_26 rfl rfl (Nat.le_of_ble_eq_true rfl) (cc_frame (sg := sgB) (av := [.ref 0, .int _]) embB rfl (sg_r rfl) (sp_X7_tell hO (fq ?_)))
    rw [psS_pl]
    refine aj_icmp_eq (q := 26) (tgt := 28) dX7_tellsTheSameAs_23 rfl (by decide) (fun c23_2 => ?_) (fun c23_2 => ?_)
    · refine aj_iinc (q := 31) (i := 2) (ls' := [_, _, _]) dX7_tellsTheSameAs_28 rfl rfl (nI_1 i) (by decide) rfl ?_
      refine aj_goto (tgt := 8) dX7_tellsTheSameAs_31 (by decide) ?_
      refine ih (i + 1) (by omega) (fun j hj => ?_)
      rcases (show j < i ∨ j = i by omega) with q | rfl
      · exact hp j q
      · assumption
    · refine aj_iconst (q := 27) (v := 0) dX7_tellsTheSameAs_26 rfl (by decide) ?_
      refine aj_zreturn dX7_tellsTheSameAs_27 rfl (bi_nar false) ?_
      exact hQ false ⟨fun h => (by cases h), fun h => absurd (h.1 i (by omega)) (by assumption)⟩
theorem sp_X7_tellsTheSameAs_A {d : Nat} {S : Sx} {Q : Option Value → Sx → Prop} (hT : wfR (plS sgA S)) (hO : wfR (plS sgB S)) (hQ : (∀ b : Bool, (b = true ↔ RunEq (plS sgA S) (plS sgB S)) → Q (some (.int (bi b))) S)) : CC (d + 5) kX7_tellsTheSameAs layX [.ref 9, .ref 26] S Q := by
  refine cc_intro [some _, some _, none] (by decide) (cc_cat (by rfl)) (Nat.le_of_ble_eq_true rfl) (cc_ls (by rfl)) ?_
  refine aj_aload_n (q := 1) (i := 1) dX7_tellsTheSameAs_0 rfl rfl rfl ?_
  refine aj_ifnonnull (tgt := 6) dX7_tellsTheSameAs_1 (by decide) ?_
  refine aj_iconst (q := 7) (v := 0) dX7_tellsTheSameAs_6 rfl (by decide) ?_
  refine aj_istore_n (q := 8) (i := 2) (ls' := [_, _, _]) dX7_tellsTheSameAs_7 rfl rfl (by decide) rfl ?_
  exact tells_loop_A hT hO hQ 3 0 (by omega) (fun j hj => by omega)
def xSwp (S : Sx) (a b : Nat) : Sx := sw (sw S 2 0 (nI a)) 3 0 (nI b)
def xRun (S F : Sx) (sg : List Nat) : Sx := xCnt (psS sg S F) (F 8 0)
theorem sp_X9_same_A {d : Nat} {S : Sx} {Q : Option Value → Sx → Prop} {m x b o : Int32} {F1 F2 : Sx} (j1 j2 : Nat) (hl : S 2 0 = 9) (he : S 3 0 = 26) (hw : wfR (plS sgA S)) (hwo : wfR (plS sgB S)) (hm : ¬ gBody (plS sgA S) m = -1) (hb : inb b 161 = true) (ho : inb o 161 = true) (hj1 : j1 ≤ 1000000000) (h01 : ∀ i, i < j1 → fEmpty (rIt i (rStart (plS sgA (xSwp S 26 9)) (gBody (plS sgA S) m) x b)) = false) (h11 : fEmpty (rIt j1 (rStart (plS sgA (xSwp S 26 9)) (gBody (plS sgA S) m) x b)) = true) (eF1 : F1 = (rFin (rIt j1 (rStart (plS sgA (xSwp S 26 9)) (gBody (plS sgA S) m) x b)))) (hj2 : j2 ≤ 1000000000) (h02 : ∀ i, i < j2 → fEmpty (rIt i (rStart (plS sgB (xRun (xSwp S 26 9) F1 sgA)) (gBody (plS sgA S) m) x o)) = false) (h12 : fEmpty (rIt j2 (rStart (plS sgB (xRun (xSwp S 26 9) F1 sgA)) (gBody (plS sgA S) m) x o)) = true) (eF2 : F2 = rFin (rIt j2 (rStart (plS sgB (xRun (xSwp S 26 9) F1 sgA)) (gBody (plS sgA S) m) x o))) (hQ : wfR F1 → wfR F2 → ∀ bb : Bool, (bb = true ↔ RunEq (plS sgB (xRun (xRun (xSwp S 26 9) F1 sgA) F2 sgB)) (plS sgA (xRun (xRun (xSwp S 26 9) F1 sgA) F2 sgB))) → Q (some (.int (bi bb))) (xRun (xRun (xSwp S 26 9) F1 sgA) F2 sgB)) : CC (d + 7) kX9_same layX [.ref 0, .int m, .int x, .int b, .int o] S Q := by
  have wf1 : wfR (plS sgA (xSwp S 26 9)) := ((ag_sw sgA_ge (by omega)).tr (ag_sw sgA_ge (by omega))).sy.wf hw
  have wf1' : wfR (plS sgB (xSwp S 26 9)) := ((ag_sw sgB_ge (by omega)).tr (ag_sw sgB_ge (by omega))).sy.wf hwo
  have wf2 : wfR (rFin (rIt j1 (rStart (plS sgA (xSwp S 26 9)) (gBody (plS sgA S) m) x b))) → wfR (plS sgB (xRun (xSwp S 26 9) F1 sgA)) := fun h => ((ag_cnt sgB_ge).tr agAB).sy.wf (Mix.wf wf1' (by rw [eF1]; exact h))
  have wf2' : wfR (rFin (rIt j1 (rStart (plS sgA (xSwp S 26 9)) (gBody (plS sgA S) m) x b))) → wfR (plS sgA (xRun (xSwp S 26 9) F1 sgA)) := fun h => ((ag_cnt sgA_ge).tr agA).sy.wf (by rw [eF1]; exact h)
  have wf3 : wfR (rFin (rIt j1 (rStart (plS sgA (xSwp S 26 9)) (gBody (plS sgA S) m) x b))) → wfR (rFin (rIt j2 (rStart (plS sgB (xRun (xSwp S 26 9) F1 sgA)) (gBody (plS sgA S) m) x o))) → wfR (plS sgB (xRun (xRun (xSwp S 26 9) F1 sgA) F2 sgB)) := fun h g => ((ag_cnt sgB_ge).tr agB).sy.wf (by rw [eF2]; exact g)
  have wf4 : wfR (rFin (rIt j1 (rStart (plS sgA (xSwp S 26 9)) (gBody (plS sgA S) m) x b))) → wfR (rFin (rIt j2 (rStart (plS sgB (xRun (xSwp S 26 9) F1 sgA)) (gBody (plS sgA S) m) x o))) → wfR (plS sgA (xRun (xRun (xSwp S 26 9) F1 sgA) F2 sgB)) := fun h g => ((ag_cnt sgA_ge).tr agBA).sy.wf (Mix.wf (wf2' h) (by rw [eF2]; exact g))
  subst eF1
  subst eF2
  refine cc_intro [some _, some _, some _, some _, some _, none, none] (by decide) (cc_cat (by rfl)) (Nat.le_of_ble_eq_true rfl) (cc_ls (by rfl)) ?_
  refine aj_aload_n (q := 1) (i := 0) dX9_same_0 rfl rfl rfl ?_
  refine aj_getR (q := 4) fl_X9_10 dX9_same_1 rfl lX_0 rfl ?_
  refine aj_iload_n (q := 5) (i := 1) dX9_same_4 rfl rfl rfl ?_
  refine aj_callV (q := 8) (As := [_]) cl_X9_63 mk_X5_bodyOf dX9_same_5 rfl lX_2 rfl rfl (Nat.le_of_ble_eq_true rfl) (cc_frame (sg := sgA) (av := [.ref 17, .int _]) embA rfl (sg_r rfl) (sp_X5_bodyOf (fq ?_)))
  rw [psS_pl]
  refine aj_iconst (q := 9) (v := (-1)) dX9_same_8 rfl (by decide) ?_
  refine aj_icmp_eq (q := 12) (tgt := 27) dX9_same_9 rfl (by decide) (fun c => absurd c hm) (fun _ => ?_)
  refine aj_iload_n (q := 13) (i := 3) dX9_same_12 rfl rfl rfl ?_
  refine aj_callS (q := 16) (As := [_]) cl_X9_67 mk_X9_isBudget dX9_same_13 rfl rfl (Nat.le_of_ble_eq_true rfl) (sp_X9_isBudget ?_)
  refine aj_ifB_eq (q := 19) (tgt := 27) dX9_same_16 rfl (by decide) (fun c => absurd (hb.symm.trans c) (by decide)) (fun _ => ?_)
  refine aj_iload (q := 21) (i := 4) dX9_same_19 rfl rfl ?_
  refine aj_callS (q := 24) (As := [_]) cl_X9_67 mk_X9_isBudget dX9_same_21 rfl rfl (Nat.le_of_ble_eq_true rfl) (sp_X9_isBudget ?_)
  refine aj_ifB_ne (q := 27) (tgt := 30) dX9_same_24 rfl (by decide) (fun _ => ?_) (fun c => absurd (ho.symm.trans c) (by decide))
  refine aj_aload_n (q := 31) (i := 0) dX9_same_30 rfl rfl rfl ?_
  refine aj_getR (q := 34) fl_X9_10 dX9_same_31 rfl lX_0 rfl ?_
  refine aj_iload_n (q := 35) (i := 1) dX9_same_34 rfl rfl rfl ?_
  refine aj_callV (q := 38) (As := [_]) cl_X9_63 mk_X5_bodyOf dX9_same_35 rfl lX_2 rfl rfl (Nat.le_of_ble_eq_true rfl) (cc_frame (sg := sgA) (av := [.ref 17, .int _]) embA rfl (sg_r rfl) (sp_X5_bodyOf (fq ?_)))
  rw [psS_pl]
  refine aj_istore (q := 40) (i := 5) (ls' := [_, _, _, _, _, _, _]) dX9_same_38 rfl (by decide) rfl ?_
  refine aj_aload_n (q := 41) (i := 0) dX9_same_40 rfl rfl rfl ?_
  refine aj_getD (q := 44) (f := 2) fl_X9_25 dX9_same_41 rfl lX_0 rfl rfl ?_
  rw [hl]
  show AJ _ _ _ _ _ (.ref 9 :: _) _ _
  refine aj_astore (q := 46) (i := 6) (ls' := [_, _, _, _, _, _, _]) dX9_same_44 rfl (by decide) rfl ?_
  refine aj_aload_n (q := 47) (i := 0) dX9_same_46 rfl rfl rfl ?_
  refine aj_aload_n (q := 48) (i := 0) dX9_same_47 rfl rfl rfl ?_
  refine aj_getD (q := 51) (f := 3) fl_X9_29 dX9_same_48 rfl lX_0 rfl rfl ?_
  rw [he]
  show AJ _ _ _ _ _ (.ref 26 :: _) _ _
  refine aj_putD (q := 54) (f := 2) (r := 26) okX fp_X9_25 dX9_same_51 rfl lX_0 rfl rfl (by decide) ?_
  refine aj_aload_n (q := 55) (i := 0) dX9_same_54 rfl rfl rfl ?_
  refine aj_aload (q := 57) (i := 6) dX9_same_55 rfl rfl ?_
  refine aj_putD (q := 60) (f := 3) (r := 9) okX fp_X9_29 dX9_same_57 rfl lX_0 rfl rfl (by decide) ?_
  refine aj_aload_n (q := 61) (i := 0) dX9_same_60 rfl rfl rfl ?_
  refine aj_aload (q := 63) (i := 6) dX9_same_61 rfl rfl ?_
  refine aj_iload (q := 65) (i := 5) dX9_same_63 rfl rfl ?_
  refine aj_iload_n (q := 66) (i := 2) dX9_same_65 rfl rfl rfl ?_
  refine aj_iload_n (q := 67) (i := 3) dX9_same_66 rfl rfl rfl ?_
  refine aj_callV (q := 70) (As := [_, _, _]) cl_X9_70 mk_X7_perform dX9_same_67 rfl lX_9 rfl rfl (Nat.le_of_ble_eq_true rfl) (cc_frame (sg := sgA) (av := [.ref 0, .int _, .int _, .int _]) embA rfl (sg_r rfl) (sp_X7_perform j1 hj1 h01 h11 wf1 (fun hF1 => fq ?_)))
  refine aj_callV (q := 73) (As := [_]) cl_X9_74 mk_X9_counted dX9_same_70 rfl lX_0 rfl rfl (Nat.le_of_ble_eq_true rfl) (sp_X9_counted ?_)
  refine aj_pop (q := 74) dX9_same_73 rfl rfl ?_
  refine aj_aload_n (q := 75) (i := 0) dX9_same_74 rfl rfl rfl ?_
  refine aj_aload_n (q := 76) (i := 0) dX9_same_75 rfl rfl rfl ?_
  refine aj_getD (q := 79) (f := 2) fl_X9_25 dX9_same_76 rfl lX_0 rfl rfl ?_
  simp only [xc_lo (show 2 ≠ 100 by decide), psA_lo (show 2 < 200 by decide), psB_lo (show 2 < 200 by decide), sw_ne (show 2 ≠ 3 by decide), sw_eq]
  show AJ _ _ _ _ _ (.ref 26 :: _) _ _
  refine aj_iload (q := 81) (i := 5) dX9_same_79 rfl rfl ?_
  refine aj_iload_n (q := 82) (i := 2) dX9_same_81 rfl rfl rfl ?_
  refine aj_iload (q := 84) (i := 4) dX9_same_82 rfl rfl ?_
  refine aj_callV (q := 87) (As := [_, _, _]) cl_X9_70 mk_X7_perform dX9_same_84 rfl lX_26 rfl rfl (Nat.le_of_ble_eq_true rfl) (cc_frame (sg := sgB) (av := [.ref 0, .int _, .int _, .int _]) embB rfl (sg_r rfl) (sp_X7_perform j2 hj2 h02 h12 (wf2 hF1) (fun hF2 => fq ?_)))
  refine aj_callV (q := 90) (As := [_]) cl_X9_74 mk_X9_counted dX9_same_87 rfl lX_0 rfl rfl (Nat.le_of_ble_eq_true rfl) (sp_X9_counted ?_)
  refine aj_pop (q := 91) dX9_same_90 rfl rfl ?_
  refine aj_aload_n (q := 92) (i := 0) dX9_same_91 rfl rfl rfl ?_
  refine aj_getD (q := 95) (f := 2) fl_X9_25 dX9_same_92 rfl lX_0 rfl rfl ?_
  simp only [xc_lo (show 2 ≠ 100 by decide), psA_lo (show 2 < 200 by decide), psB_lo (show 2 < 200 by decide), sw_ne (show 2 ≠ 3 by decide), sw_eq]
  show AJ _ _ _ _ _ (.ref 26 :: _) _ _
  refine aj_aload (q := 97) (i := 6) dX9_same_95 rfl rfl ?_
  refine aj_callV (q := 100) (As := [_]) cl_X9_124 mk_X7_tellsTheSameAs dX9_same_97 rfl lX_26 rfl rfl (Nat.le_of_ble_eq_true rfl) (sp_X7_tellsTheSameAs_B (wf3 hF1 hF2) (wf4 hF1 hF2) (fun bb hbb => ?_))
  refine aj_ifB_eq (q := 103) (tgt := 107) dX9_same_100 rfl (by decide) (fun c100_4 => ?_) (fun c100_4 => ?_)
  · refine aj_iconst (q := 108) (v := 0) dX9_same_107 rfl (by decide) ?_
    refine aj_ireturn dX9_same_108 rfl ?_
    have q := hQ hF1 hF2 bb hbb
    first | (rw [show bb = true by assumption] at q; exact q) | (rw [show bb = false by assumption] at q; exact q)
  · refine aj_iconst (q := 104) (v := 1) dX9_same_103 rfl (by decide) ?_
    refine aj_goto (tgt := 108) dX9_same_104 (by decide) ?_
    refine aj_ireturn dX9_same_108 rfl ?_
    have q := hQ hF1 hF2 bb hbb
    first | (rw [show bb = true by assumption] at q; exact q) | (rw [show bb = false by assumption] at q; exact q)
theorem sp_X9_sameB_A {d : Nat} {S : Sx} {Q : Option Value → Sx → Prop} {m x b o : Int32} (hl : S 2 0 = 9) (he : S 3 0 = 26) (hw : wfR (plS sgA S)) (hm : gBody (plS sgA S) m = -1 ∨ inb b 161 = false ∨ inb o 161 = false) (hQ : Q (some (.int (-2))) S) : CC (d + 7) kX9_same layX [.ref 0, .int m, .int x, .int b, .int o] S Q := by
  refine cc_intro [some _, some _, some _, some _, some _, none, none] (by decide) (cc_cat (by rfl)) (Nat.le_of_ble_eq_true rfl) (cc_ls (by rfl)) ?_
  refine aj_aload_n (q := 1) (i := 0) dX9_same_0 rfl rfl rfl ?_
  refine aj_getR (q := 4) fl_X9_10 dX9_same_1 rfl lX_0 rfl ?_
  refine aj_iload_n (q := 5) (i := 1) dX9_same_4 rfl rfl rfl ?_
  refine aj_callV (q := 8) (As := [_]) cl_X9_63 mk_X5_bodyOf dX9_same_5 rfl lX_2 rfl rfl (Nat.le_of_ble_eq_true rfl) (cc_frame (sg := sgA) (av := [.ref 17, .int _]) embA rfl (sg_r rfl) (sp_X5_bodyOf (fq ?_)))
  rw [psS_pl]
  refine aj_iconst (q := 9) (v := (-1)) dX9_same_8 rfl (by decide) ?_
  refine aj_icmp_eq (q := 12) (tgt := 27) dX9_same_9 rfl (by decide) (fun c9_1 => ?_) (fun c9_1 => ?_)
  · refine aj_bipush (q := 29) (v := (-2)) dX9_same_27 rfl (by decide) ?_
    refine aj_ireturn dX9_same_29 rfl ?_
    exact hQ
  · refine aj_iload_n (q := 13) (i := 3) dX9_same_12 rfl rfl rfl ?_
    refine aj_callS (q := 16) (As := [_]) cl_X9_67 mk_X9_isBudget dX9_same_13 rfl rfl (Nat.le_of_ble_eq_true rfl) (sp_X9_isBudget ?_)
    refine aj_ifB_eq (q := 19) (tgt := 27) dX9_same_16 rfl (by decide) (fun c16_2 => ?_) (fun c16_2 => ?_)
    · refine aj_bipush (q := 29) (v := (-2)) dX9_same_27 rfl (by decide) ?_
      refine aj_ireturn dX9_same_29 rfl ?_
      exact hQ
    · refine aj_iload (q := 21) (i := 4) dX9_same_19 rfl rfl ?_
      refine aj_callS (q := 24) (As := [_]) cl_X9_67 mk_X9_isBudget dX9_same_21 rfl rfl (Nat.le_of_ble_eq_true rfl) (sp_X9_isBudget ?_)
      refine aj_ifB_ne (q := 27) (tgt := 30) dX9_same_24 rfl (by decide) (fun c24_3 => ?_) (fun c24_3 => ?_)
      · rcases hm with q | q | q
        · exact absurd q (by assumption)
        · rw [show inb b 161 = true by assumption] at q
          cases q
        · rw [show inb o 161 = true by assumption] at q
          cases q
      · refine aj_bipush (q := 29) (v := (-2)) dX9_same_27 rfl (by decide) ?_
        refine aj_ireturn dX9_same_29 rfl ?_
        exact hQ
theorem sp_X9_same_B {d : Nat} {S : Sx} {Q : Option Value → Sx → Prop} {m x b o : Int32} {F1 F2 : Sx} (j1 j2 : Nat) (hl : S 2 0 = 26) (he : S 3 0 = 9) (hw : wfR (plS sgB S)) (hwo : wfR (plS sgA S)) (hm : ¬ gBody (plS sgB S) m = -1) (hb : inb b 161 = true) (ho : inb o 161 = true) (hj1 : j1 ≤ 1000000000) (h01 : ∀ i, i < j1 → fEmpty (rIt i (rStart (plS sgB (xSwp S 9 26)) (gBody (plS sgB S) m) x b)) = false) (h11 : fEmpty (rIt j1 (rStart (plS sgB (xSwp S 9 26)) (gBody (plS sgB S) m) x b)) = true) (eF1 : F1 = (rFin (rIt j1 (rStart (plS sgB (xSwp S 9 26)) (gBody (plS sgB S) m) x b)))) (hj2 : j2 ≤ 1000000000) (h02 : ∀ i, i < j2 → fEmpty (rIt i (rStart (plS sgA (xRun (xSwp S 9 26) F1 sgB)) (gBody (plS sgB S) m) x o)) = false) (h12 : fEmpty (rIt j2 (rStart (plS sgA (xRun (xSwp S 9 26) F1 sgB)) (gBody (plS sgB S) m) x o)) = true) (eF2 : F2 = rFin (rIt j2 (rStart (plS sgA (xRun (xSwp S 9 26) F1 sgB)) (gBody (plS sgB S) m) x o))) (hQ : wfR F1 → wfR F2 → ∀ bb : Bool, (bb = true ↔ RunEq (plS sgA (xRun (xRun (xSwp S 9 26) F1 sgB) F2 sgA)) (plS sgB (xRun (xRun (xSwp S 9 26) F1 sgB) F2 sgA))) → Q (some (.int (bi bb))) (xRun (xRun (xSwp S 9 26) F1 sgB) F2 sgA)) : CC (d + 7) kX9_same layX [.ref 0, .int m, .int x, .int b, .int o] S Q := by
  have wf1 : wfR (plS sgB (xSwp S 9 26)) := ((ag_sw sgB_ge (by omega)).tr (ag_sw sgB_ge (by omega))).sy.wf hw
  have wf1' : wfR (plS sgA (xSwp S 9 26)) := ((ag_sw sgA_ge (by omega)).tr (ag_sw sgA_ge (by omega))).sy.wf hwo
  have wf2 : wfR (rFin (rIt j1 (rStart (plS sgB (xSwp S 9 26)) (gBody (plS sgB S) m) x b))) → wfR (plS sgA (xRun (xSwp S 9 26) F1 sgB)) := fun h => ((ag_cnt sgA_ge).tr agBA).sy.wf (Mix.wf wf1' (by rw [eF1]; exact h))
  have wf2' : wfR (rFin (rIt j1 (rStart (plS sgB (xSwp S 9 26)) (gBody (plS sgB S) m) x b))) → wfR (plS sgB (xRun (xSwp S 9 26) F1 sgB)) := fun h => ((ag_cnt sgB_ge).tr agB).sy.wf (by rw [eF1]; exact h)
  have wf3 : wfR (rFin (rIt j1 (rStart (plS sgB (xSwp S 9 26)) (gBody (plS sgB S) m) x b))) → wfR (rFin (rIt j2 (rStart (plS sgA (xRun (xSwp S 9 26) F1 sgB)) (gBody (plS sgB S) m) x o))) → wfR (plS sgA (xRun (xRun (xSwp S 9 26) F1 sgB) F2 sgA)) := fun h g => ((ag_cnt sgA_ge).tr agA).sy.wf (by rw [eF2]; exact g)
  have wf4 : wfR (rFin (rIt j1 (rStart (plS sgB (xSwp S 9 26)) (gBody (plS sgB S) m) x b))) → wfR (rFin (rIt j2 (rStart (plS sgA (xRun (xSwp S 9 26) F1 sgB)) (gBody (plS sgB S) m) x o))) → wfR (plS sgB (xRun (xRun (xSwp S 9 26) F1 sgB) F2 sgA)) := fun h g => ((ag_cnt sgB_ge).tr agAB).sy.wf (Mix.wf (wf2' h) (by rw [eF2]; exact g))
  subst eF1
  subst eF2
  refine cc_intro [some _, some _, some _, some _, some _, none, none] (by decide) (cc_cat (by rfl)) (Nat.le_of_ble_eq_true rfl) (cc_ls (by rfl)) ?_
  refine aj_aload_n (q := 1) (i := 0) dX9_same_0 rfl rfl rfl ?_
  refine aj_getR (q := 4) fl_X9_10 dX9_same_1 rfl lX_0 rfl ?_
  refine aj_iload_n (q := 5) (i := 1) dX9_same_4 rfl rfl rfl ?_
  refine aj_callV (q := 8) (As := [_]) cl_X9_63 mk_X5_bodyOf dX9_same_5 rfl lX_2 rfl rfl (Nat.le_of_ble_eq_true rfl) (cc_frame (sg := sgB) (av := [.ref 17, .int _]) embB rfl (sg_r rfl) (sp_X5_bodyOf (fq ?_)))
  rw [psS_pl]
  refine aj_iconst (q := 9) (v := (-1)) dX9_same_8 rfl (by decide) ?_
  refine aj_icmp_eq (q := 12) (tgt := 27) dX9_same_9 rfl (by decide) (fun c => absurd c hm) (fun _ => ?_)
  refine aj_iload_n (q := 13) (i := 3) dX9_same_12 rfl rfl rfl ?_
  refine aj_callS (q := 16) (As := [_]) cl_X9_67 mk_X9_isBudget dX9_same_13 rfl rfl (Nat.le_of_ble_eq_true rfl) (sp_X9_isBudget ?_)
  refine aj_ifB_eq (q := 19) (tgt := 27) dX9_same_16 rfl (by decide) (fun c => absurd (hb.symm.trans c) (by decide)) (fun _ => ?_)
  refine aj_iload (q := 21) (i := 4) dX9_same_19 rfl rfl ?_
  refine aj_callS (q := 24) (As := [_]) cl_X9_67 mk_X9_isBudget dX9_same_21 rfl rfl (Nat.le_of_ble_eq_true rfl) (sp_X9_isBudget ?_)
  refine aj_ifB_ne (q := 27) (tgt := 30) dX9_same_24 rfl (by decide) (fun _ => ?_) (fun c => absurd (ho.symm.trans c) (by decide))
  refine aj_aload_n (q := 31) (i := 0) dX9_same_30 rfl rfl rfl ?_
  refine aj_getR (q := 34) fl_X9_10 dX9_same_31 rfl lX_0 rfl ?_
  refine aj_iload_n (q := 35) (i := 1) dX9_same_34 rfl rfl rfl ?_
  refine aj_callV (q := 38) (As := [_]) cl_X9_63 mk_X5_bodyOf dX9_same_35 rfl lX_2 rfl rfl (Nat.le_of_ble_eq_true rfl) (cc_frame (sg := sgB) (av := [.ref 17, .int _]) embB rfl (sg_r rfl) (sp_X5_bodyOf (fq ?_)))
  rw [psS_pl]
  refine aj_istore (q := 40) (i := 5) (ls' := [_, _, _, _, _, _, _]) dX9_same_38 rfl (by decide) rfl ?_
  refine aj_aload_n (q := 41) (i := 0) dX9_same_40 rfl rfl rfl ?_
  refine aj_getD (q := 44) (f := 2) fl_X9_25 dX9_same_41 rfl lX_0 rfl rfl ?_
  rw [hl]
  show AJ _ _ _ _ _ (.ref 26 :: _) _ _
  refine aj_astore (q := 46) (i := 6) (ls' := [_, _, _, _, _, _, _]) dX9_same_44 rfl (by decide) rfl ?_
  refine aj_aload_n (q := 47) (i := 0) dX9_same_46 rfl rfl rfl ?_
  refine aj_aload_n (q := 48) (i := 0) dX9_same_47 rfl rfl rfl ?_
  refine aj_getD (q := 51) (f := 3) fl_X9_29 dX9_same_48 rfl lX_0 rfl rfl ?_
  rw [he]
  show AJ _ _ _ _ _ (.ref 9 :: _) _ _
  refine aj_putD (q := 54) (f := 2) (r := 9) okX fp_X9_25 dX9_same_51 rfl lX_0 rfl rfl (by decide) ?_
  refine aj_aload_n (q := 55) (i := 0) dX9_same_54 rfl rfl rfl ?_
  refine aj_aload (q := 57) (i := 6) dX9_same_55 rfl rfl ?_
  refine aj_putD (q := 60) (f := 3) (r := 26) okX fp_X9_29 dX9_same_57 rfl lX_0 rfl rfl (by decide) ?_
  refine aj_aload_n (q := 61) (i := 0) dX9_same_60 rfl rfl rfl ?_
  refine aj_aload (q := 63) (i := 6) dX9_same_61 rfl rfl ?_
  refine aj_iload (q := 65) (i := 5) dX9_same_63 rfl rfl ?_
  refine aj_iload_n (q := 66) (i := 2) dX9_same_65 rfl rfl rfl ?_
  refine aj_iload_n (q := 67) (i := 3) dX9_same_66 rfl rfl rfl ?_
  refine aj_callV (q := 70) (As := [_, _, _]) cl_X9_70 mk_X7_perform dX9_same_67 rfl lX_26 rfl rfl (Nat.le_of_ble_eq_true rfl) (cc_frame (sg := sgB) (av := [.ref 0, .int _, .int _, .int _]) embB rfl (sg_r rfl) (sp_X7_perform j1 hj1 h01 h11 wf1 (fun hF1 => fq ?_)))
  refine aj_callV (q := 73) (As := [_]) cl_X9_74 mk_X9_counted dX9_same_70 rfl lX_0 rfl rfl (Nat.le_of_ble_eq_true rfl) (sp_X9_counted ?_)
  refine aj_pop (q := 74) dX9_same_73 rfl rfl ?_
  refine aj_aload_n (q := 75) (i := 0) dX9_same_74 rfl rfl rfl ?_
  refine aj_aload_n (q := 76) (i := 0) dX9_same_75 rfl rfl rfl ?_
  refine aj_getD (q := 79) (f := 2) fl_X9_25 dX9_same_76 rfl lX_0 rfl rfl ?_
  simp only [xc_lo (show 2 ≠ 100 by decide), psA_lo (show 2 < 200 by decide), psB_lo (show 2 < 200 by decide), sw_ne (show 2 ≠ 3 by decide), sw_eq]
  show AJ _ _ _ _ _ (.ref 9 :: _) _ _
  refine aj_iload (q := 81) (i := 5) dX9_same_79 rfl rfl ?_
  refine aj_iload_n (q := 82) (i := 2) dX9_same_81 rfl rfl rfl ?_
  refine aj_iload (q := 84) (i := 4) dX9_same_82 rfl rfl ?_
  refine aj_callV (q := 87) (As := [_, _, _]) cl_X9_70 mk_X7_perform dX9_same_84 rfl lX_9 rfl rfl (Nat.le_of_ble_eq_true rfl) (cc_frame (sg := sgA) (av := [.ref 0, .int _, .int _, .int _]) embA rfl (sg_r rfl) (sp_X7_perform j2 hj2 h02 h12 (wf2 hF1) (fun hF2 => fq ?_)))
  refine aj_callV (q := 90) (As := [_]) cl_X9_74 mk_X9_counted dX9_same_87 rfl lX_0 rfl rfl (Nat.le_of_ble_eq_true rfl) (sp_X9_counted ?_)
  refine aj_pop (q := 91) dX9_same_90 rfl rfl ?_
  refine aj_aload_n (q := 92) (i := 0) dX9_same_91 rfl rfl rfl ?_
  refine aj_getD (q := 95) (f := 2) fl_X9_25 dX9_same_92 rfl lX_0 rfl rfl ?_
  simp only [xc_lo (show 2 ≠ 100 by decide), psA_lo (show 2 < 200 by decide), psB_lo (show 2 < 200 by decide), sw_ne (show 2 ≠ 3 by decide), sw_eq]
  show AJ _ _ _ _ _ (.ref 9 :: _) _ _
  refine aj_aload (q := 97) (i := 6) dX9_same_95 rfl rfl ?_
  refine aj_callV (q := 100) (As := [_]) cl_X9_124 mk_X7_tellsTheSameAs dX9_same_97 rfl lX_9 rfl rfl (Nat.le_of_ble_eq_true rfl) (sp_X7_tellsTheSameAs_A (wf3 hF1 hF2) (wf4 hF1 hF2) (fun bb hbb => ?_))
  refine aj_ifB_eq (q := 103) (tgt := 107) dX9_same_100 rfl (by decide) (fun c100_4 => ?_) (fun c100_4 => ?_)
  · refine aj_iconst (q := 108) (v := 0) dX9_same_107 rfl (by decide) ?_
    refine aj_ireturn dX9_same_108 rfl ?_
    have q := hQ hF1 hF2 bb hbb
    first | (rw [show bb = true by assumption] at q; exact q) | (rw [show bb = false by assumption] at q; exact q)
  · refine aj_iconst (q := 104) (v := 1) dX9_same_103 rfl (by decide) ?_
    refine aj_goto (tgt := 108) dX9_same_104 (by decide) ?_
    refine aj_ireturn dX9_same_108 rfl ?_
    have q := hQ hF1 hF2 bb hbb
    first | (rw [show bb = true by assumption] at q; exact q) | (rw [show bb = false by assumption] at q; exact q)
theorem sp_X9_sameB_B {d : Nat} {S : Sx} {Q : Option Value → Sx → Prop} {m x b o : Int32} (hl : S 2 0 = 26) (he : S 3 0 = 9) (hw : wfR (plS sgB S)) (hm : gBody (plS sgB S) m = -1 ∨ inb b 161 = false ∨ inb o 161 = false) (hQ : Q (some (.int (-2))) S) : CC (d + 7) kX9_same layX [.ref 0, .int m, .int x, .int b, .int o] S Q := by
  refine cc_intro [some _, some _, some _, some _, some _, none, none] (by decide) (cc_cat (by rfl)) (Nat.le_of_ble_eq_true rfl) (cc_ls (by rfl)) ?_
  refine aj_aload_n (q := 1) (i := 0) dX9_same_0 rfl rfl rfl ?_
  refine aj_getR (q := 4) fl_X9_10 dX9_same_1 rfl lX_0 rfl ?_
  refine aj_iload_n (q := 5) (i := 1) dX9_same_4 rfl rfl rfl ?_
  refine aj_callV (q := 8) (As := [_]) cl_X9_63 mk_X5_bodyOf dX9_same_5 rfl lX_2 rfl rfl (Nat.le_of_ble_eq_true rfl) (cc_frame (sg := sgB) (av := [.ref 17, .int _]) embB rfl (sg_r rfl) (sp_X5_bodyOf (fq ?_)))
  rw [psS_pl]
  refine aj_iconst (q := 9) (v := (-1)) dX9_same_8 rfl (by decide) ?_
  refine aj_icmp_eq (q := 12) (tgt := 27) dX9_same_9 rfl (by decide) (fun c9_1 => ?_) (fun c9_1 => ?_)
  · refine aj_bipush (q := 29) (v := (-2)) dX9_same_27 rfl (by decide) ?_
    refine aj_ireturn dX9_same_29 rfl ?_
    exact hQ
  · refine aj_iload_n (q := 13) (i := 3) dX9_same_12 rfl rfl rfl ?_
    refine aj_callS (q := 16) (As := [_]) cl_X9_67 mk_X9_isBudget dX9_same_13 rfl rfl (Nat.le_of_ble_eq_true rfl) (sp_X9_isBudget ?_)
    refine aj_ifB_eq (q := 19) (tgt := 27) dX9_same_16 rfl (by decide) (fun c16_2 => ?_) (fun c16_2 => ?_)
    · refine aj_bipush (q := 29) (v := (-2)) dX9_same_27 rfl (by decide) ?_
      refine aj_ireturn dX9_same_29 rfl ?_
      exact hQ
    · refine aj_iload (q := 21) (i := 4) dX9_same_19 rfl rfl ?_
      refine aj_callS (q := 24) (As := [_]) cl_X9_67 mk_X9_isBudget dX9_same_21 rfl rfl (Nat.le_of_ble_eq_true rfl) (sp_X9_isBudget ?_)
      refine aj_ifB_ne (q := 27) (tgt := 30) dX9_same_24 rfl (by decide) (fun c24_3 => ?_) (fun c24_3 => ?_)
      · rcases hm with q | q | q
        · exact absurd q (by assumption)
        · rw [show inb b 161 = true by assumption] at q
          cases q
        · rw [show inb o 161 = true by assumption] at q
          cases q
      · refine aj_bipush (q := 29) (v := (-2)) dX9_same_27 rfl (by decide) ?_
        refine aj_ireturn dX9_same_29 rfl ?_
        exact hQ
