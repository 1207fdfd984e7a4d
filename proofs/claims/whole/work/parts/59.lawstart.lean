theorem ws_0 : Cond.instantiable RX0 6 ∈ TT := List.mem_filter.mpr ⟨List.mem_of_getElem? (i := 193) (by decide +kernel), by decide +kernel⟩
theorem ws_1 : Cond.instantiable RX2 2 ∈ TT := List.mem_filter.mpr ⟨List.mem_of_getElem? (i := 180) (by decide +kernel), by decide +kernel⟩
theorem ws_2 : Cond.instantiable RX4 6 ∈ TT := List.mem_filter.mpr ⟨List.mem_of_getElem? (i := 123) (by decide +kernel), by decide +kernel⟩
theorem ws_3 : Cond.instantiable RX5 7 ∈ TT := List.mem_filter.mpr ⟨List.mem_of_getElem? (i := 85) (by decide +kernel), by decide +kernel⟩
theorem ws_4 : Cond.instantiable RX6 8 ∈ TT := List.mem_filter.mpr ⟨List.mem_of_getElem? (i := 149) (by decide +kernel), by decide +kernel⟩
theorem ws_5 : Cond.instantiable RX7 11 ∈ TT := List.mem_filter.mpr ⟨List.mem_of_getElem? (i := 117) (by decide +kernel), by decide +kernel⟩
theorem ws_6 : Cond.instantiable RX9 4 ∈ TT := List.mem_filter.mpr ⟨List.mem_of_getElem? (i := 77) (by decide +kernel), by decide +kernel⟩
theorem ws_7 : Cond.instantiable RX10 41 ∈ TT := List.mem_filter.mpr ⟨List.mem_of_getElem? (i := 804) (by decide +kernel), by decide +kernel⟩
theorem ws_8 : Cond.initialized RX9 ∈ TT := List.mem_filter.mpr ⟨List.mem_of_getElem? (i := 58) (by decide +kernel), by decide +kernel⟩
theorem ws_9 : Cond.initialized RX10 ∈ TT := List.mem_filter.mpr ⟨List.mem_of_getElem? (i := 66) (by decide +kernel), by decide +kernel⟩
theorem ws_10 : Cond.arrayClass .int ∈ TT := List.mem_filter.mpr ⟨List.mem_of_getElem? (i := 115) (by decide +kernel), by decide +kernel⟩
theorem ws_11 : Cond.arrayClass .long ∈ TT := List.mem_filter.mpr ⟨List.mem_of_getElem? (i := 1098) (by decide +kernel), by decide +kernel⟩
theorem ws_12 : Cond.classLink RL 8 RX9 ∈ TT := List.mem_filter.mpr ⟨List.mem_of_getElem? (i := 76) (by decide +kernel), by decide +kernel⟩
theorem ws_13 : Cond.classLink RL 18 RX10 ∈ TT := List.mem_filter.mpr ⟨List.mem_of_getElem? (i := 803) (by decide +kernel), by decide +kernel⟩
theorem ws_14 : Cond.methodLink RL 17 yX9_init ∈ TT := List.mem_filter.mpr ⟨List.mem_of_getElem? (i := 78) (by decide +kernel), by decide +kernel⟩
theorem ws_15 : Cond.methodLink RL 20 yX10_init ∈ TT := List.mem_filter.mpr ⟨List.mem_of_getElem? (i := 805) (by decide +kernel), by decide +kernel⟩
theorem ws_16 : Cond.instanceMethod yX9_init ∈ TT := List.mem_filter.mpr ⟨List.mem_of_getElem? (i := 79) (by decide +kernel), by decide +kernel⟩
theorem ws_17 : Cond.instanceMethod yX10_init ∈ TT := List.mem_filter.mpr ⟨List.mem_of_getElem? (i := 806) (by decide +kernel), by decide +kernel⟩
theorem ws_18 : Cond.initialized Bundle.tN ∈ TT := List.mem_filter.mpr ⟨List.mem_of_getElem? (i := 69) (by decide +kernel), by decide +kernel⟩
theorem wt_U : Cond.laysStatic Bundle.tN "UNASSIGNED_STACK" Bundle.steD ∈ lw_tbl := List.mem_of_getElem? (i := 688) (by decide +kernel)
theorem wt_N : Cond.laysStatic Bundle.tN "SUPPRESSED_SENTINEL" Bundle.listD ∈ lw_tbl := List.mem_of_getElem? (i := 690) (by decide +kernel)
theorem wt_108 : Cond.stringRef RX9 108 "no such row" ∈ lw_tbl := List.mem_of_getElem? (i := 789) (by decide +kernel)
theorem wt_115 : Cond.stringRef RX9 115 "the row is null" ∈ lw_tbl := List.mem_of_getElem? (i := 792) (by decide +kernel)
theorem wt_118 : Cond.stringRef RX9 118 "no such item" ∈ lw_tbl := List.mem_of_getElem? (i := 797) (by decide +kernel)
theorem fl_U : Cond.isRef (.static Bundle.tN "UNASSIGNED_STACK" Bundle.steD) ∈ flatC (Jvm.Cond.and given_1 narrow_1) := by decide +kernel
theorem fl_N : Cond.isRef (.static Bundle.tN "SUPPRESSED_SENTINEL" Bundle.listD) ∈ flatC (Jvm.Cond.and given_1 narrow_1) := by decide +kernel
theorem fl_C : Cond.not (.castable eAI Bundle.nN) ∈ flatC (Jvm.Cond.and given_1 narrow_1) := by decide +kernel
theorem str_of {s : State} {args : Array Value} {k : Nat} {tx : String} {d : Nat} (hd : s.vm.findClass RX9 = some d) (h : (Cond.stringRef RX9 k tx).before args s = true) : ∃ a, vk_R RX9 k tx a s := by
  obtain ⟨_, _, _, a, -, -, -, -, -, he⟩ := Cond.stringRef_spec hd h
  exact ⟨a, vk_R.of h he⟩
section LAWS
variable {p : Program} {l : Launch} {e : Env} {s : State} {m : MethodId} {below : List Frame} {meth : Method} {c : Code} {b L : Nat} {xs : Nat → Int32}
theorem st_NK {args : Array Value} (h : ∀ w ∈ lw_tbl, w.before args s = true) : NK s := by
  intro w hw
  obtain ⟨h1, h2⟩ := List.mem_filter.mp hw
  have h3 := h w h1
  cases w <;> first | exact va_Nw.of rfl h3 | cases h2
theorem st_DK {args : Array Value} (h : ∀ w ∈ lw_tbl, w.before args s = true) : DK s := by
  intro w hw
  obtain ⟨h1, h2⟩ := List.mem_filter.mp hw
  have h3 := h w h1
  cases w <;> first | exact va_Nw.of rfl h3 | cases h2
theorem st_K {args : Array Value} (hts : ∀ w ∈ TT, w.before args s = true) : ∃ (dC : Nat → ClassId) (dI : Nat → Nat → Nat) (cA : ClassId), va_K (dC, dI) xcl [(cA, .int)] s := by
  obtain ⟨cX0, iX0, kX0⟩ := u_known hts in_X0 (hts _ ws_0)
  obtain ⟨cX2, iX2, kX2⟩ := u_known hts in_X2 (hts _ ws_1)
  obtain ⟨cX4, iX4, kX4⟩ := u_known hts in_X4 (hts _ ws_2)
  obtain ⟨cX5, iX5, kX5⟩ := u_known hts in_X5 (hts _ ws_3)
  obtain ⟨cX6, iX6, kX6⟩ := u_known hts in_X6 (hts _ ws_4)
  obtain ⟨cX7, iX7, kX7⟩ := u_known hts in_X7 (hts _ ws_5)
  obtain ⟨cX9, iX9, kX9⟩ := u_known hts in_X9 (hts _ ws_6)
  obtain ⟨cX10, iX10, kX10⟩ := u_known hts in_X10 (hts _ ws_7)
  obtain ⟨cA, kA, comp, h1, h2, h3⟩ := Cond.arrayClass_spec (hts _ ws_10)
  refine ⟨fun n => match n with | 0 => cX0 | 1 => cX2 | 2 => cX4 | 3 => cX5 | 4 => cX6 | 5 => cX7 | 6 => cX9 | _ => cX10, fun n => match n with | 0 => iX0 | 1 => iX2 | 2 => iX4 | 3 => iX5 | 4 => iX6 | 5 => iX7 | 6 => iX9 | _ => iX10, cA, fun n q hq => ?_, fun k q hq => ?_⟩
  · have hn : n < 8 := (List.getElem?_eq_some_iff.mp hq).1
    rcases (show n = 0 ∨ n = 1 ∨ n = 2 ∨ n = 3 ∨ n = 4 ∨ n = 5 ∨ n = 6 ∨ n = 7 by omega) with rfl | rfl | rfl | rfl | rfl | rfl | rfl | rfl
    · cases hq; exact kX0
    · cases hq; exact kX2
    · cases hq; exact kX4
    · cases hq; exact kX5
    · cases hq; exact kX6
    · cases hq; exact kX7
    · cases hq; exact kX9
    · cases hq; exact kX10
  · cases k with
    | zero =>
      obtain rfl : (cA, FieldType.int) = q := by simpa using hq
      exact ⟨fun n z => ⟨fun k h => (by cases h), kA, h2, comp, h3⟩, h1⟩
    | succ k => simp at hq
theorem st_TS {args : Array Value} (hts0 : ∀ w ∈ lw_tbl, w.before args s = true) (hgv : (Jvm.Cond.and given_1 narrow_1).before args s = true) {d : Nat} (hd : s.vm.findClass RX9 = some d) : TS (lA s) s ∧ va_Nc eAI Bundle.nN s := by
  have hs := flat_of_before _ hgv
  have hts := TT_of hts0
  refine ⟨⟨vx_Zqof (hts0 _ wt_U) (hts _ ws_18) (hs _ fl_U) (fun a h => Nat.not_le.mpr h), vx_Zqof (hts0 _ wt_N) (hts _ ws_18) (hs _ fl_N) (fun a h => Nat.not_le.mpr h), st_DK hts0, str_of hd (hts0 _ wt_108), str_of hd (hts0 _ wt_115), str_of hd (hts0 _ wt_118)⟩, va_Nc.of (hs _ fl_C)⟩
/-- an object as its constructor leaves it: its cells in the layout's order -/
theorem st_obj {D : va_G} {cA : ClassId} {ad pm : List Nat} {lay : Lay} {S : Sx} {B : va_W} {H : Heap} {A : Nat → Prop} (hb : ∀ (k : Nat) (c : Lc), lay[k]? = some c → B[pm.getD k 0]? = some (ad.getD k 0, ce cA ad S k c)) (hp : ∀ i, i < lay.length → ∀ j, j < lay.length → pm.getD i 0 = pm.getD j 0 → i = j) (hP : va_P D xcl B H) (hD : va_D A B) :
    va_P D xcl (cw cA ad lay S) H ∧ (∀ i, i < lay.length → A (ad.getD i 0)) ∧ ∀ i, i < lay.length → ∀ j, j < lay.length → ad.getD i 0 = ad.getD j 0 → i = j := by
  have hg : ∀ i, (hi : i < lay.length) → B[pm.getD i 0]? = some (ad.getD i 0, ce cA ad S i lay[i]) := fun i hi => hb i _ (List.getElem?_eq_getElem hi)
  refine ⟨fun k q hk => ?_, fun i hi => hD.2 _ _ (hg i hi), fun i hi j hj e9 => hp i hi j hj (hD.1 _ _ _ _ (hg i hi) (hg j hj) e9)⟩
  have h1 := (cw_at hk).1
  rw [cw_get (List.getElem?_eq_getElem h1)] at hk
  rw [← Option.some.inj hk]
  exact hP _ _ (hg k h1)
set_option maxHeartbeats 4000000 in
set_option maxRecDepth 100000 in
theorem whole_start (l : Launch) (htr : l.stackTraces = false) (hL : L ≤ 2560) (C0 : lw_At p s m meth c b L xs) : W p l e room_1 s m #[Value.ref b] below meth c s.heap [] 0 0 (lw_Z below #[Value.ref b] s) (entryFrame m ([Value.ref b] : List Value).toArray 7) := by
  obtain ⟨hx, hb, hret, hml, hown, hts0, hXs, hbl, hlk, hgv⟩ := id C0
  have hts := TT_of hts0
  have hN := st_NK hts0
  obtain ⟨dC, dI, cA, hK⟩ := st_K hts
  obtain ⟨hTS, hNc⟩ := st_TS hts0 hgv (hK.1 6 _ rfl).2.1
  have hA : ∀ q : Nat, s.heap.size ≤ q → lA s q := fun q h => h
  have hl := lv_entry ([.ref b]) (n := 7) (Nat.le_of_ble_eq_true rfl)
  rw [lg_entry_eq]
  generalize (lg_sl ([.ref b]) ++ List.replicate (7 - (lg_sl ([.ref b])).length) Slot.unset).toArray = ls at hl ⊢
  have hl : lv_has ls 7 [(0, .ref b)] := hl
  refine va_new (D := (dC, dI)) (ws := []) (A := lA s) (ci := 6) (fs := [.null, .null, .null, .null]) (C := RX9) (T := TX9) (N := 4) hx hb hts in_X9 tyX9 tyX9_ok hown (hts _ ws_12) (hts _ ws_6) (hts _ ws_8) hK (fun k q h => by simp at h) ⟨fun i j p q h => by simp at h, fun k q h => by simp at h⟩ va_S.rf hA rfl (fun j hj => by rcases (show j = 0 ∨ j = 1 ∨ j = 2 ∨ j = 3 by omega) with rfl | rfl | rfl | rfl <;> rfl) (Nat.le_of_ble_eq_true rfl) (Nat.le_of_ble_eq_true rfl) dL_law_0 (fun h1 H1 hP1 hD1 hS1 => ?_)
  refine lv_dup hx hb dL_law_3 rfl ?_
  have hF1 : ∀ q, va_A [(h1, .inr (6, [.null, .null, .null, .null]))] H1.size q → lA s q := fun q hq => by
    rcases hq with ⟨k, e9, hk⟩ | hq
    · exact hD1.2 k _ hk
    · exact Nat.le_trans hS1.1 hq
  refine va_callv (va_runI (As := []) (rest := [.ref h1]) (n := 0) ⟨hx, hb, hml, hown, hts⟩ (ci_X9_init l dC dI cA h1 H1.size) ⟨callB_of 0 hts (wsK_good mk_X9_init.2.1) rfl rfl rfl (hts _ mk_X9_init.1) (hts _ ws_14) mk_X9_init.2.2.1 ⟨by exact Nat.le_of_ble_eq_true rfl, by exact Nat.le_of_ble_eq_true rfl⟩, rfl, hts _ ws_16⟩ ⟨IP.blind, fun U hU hW => ⟨rfl, IP.at hU hW hP1 hK hD1 hN⟩⟩ rfl rfl hl.1 rfl (lv_room (Nat.le_of_ble_eq_true rfl)) dL_law_4 ⟨by exact Nat.le_of_ble_eq_true rfl, by exact Nat.le_of_ble_eq_true rfl⟩) hS1 (fun q _ h => hF1 q h) hF1 (fun u1 t1 H2 locs2 ht1 hvm1 hw1 hB1 hz1 hk1 hS2 => ?_)
  obtain ⟨hPB1, -, hDB1⟩ := hB1
  rw [ht1] at hPB1
  obtain ⟨hPX, hX1, hX2⟩ := st_obj (bX cA h1 u1) pX_inj hPB1 hDB1
  clear hPB1 hDB1 hP1 hD1 hk1
  generalize haX : aX h1 u1 = axs at hPX hX1 hX2
  have hax0 : axs.getD 0 0 = h1 := by rw [← haX]; rfl
  have hX1 : ∀ i, i < 43 → lA s (axs.getD i 0) := fun i hi => hF1 _ (hX1 i hi)
  refine lv_astore_n (lv' := [(1, .ref (axs.getD 0 0)), (0, .ref b)]) hx hb dL_law_7 rfl hl (by decide) (by rw [hax0]; rfl) (fun ls hl => ?_)
  have hDX : va_D (lA s) (cw cA axs layX S0) := cw_D hX1 hX2
  refine va_new (D := (dC, dI)) (ws := cw cA axs layX S0) (A := lA s) (ci := 7) (fs := [.int 0, .int 0, .null, .null, .null, .null, .null, .null, .null, .null, .null, .int 0, .null, .null, .int 0, .null, .int 0, .int 0, .int 0, .int 0, .null, .int 0, .null, .int 0, .int 0, .int 0, .int 0, .int 0, .int 0, .null, .int 0, .null, .null, .null, .null, .null, .int 0, .int 0, .int 0, .null, .null]) (C := RX10) (T := TX10) (N := 41) hx hb hts in_X10 tyX10 tyX10_ok hown (hts _ ws_13) (hts _ ws_7) (hts _ ws_9) hK hPX hDX hS2 hA rfl (fun j hj => by rcases (show j = 0 ∨ j = 1 ∨ j = 2 ∨ j = 3 ∨ j = 4 ∨ j = 5 ∨ j = 6 ∨ j = 7 ∨ j = 8 ∨ j = 9 ∨ j = 10 ∨ j = 11 ∨ j = 12 ∨ j = 13 ∨ j = 14 ∨ j = 15 ∨ j = 16 ∨ j = 17 ∨ j = 18 ∨ j = 19 ∨ j = 20 ∨ j = 21 ∨ j = 22 ∨ j = 23 ∨ j = 24 ∨ j = 25 ∨ j = 26 ∨ j = 27 ∨ j = 28 ∨ j = 29 ∨ j = 30 ∨ j = 31 ∨ j = 32 ∨ j = 33 ∨ j = 34 ∨ j = 35 ∨ j = 36 ∨ j = 37 ∨ j = 38 ∨ j = 39 ∨ j = 40 by omega) with rfl | rfl | rfl | rfl | rfl | rfl | rfl | rfl | rfl | rfl | rfl | rfl | rfl | rfl | rfl | rfl | rfl | rfl | rfl | rfl | rfl | rfl | rfl | rfl | rfl | rfl | rfl | rfl | rfl | rfl | rfl | rfl | rfl | rfl | rfl | rfl | rfl | rfl | rfl | rfl | rfl <;> rfl) (Nat.le_of_ble_eq_true rfl) (Nat.le_of_ble_eq_true rfl) dL_law_8 (fun h2 H3 hP3 hD3 hS3 => ?_)
  refine lv_dup hx hb dL_law_11 rfl ?_
  have e43 : (cw cA axs layX S0).length = 43 := cw_len
  have hl43 : ∀ x : Nat × va_E, (cw cA axs layX S0 ++ [x])[43]? = some x := fun x => by
    rw [List.getElem?_append_right (by rw [e43]; exact Nat.le_refl _), e43]
    rfl
  have hPm : va_P (dC, dI) xcl [(h2, .inr (7, [.int 0, .int 0, .null, .null, .null, .null, .null, .null, .null, .null, .null, .int 0, .null, .null, .int 0, .null, .int 0, .int 0, .int 0, .int 0, .null, .int 0, .null, .int 0, .int 0, .int 0, .int 0, .int 0, .int 0, .null, .int 0, .null, .null, .null, .null, .null, .int 0, .int 0, .int 0, .null, .null]))] H3 := fun k q hk => by
    cases k with
    | zero =>
      obtain rfl : (h2, Sum.inr (7, [.int 0, .int 0, .null, .null, .null, .null, .null, .null, .null, .null, .null, .int 0, .null, .null, .int 0, .null, .int 0, .int 0, .int 0, .int 0, .null, .int 0, .null, .int 0, .int 0, .int 0, .int 0, .int 0, .int 0, .null, .int 0, .null, .null, .null, .null, .null, .int 0, .int 0, .int 0, .null, .null])) = q := by simpa using hk
      exact hP3 43 _ (hl43 _)
    | succ k => simp at hk
  have hDm : va_D (lA s) [(h2, .inr (7, [.int 0, .int 0, .null, .null, .null, .null, .null, .null, .null, .null, .null, .int 0, .null, .null, .int 0, .null, .int 0, .int 0, .int 0, .int 0, .null, .int 0, .null, .int 0, .int 0, .int 0, .int 0, .int 0, .int 0, .null, .int 0, .null, .null, .null, .null, .null, .int 0, .int 0, .int 0, .null, .null]))] := ⟨fun i j p q hi hj _ => by cases i <;> cases j <;> simp at hi hj ⊢, fun k q hk => by
    cases k with
    | zero =>
      obtain rfl : (h2, Sum.inr (7, [.int 0, .int 0, .null, .null, .null, .null, .null, .null, .null, .null, .null, .int 0, .null, .null, .int 0, .null, .int 0, .int 0, .int 0, .int 0, .null, .int 0, .null, .int 0, .int 0, .int 0, .int 0, .int 0, .int 0, .null, .int 0, .null, .null, .null, .null, .null, .int 0, .int 0, .int 0, .null, .null])) = q := by simpa using hk
      exact hD3.2 43 _ (hl43 _)
    | succ k => simp at hk⟩
  have hPX3 : va_P (dC, dI) xcl (cw cA axs layX S0) H3 := fun k q hk => hP3 k q (ap_l hk)
  have hX3 : ∀ i, i < 43 → axs.getD i 0 ≠ h2 := fun i hi e9 => by
    have h9 := hD3.1 i 43 _ _ (ap_l (cw_get (List.getElem?_eq_getElem hi))) (hl43 _) e9
    omega
  have hF3 : ∀ q, va_A [(h2, .inr (7, [.int 0, .int 0, .null, .null, .null, .null, .null, .null, .null, .null, .null, .int 0, .null, .null, .int 0, .null, .int 0, .int 0, .int 0, .int 0, .null, .int 0, .null, .int 0, .int 0, .int 0, .int 0, .int 0, .int 0, .null, .int 0, .null, .null, .null, .null, .null, .int 0, .int 0, .int 0, .null, .null]))] H3.size q → lA s q := fun q hq => by
    rcases hq with ⟨k, e9, hk⟩ | hq
    · exact hDm.2 k _ hk
    · exact Nat.le_trans hS3.1 hq
  refine va_callv (va_runI (As := []) (rest := [.ref h2]) (n := 0) ⟨hx, hb, hml, hown, hts⟩ (ci_X10_init l dC dI cA h2 H3.size) ⟨callB_of 0 hts (wsK_good mk_X10_init.2.1) rfl rfl rfl (hts _ mk_X10_init.1) (hts _ ws_15) mk_X10_init.2.2.1 ⟨by exact Nat.le_of_ble_eq_true rfl, by exact Nat.le_of_ble_eq_true rfl⟩, rfl, hts _ ws_17⟩ ⟨IP.blind, fun U hU hW => ⟨rfl, IP.at hU hW hPm hK hDm hN⟩⟩ rfl rfl hl.1 rfl (lv_room (Nat.le_of_ble_eq_true rfl)) dL_law_12 ⟨by exact Nat.le_of_ble_eq_true rfl, by exact Nat.le_of_ble_eq_true rfl⟩) hS3 (fun q _ h => hF3 q h) hF3 (fun u2 t2 H4 locs4 ht2 hvm2 hw2 hB2 hz2 hk2 hS4 => ?_)
  obtain ⟨hPB2, -, hDB2⟩ := hB2
  rw [ht2] at hPB2
  obtain ⟨hPM, hM1, hM2⟩ := st_obj (bM cA h2 u2) pM_inj hPB2 hDB2
  clear hPB2 hDB2
  generalize haM : aM h2 u2 = ams at hPM hM1 hM2
  have ham0 : ams.getD 0 0 = h2 := by rw [← haM]; rfl
  have hapm : ∀ q, va_A [(h2, .inr (7, [.int 0, .int 0, .null, .null, .null, .null, .null, .null, .null, .null, .null, .int 0, .null, .null, .int 0, .null, .int 0, .int 0, .int 0, .int 0, .null, .int 0, .null, .int 0, .int 0, .int 0, .int 0, .int 0, .int 0, .null, .int 0, .null, .null, .null, .null, .null, .int 0, .int 0, .int 0, .null, .null]))] H3.size q → q = h2 ∨ H3.size ≤ q := fun q hq => by
    rcases hq with ⟨k, e9, hk⟩ | hq
    · cases k with
      | zero =>
        have h9 : (h2, Sum.inr (7, [.int 0, .int 0, .null, .null, .null, .null, .null, .null, .null, .null, .null, .int 0, .null, .null, .int 0, .null, .int 0, .int 0, .int 0, .int 0, .null, .int 0, .null, .int 0, .int 0, .int 0, .int 0, .int 0, .int 0, .null, .int 0, .null, .null, .null, .null, .null, .int 0, .int 0, .int 0, .null, .null])) = (q, e9) := by simpa using hk
        exact Or.inl (congrArg Prod.fst h9).symm
      | succ k => simp at hk
    · exact Or.inr hq
  have hPX4 : va_P (dC, dI) xcl (cw cA axs layX S0) H4 := cw_keep hPX3 hk2 (fun i hi hz9 => by
    rcases hapm _ hz9 with h9 | h9
    · exact hX3 i hi h9
    · exact absurd (cw_lt hPX3 hi) (Nat.not_lt.mpr h9))
  have hXM : ∀ i, i < 43 → ∀ j, j < 23 → axs.getD i 0 ≠ ams.getD j 0 := fun i hi j hj e9 => by
    rcases hapm _ (hM1 j hj) with h9 | h9
    · exact hX3 i hi (e9.trans h9)
    · rw [← e9] at h9
      exact absurd (cw_lt hPX3 hi) (Nat.not_lt.mpr h9)
  have hM1 : ∀ i, i < 23 → lA s (ams.getD i 0) := fun i hi => hF3 _ (hM1 i hi)
  clear hk2 hPm hDm hP3 hD3 hF3 hapm hPX3
  refine lv_astore_n (lv' := [(2, .ref (ams.getD 0 0)), (1, .ref (axs.getD 0 0)), (0, .ref b)]) hx hb dL_law_15 rfl hl (by decide) (by rw [ham0]; rfl) (fun ls hl => ?_)
  refine lv_iconst (v := 1) hx hb dL_law_16 (by decide) ?_
  have hDXM : va_D (lA s) (cw cA axs layX S0 ++ cw cA ams layM M0) := va_D.app hDX (cw_D hM1 hM2) (fun i j p q hi hj e9 => by
    obtain ⟨a1, a2⟩ := cw_at hi
    obtain ⟨b1, b2⟩ := cw_at hj
    exact hXM i a1 j b1 (by rw [← a2, ← b2]; exact e9))
  refine va_newa (atype := .long) (ty := .long) (a0 := (1, .inr (.inl (fun _ => 0)))) hx hb (hts _ ws_11) rfl hK (va_P.app hPX4 hPM) hDXM hS4 hA (fun _ => rfl) (by decide) (by decide) (by decide) (by exact Nat.le_of_ble_eq_true rfl) (by exact Nat.le_of_ble_eq_true rfl) dL_law_17 (fun o cL H5 hK5 hP5 hD5 hS5 => ?_)
  have e66 : (cw cA axs layX S0 ++ cw cA ams layM M0).length = 66 := by rw [List.length_append, cw_len, cw_len]; rfl
  have hl66 : ∀ x : Nat × va_E, (cw cA axs layX S0 ++ cw cA ams layM M0 ++ [x])[66]? = some x := fun x => by
    rw [List.getElem?_append_right (by rw [e66]; exact Nat.le_refl _), e66]
    rfl
  have hrM : ∀ k q, (cw cA ams layM M0)[k]? = some q → (cw cA axs layX S0 ++ cw cA ams layM M0)[43 + k]? = some q := fun k q hk => by
    rw [List.getElem?_append_right (by rw [e43]; omega), e43, Nat.add_sub_cancel_left]
    exact hk
  have hPX5 : va_P (dC, dI) xcl (cw cA axs layX S0) H5 := fun k q hk => hP5 k q (ap_l (ap_l hk))
  have hPM5 : va_P (dC, dI) xcl (cw cA ams layM M0) H5 := fun k q hk => hP5 (43 + k) q (ap_l (hrM k q hk))
  have hPO5 : va_P (dC, dI) xcl [oE o cL (fun _ => 0)] H5 := fun k q hk => by
    cases k with
    | zero =>
      obtain rfl : oE o cL (fun _ => 0) = q := by simpa using hk
      exact hP5 66 _ (hl66 _)
    | succ k => simp at hk
  have hXo : ∀ i, i < 43 → axs.getD i 0 ≠ o := fun i hi e9 => by
    have h9 := hD5.1 i 66 _ _ (ap_l (ap_l (cw_get (List.getElem?_eq_getElem hi)))) (hl66 _) e9
    omega
  have hMo : ∀ i, i < 23 → ams.getD i 0 ≠ o := fun i hi e9 => by
    have h9 := hD5.1 (43 + i) 66 _ _ (ap_l (hrM i _ (cw_get (List.getElem?_eq_getElem hi)))) (hl66 _) e9
    omega
  have ho : s.heap.size ≤ o := hD5.2 66 _ (hl66 _)
  have hLC : LC p l s m meth c b L xs dC dI cA cL axs ams o := ⟨C0, htr, hK5, hN, hTS, hNc, ⟨hX1, hX2, hM1, hM2, ho, hXM, hXo, hMo⟩, hL⟩
  refine lv_astore_n (lv' := [(3, .ref o), (2, .ref (ams.getD 0 0)), (1, .ref (axs.getD 0 0)), (0, .ref b)]) hx hb dL_law_19 rfl hl (by decide) rfl (fun ls hl => ?_)
  refine lv_iconst (v := 0) hx hb dL_law_20 (by decide) ?_
  refine lv_istore (lv' := lvL b o axs ams 0) hx hb dL_law_21 hl (by decide) rfl (fun ls hl => ?_)
  refine W.widen (k := 67 + 0) (n := 11300 + 8 * 0) (by exact Nat.le_of_ble_eq_true rfl) (by exact Nat.le_of_ble_eq_true rfl) ?_
  exact law_loop hLC L 0 (by omega) (by omega) S0 M0 (fun _ => 0) H5 _ ls rel0 ⟨hPX5, hPM5, hPO5, hS5⟩ hl
end LAWS
