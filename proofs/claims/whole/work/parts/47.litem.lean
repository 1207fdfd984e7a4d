def hhL : List (Nat × Nat × Nat × Nat) := [(0, 10, 13, 13), (0, 10, 17, 15)]
theorem wy_0 : Cond.codeWith yL_item cL_item 5 (some .int) hhL ∈ TT := List.mem_filter.mpr ⟨List.mem_of_getElem? (i := 672) (by decide +kernel), by decide +kernel⟩
theorem dL_item_0 : decode cL_item 0 = .ok (.aload_n 3, 1) := by decide +kernel
theorem dL_item_1 : decode cL_item 1 = .ok (.iconst 0, 1) := by decide +kernel
theorem dL_item_2 : decode cL_item 2 = .ok (.aload_n 0, 1) := by decide +kernel
theorem dL_item_3 : decode cL_item 3 = .ok (.iload_n 1, 1) := by decide +kernel
theorem dL_item_4 : decode cL_item 4 = .ok (.iload_n 2, 1) := by decide +kernel
theorem dL_item_5 : decode cL_item 5 = .ok (.invokevirtual 7, 3) := by decide +kernel
theorem dL_item_8 : decode cL_item 8 = .ok (.i2l, 1) := by decide +kernel
theorem dL_item_9 : decode cL_item 9 = .ok (.lastore, 1) := by decide +kernel
theorem dL_item_10 : decode cL_item 10 = .ok (.goto 11, 3) := by decide +kernel
theorem dL_item_13 : decode cL_item 13 = .ok (.astore 4, 2) := by decide +kernel
theorem dL_item_15 : decode cL_item 15 = .ok (.iconst 1, 1) := by decide +kernel
theorem dL_item_16 : decode cL_item 16 = .ok (.ireturn, 1) := by decide +kernel
theorem dL_item_17 : decode cL_item 17 = .ok (.astore 4, 2) := by decide +kernel
theorem dL_item_19 : decode cL_item 19 = .ok (.iconst 2, 1) := by decide +kernel
theorem dL_item_20 : decode cL_item 20 = .ok (.ireturn, 1) := by decide +kernel
theorem dL_item_21 : decode cL_item 21 = .ok (.iconst 0, 1) := by decide +kernel
theorem dL_item_22 : decode cL_item 22 = .ok (.ireturn, 1) := by decide +kernel
theorem wy_1 : Cond.methodLink RL 7 yX9_item ∈ TT := List.mem_filter.mpr ⟨List.mem_of_getElem? (i := 784) (by decide +kernel), by decide +kernel⟩
theorem wy_2 : Cond.instanceMethod yX9_item ∈ TT := List.mem_filter.mpr ⟨List.mem_of_getElem? (i := 785) (by decide +kernel), by decide +kernel⟩
theorem wy_3 : Cond.selects RX9 yX9_item yX9_item ∈ TT := List.mem_filter.mpr ⟨List.mem_of_getElem? (i := 786) (by decide +kernel), by decide +kernel⟩
theorem wy_4 : Cond.classLink RL 13 Bundle.nN ∈ TT := List.mem_filter.mpr ⟨List.mem_of_getElem? (i := 673) (by decide +kernel), by decide +kernel⟩
theorem wy_5 : Cond.classLink RL 15 eAI ∈ TT := List.mem_filter.mpr ⟨List.mem_of_getElem? (i := 751) (by decide +kernel), by decide +kernel⟩
theorem wz_N : Cond.castable "java/lang/NullPointerException" "java/lang/NullPointerException" ∈ DN := List.mem_filter.mpr ⟨List.mem_of_getElem? (i := 735) (by decide +kernel), rfl⟩
theorem wz_A : Cond.castable "java/lang/ArrayIndexOutOfBoundsException" "java/lang/ArrayIndexOutOfBoundsException" ∈ DN := List.mem_filter.mpr ⟨List.mem_of_getElem? (i := 774) (by decide +kernel), rfl⟩
section LWI
theorem ap_l {α : Type} {w1 w2 : List α} {k : Nat} {q : α} (h : w1[k]? = some q) : (w1 ++ w2)[k]? = some q := by
  rw [List.getElem?_append_left (List.getElem?_eq_some_iff.mp h).1]
  exact h
theorem cw_len {cA : ClassId} {ad : List Nat} {lay : Lay} {S : Sx} : (cw cA ad lay S).length = lay.length := by simp [cw]
theorem cw_at {cA : ClassId} {ad : List Nat} {lay : Lay} {S : Sx} {k : Nat} {q : Nat × va_E} (h : (cw cA ad lay S)[k]? = some q) : k < lay.length ∧ q.1 = ad.getD k 0 := by
  have h1 : k < (cw cA ad lay S).length := (List.getElem?_eq_some_iff.mp h).1
  rw [cw_len] at h1
  refine ⟨h1, ?_⟩
  rw [cw_get (List.getElem?_eq_getElem h1)] at h
  rw [← Option.some.inj h]
variable {p : Program} {l : Launch} {e : Env} {R : Room} {s : State} {m : MethodId} {args : Array Value} {below : List Frame} {meth : Method} {c : Code} {dC : Nat → ClassId} {dI : Nat → Nat → Nat} {cA : ClassId} {ad : List Nat} {A : Nat → Prop} {H : Heap} {locs : List Loc} {lsA : Array Slot} {cells slots : Nat} {Z : State → Prop} {pc : Nat} {st0 rest : List Value} {lay : Lay} {S : Sx} {Q : Option Value → Sx → Prop} {P : String → Sx → Prop} {a : Array Value}
/-- behind a call of a method of the little machine that may throw -/
theorem w_vx (hr : vx_Run p l e R s m args below meth c H locs cells slots 1 8 (F0 m pc lsA st0) rest (QQ dC dI cA ad (va_A (cw cA ad lay S) H.size) lay Q a) (XX dC dI cA ad (va_A (cw cA ad lay S) H.size) lay P) (va_A (cw cA ad lay S) H.size)) (hS : va_S A s.heap H locs) (hF : ∀ q, va_A (cw cA ad lay S) H.size q → A q)
    (kk : ∀ (r : Option Value) (S' : Sx) (H1 : Heap) (locs1 : List Loc), Q r S' → va_P (dC, dI) xcl (cw cA ad lay S') H1 → H.size ≤ H1.size → (∀ z : Nat, z < H.size → ¬ va_A (cw cA ad lay S) H.size z → H1[z]? = H[z]?) → va_S A s.heap H1 locs1 → W p l e R s m args below meth c H1 locs1 (cells + 1) (slots + 8) Z (F0 m (pc + 3) lsA ((r.map (cv ad)).toList ++ rest)))
    (kx : ∀ (E : String) (ce : Cell) (q9 : Addr) (S' : Sx) (H1 : Heap) (locs1 : List Loc), P E S' → va_P (dC, dI) xcl (cw cA ad lay S') H1 → H.size ≤ H1.size → (∀ z : Nat, z < H.size → ¬ va_A (cw cA ad lay S) H.size z → H1[z]? = H[z]?) → va_S A s.heap H1 locs1 → H1[q9]? = some ce → ce.vm = .none → s.vm.findClass E = some ce.cls → vx_W p l e R s m args below meth c H1 locs1 (cells + 1) (slots + 8) Z (F0 m pc lsA rest) q9) :
    W p l e R s m args below meth c H locs cells slots Z (F0 m pc lsA st0) := by
  intro T hT X
  rcases hr T hT X with ⟨v, st₀, t, T', L, h0, X', hL, e1, e2, ⟨⟨r, S', ho, hQ, hP', hK', hD'⟩, hFr⟩, st⟩ | ⟨q, st₀, t, T', L, E, ce, h0, X', hL, e1, e2, ⟨S', hP, hP', hFr⟩, hce, hcv, hcl, st⟩
  · have hv : v = r.map (cv ad) := by injection ho
    subst hv
    obtain ⟨k1, k2, k3⟩ := vx_keep h0 e1 hS (fun q _ h => hF q h) hF hL hFr
    obtain ⟨t2, a1, b1⟩ := kk r S' T'.heap (locs ++ L) hQ (by rw [e1]; exact hP') k1 k2 k3 T' rfl X'
    exact ⟨t2, st t2 a1, b1⟩
  · obtain ⟨k1, k2, k3⟩ := vx_keep h0 e1 hS (fun q _ h => hF q h) hF hL hFr
    obtain ⟨t2, a1, b1⟩ := kx E ce q S' T'.heap (locs ++ L) hP (by rw [e1]; exact hP') k1 k2 k3 (by rw [e1]; exact hce) hcv hcl T' rfl X'
    exact ⟨t2, st.trans a1, b1⟩
end LWI
abbrev oE (o : Nat) (cL : ClassId) (f : Nat → Int64) : Nat × va_E := (o, .inl (cL, 1, .inr (.inl f)))
/-- the cells that the law's item can reach -/
def wsI (cA cL : ClassId) (ad : List Nat) (S : Sx) (o : Nat) (f : Nat → Int64) : va_W := cw cA ad layX S ++ [oE o cL f]
theorem wI_out {cA cL : ClassId} {ad : List Nat} {S : Sx} {o : Nat} {f : Nat → Int64} : (wsI cA cL ad S o f)[43]? = some (oE o cL f) := by
  rw [wsI, List.getElem?_append_right (by rw [cw_len]; exact Nat.le_of_ble_eq_true rfl), cw_len]
  rfl
theorem wI_set {cA cL : ClassId} {ad : List Nat} {S : Sx} {o : Nat} {f f' : Nat → Int64} : (wsI cA cL ad S o f).set 43 (oE o cL f') = wsI cA cL ad S o f' := by
  rw [wsI, List.set_append_right _ _ (by rw [cw_len]; exact Nat.le_of_ble_eq_true rfl), cw_len]
  rfl
theorem wI_P {D : va_G} {cA cL : ClassId} {ad : List Nat} {S : Sx} {o : Nat} {f : Nat → Int64} {H : Heap} (h : va_P D xcl (wsI cA cL ad S o f) H) : va_P D xcl (cw cA ad layX S) H ∧ va_P D xcl [oE o cL f] H := by
  refine ⟨fun k q hk => h k q (ap_l hk), fun k q hk => ?_⟩
  cases k with
  | zero =>
    obtain rfl : oE o cL f = q := by simpa using hk
    exact h 43 _ wI_out
  | succ k => simp at hk
def PL (dC : Nat → ClassId) (dI : Nat → Nat → Nat) (cA cL : ClassId) (ad : List Nat) (S : Sx) (o : Nat) (f : Nat → Int64) (sz : Nat) : State → Prop := fun U => U.heap.size = sz ∧ va_P (dC, dI) xcl (wsI cA cL ad S o f) U.heap ∧ va_K (dC, dI) xcl [(cA, .int), (cL, .long)] U ∧ va_D (fun _ => True) (wsI cA cL ad S o f) ∧ NK U ∧ TS (va_A (wsI cA cL ad S o f) sz) U ∧ va_Nc eAI Bundle.nN U
theorem PL.blind {dC : Nat → ClassId} {dI : Nat → Nat → Nat} {cA cL : ClassId} {ad : List Nat} {S : Sx} {o : Nat} {f : Nat → Int64} {sz : Nat} {av : List Value} : FrameBlind (va_Pc av (PL dC dI cA cL ad S o f sz)) := fun a U g mk q => by
  obtain ⟨q0, q1, qP, qK, qD, qN, qT, qC⟩ := q
  exact ⟨q0, q1, qP, va_K.moved (u := U) (U := U.calling g mk a) (Vm.Alike.refl U.vm) qK, qD, NK.same (u := U) (U := U.calling g mk a) rfl qN, TS.same (s := U) (U := U.calling g mk a) rfl rfl qT, va_Nc.moved (u := U) (U := U.calling g mk a) (Vm.Alike.refl U.vm) qC⟩
def wsL : List Cond := Cond.codeWith yL_item cL_item 5 (some .int) hhL :: TT
theorem wsL_good : GoodIn TT wsL := by
  intro w hw
  have hm : w ∈ TT := by
    rcases List.mem_cons.mp hw with rfl | h1
    · exact wy_0
    · exact h1
  exact ⟨hm, good_of_word (List.mem_filter.mp hm).2⟩
set_option maxHeartbeats 4000000 in
set_option maxRecDepth 100000 in
theorem mL_item {S : Sx} {sg so : List Nat} (hLat : LatW S sg so) (hwf : wfR (plS sg S)) (r i : Int32) (l : Launch) (hlt : l.stackTraces = false) (dC : Nat → ClassId) (dI : Nat → Nat → Nat) (cA cL : ClassId) (ad : List Nat) (o : Nat) (f : Nat → Int64) (sz : Nat) :
    Met l yL_item wsL { frames := 10, cells := 1, slots := 8, locals := 480 } (va_Pc [.ref (ad.getD 0 0), .int r, .int i, .ref o] (PL dC dI cA cL ad S o f sz)) (va_Qi (fun (k : Int32) (f' : Nat → Int64) => k = xItK (plS sg S) r i ∧ (k = 0 → f' 0 = (mLoad (plS sg S) r i).toInt64)) (fun f' t => va_P (dC, dI) xcl (wsI cA cL ad S o f') t.heap) (va_A (wsI cA cL ad S o f) sz)) 1 8 (va_A (wsI cA cL ad S o f) sz) := by
  refine va_MetW (cc := cL_item) (maxL := 5) (ret := some .int) (hh := hhL) (by decide) rfl ?_
  intro p e s m args below meth c s₁ B hml hv
  obtain ⟨rfl, hsz, hP, hK, hD0, hN, hTS, hNc⟩ := hv
  have hx := B.exec
  have hb := B.bytes
  have hr := B.returns
  have hts : ∀ w ∈ TT, w.before _ s = true := fun w hw => atoms_spec (ws := wsL) B.pre w (List.mem_cons_of_mem _ hw)
  have htab : c.exceptionTable.toList = tableOf hhL := vx_table (x := yL_item) B (atoms_spec (ws := wsL) B.pre _ List.mem_cons_self)
  have hown : s.vm.findClass RL = some m.cls := findClass_of_methodNamed B.named
  subst hsz
  have hD := hD0.self (sz := s.heap.size)
  have hFX : ∀ q, va_A (cw cA ad layX S) s.heap.size q → va_A (wsI cA cL ad S o f) s.heap.size q := fun q hq => hq.imp (fun ⟨k, e, hk⟩ => ⟨k, e, ap_l hk⟩) id
  have hoD : ∀ k e, (cw cA ad layX S)[k]? ≠ some (o, e) := fun k e hk => by
    have h1 := hD0.1 k 43 _ _ (ap_l hk) wI_out rfl
    have h2 := (cw_at hk).1
    rw [h1] at h2
    exact absurd h2 (by decide)
  generalize hAe : va_A (wsI cA cL ad S o f) s.heap.size = A at hD hTS hFX ⊢
  have hA : ∀ q : Nat, s.heap.size ≤ q → A q := fun q h => by rw [← hAe]; exact Or.inr h
  have hS : va_S A s.heap s.heap [] := va_S.rf
  obtain ⟨hPX, hPO⟩ := wI_P hP
  have hol : o < s.heap.size := vx_lt hPO (k := 0) rfl
  have hoA : ¬ va_A (cw cA ad layX S) s.heap.size o := fun h => h.elim (fun ⟨k, e, hk⟩ => hoD k e hk) (fun h => absurd hol (Nat.not_lt.mpr h))
  have hKi : va_K (dC, dI) xcl [(cA, .int)] s := hK.sub [0] rfl
  have hDX : va_D (fun _ => True) (cw cA ad layX S) := ⟨fun i j p q hi hj => hD0.1 i j p q (ap_l hi) (ap_l hj), fun _ _ _ => trivial⟩
  have hl := lv_entry ([.ref (ad.getD 0 0), .int r, .int i, .ref o]) (n := 5) (Nat.le_of_ble_eq_true rfl)
  rw [lg_entry_eq]
  generalize (lg_sl ([.ref (ad.getD 0 0), .int r, .int i, .ref o]) ++ List.replicate (5 - (lg_sl ([.ref (ad.getD 0 0), .int r, .int i, .ref o])).length) Slot.unset).toArray = ls at hl ⊢
  have hl : lv_has ls 5 [(0, .ref (ad.getD 0 0)), (1, .int r), (2, .int i), (3, .ref o)] := hl
  refine lv_aload_n hx hb dL_item_0 rfl (lv_at hl 3 rfl) ?_
  refine lv_iconst (v := 0) hx hb dL_item_1 (by decide) ?_
  refine lv_aload_n hx hb dL_item_2 rfl (lv_at hl 0 rfl) ?_
  refine lv_iload_n hx hb dL_item_3 rfl (lv_at hl 1 rfl) ?_
  refine lv_iload_n hx hb dL_item_4 rfl (lv_at hl 2 rfl) ?_
  refine w_vx (ad := ad) (lay := layX) (S := S) (A := A) (rest := [.int 0, .ref o]) (vx_runV (As := [.int r, .int i]) (b := ad.getD 0 0) (n := 2) (C := RX9) ⟨hx, hb, hml, hown, hts⟩ (mx_item hLat hwf r i l hlt dC dI cA ad s.heap.size) ⟨callB_of 2 hts (wsK_good mk_X9_item.2.1) rfl rfl rfl (hts _ mk_X9_item.1) (hts _ wy_1) mk_X9_item.2.2.1 ⟨Nat.le_refl _, Nat.le_of_ble_eq_true rfl⟩, hts _ wy_2, hts _ wy_3⟩ ⟨PPX.blind, va_recv hKi hPX (ci := 6) (q0 := 0) (q := (RX9, TX9, 4)) rfl (cw_get lX_0), fun U hU hw => ⟨rfl, ⟨by rw [hU], by rw [hU]; exact hPX, va_K.moved hw.alike hKi, hDX, hN.warm hw⟩, TS.to hw hFX (fun a _ _ => by rw [hU]) hTS⟩⟩ rfl rfl hl.1 rfl (lv_room (Nat.le_of_ble_eq_true rfl)) dL_item_5 ⟨Nat.le_of_ble_eq_true rfl, Nat.le_of_ble_eq_true rfl⟩) hS hFX (fun r' S' H locs hQ hP1 hz hk hS => ?_) (fun E ce q9 S' H locs hPx hP1 hz hk hS hce hcv hcl => ?_)
  · obtain ⟨h0, rfl, rfl⟩ := hQ
    show W _ _ _ _ _ _ _ _ _ _ _ _ _ _ _ (F0 m 8 ls [.int (mLoad (plS sg S') r i), .int 0, .ref o])
    have hP2 : va_P (dC, dI) xcl (wsI cA cL ad S' o f) H := va_P.app hP1 (hPO.kept (fun k q hk9 => by
      obtain rfl : oE o cL f = q := by
        cases k with
        | zero => simpa using hk9
        | succ k => simp at hk9
      exact hk o hol hoA))
    refine lv_i2l (v := (mLoad (plS sg S') r i).toInt64) hx hb dL_item_8 rfl ?_
    refine va_last (D := (dC, dI)) hx hb hK hP2 hD hS 43 1 wI_out rfl (vp_in_iff.mpr (by decide)) dL_item_9 (fun H locs hP hD hS => ?_)
    have hP : va_P (dC, dI) xcl (wsI cA cL ad S' o (vp_updL f 0 (mLoad (plS sg S') r i).toInt64)) H := by
      rw [← wI_set (f := f)]
      exact hP
    refine lv_goto (tgt := 21) hx hb dL_item_10 (by decide) ?_
    refine lv_iconst (v := 0) hx hb dL_item_21 (by decide) ?_
    exact W.iret hx hb hr (fun t ht hW => ⟨⟨0, vp_updL f 0 (mLoad (plS sg S') r i).toInt64, rfl, ⟨h0.symm, fun _ => by simp [vp_updL]⟩, by subst ht; exact hP⟩, hS.F ht⟩) hS.2.2 dL_item_22
  · have hP2 : S' = S → va_P (dC, dI) xcl (wsI cA cL ad S o f) H := fun e9 => va_P.app (by rw [← e9]; exact hP1) (hPO.kept (fun k q hk9 => by
      obtain rfl : oE o cL f = q := by
        cases k with
        | zero => simpa using hk9
        | succ k => simp at hk9
      exact hk o hol hoA))
    obtain ⟨e9, ⟨h1, rfl⟩ | ⟨h1, rfl⟩⟩ := hPx
    · refine kc_catch (own := RL) (E := Bundle.nN) (h := 13) hown (by rw [htab]; exact Or.inr ⟨by decide, by decide, Bundle.nN, hts _ wy_4, Or.inl ⟨hTS.2.2.1.use wz_N, rfl⟩⟩) hce hcv hcl ?_
      show W _ _ _ _ _ _ _ _ _ _ _ _ _ _ _ (F0 m 13 ls [.ref q9])
      refine lv_astore (lv' := [(4, .ref q9), (0, .ref (ad.getD 0 0)), (1, .int r), (2, .int i), (3, .ref o)]) hx hb dL_item_13 hl (by decide) rfl (fun ls hl => ?_)
      refine lv_iconst (v := 1) hx hb dL_item_15 (by decide) ?_
      exact W.iret hx hb hr (fun t ht hW => ⟨⟨1, f, rfl, ⟨h1.symm, fun h => absurd h (by decide)⟩, by subst ht; exact hP2 e9⟩, hS.F ht⟩) hS.2.2 dL_item_16
    · refine kc_catch (own := RL) (E := eAI) (h := 17) hown (by rw [htab]; exact Or.inr ⟨by decide, by decide, Bundle.nN, hts _ wy_4, Or.inr ⟨hNc, Or.inr ⟨by decide, by decide, eAI, hts _ wy_5, Or.inl ⟨hTS.2.2.1.use wz_A, rfl⟩⟩⟩⟩) hce hcv hcl ?_
      · show W _ _ _ _ _ _ _ _ _ _ _ _ _ _ _ (F0 m 17 ls [.ref q9])
        refine lv_astore (lv' := [(4, .ref q9), (0, .ref (ad.getD 0 0)), (1, .int r), (2, .int i), (3, .ref o)]) hx hb dL_item_17 hl (by decide) rfl (fun ls hl => ?_)
        refine lv_iconst (v := 2) hx hb dL_item_19 (by decide) ?_
        exact W.iret hx hb hr (fun t ht hW => ⟨⟨2, f, rfl, ⟨h1.symm, fun h => absurd h (by decide)⟩, by subst ht; exact hP2 e9⟩, hS.F ht⟩) hS.2.2 dL_item_20
