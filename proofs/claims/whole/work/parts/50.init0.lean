theorem arr_eq {D : va_G} {cl : List vw_C} {cA cB : ClassId} {s : State} (h : va_K D cl ([(cA, .int)] ++ [(cB, .int)]) s) : cA = cB := by
  have h1 := va_nm_int (h.2 1 _ rfl).2
  have h0 := va_nm_int (h.2 0 _ rfl).2
  exact Option.some.inj (h0.symm.trans h1)
/-- a constructor's start and end -/
def IP (dC : Nat → ClassId) (dI : Nat → Nat → Nat) (cA : ClassId) (W0 : va_W) (sz : Nat) : State → Prop := fun U => U.heap.size = sz ∧ va_P (dC, dI) xcl W0 U.heap ∧ va_K (dC, dI) xcl [(cA, .int)] U ∧ va_D (fun _ => True) W0 ∧ NK U
theorem IP.blind {dC : Nat → ClassId} {dI : Nat → Nat → Nat} {cA : ClassId} {W0 : va_W} {sz : Nat} {av : List Value} : FrameBlind (va_Pc av (IP dC dI cA W0 sz)) := fun a U g mk q => by
  obtain ⟨q0, q1, qP, qK, qD, qN⟩ := q
  exact ⟨q0, q1, qP, va_K.moved (u := U) (U := U.calling g mk a) (Vm.Alike.refl U.vm) qK, qD, NK.same (u := U) (U := U.calling g mk a) rfl qN⟩
theorem IP.at {dC : Nat → ClassId} {dI : Nat → Nat → Nat} {cA : ClassId} {W0 : va_W} {A : Nat → Prop} {s U : State} {H : Heap} (hU : U.heap = H) (hw : s.WarmedH U.vm) (hP : va_P (dC, dI) xcl W0 H) (hK : va_K (dC, dI) xcl [(cA, .int)] s) (hD : va_D A W0) (hN : NK s) : IP dC dI cA W0 H.size U :=
  ⟨by rw [hU], by rw [hU]; exact hP, va_K.moved hw.alike hK, hD.weaken (fun _ _ _ _ => trivial), hN.warm hw⟩
def IQ (dC : Nat → ClassId) (dI : Nat → Nat → Nat) (cA : ClassId) (A : Nat → Prop) (B : (Nat → Nat) → va_W) (u : Nat → Nat) (t : State) : Prop := va_P (dC, dI) xcl (B u) t.heap ∧ va_K (dC, dI) xcl [(cA, .int)] t ∧ va_D A (B u)
section WCC
variable {p : Program} {l : Launch} {e : Env} {R : Room} {s : State} {m : MethodId} {args : Array Value} {below : List Frame} {meth : Method} {c : Code} {dC : Nat → ClassId} {dI : Nat → Nat → Nat} {cA : ClassId} {ad : List Nat} {A : Nat → Prop} {H : Heap} {locs : List Loc} {lsA : Array Slot} {cells slots : Nat} {Z : State → Prop} {pc : Nat} {st0 rest : List Value} {lay : Lay} {S : Sx} {Q : Option Value → Sx → Prop} {a : Array Value}
/-- behind a call of a method of the little machine -/
theorem w_cc (hr : va_Run p l e R s m args below meth c H locs cells slots 0 0 (F0 m pc lsA st0) rest (QQ dC dI cA ad (va_A (cw cA ad lay S) H.size) lay Q a) (va_A (cw cA ad lay S) H.size)) (hS : va_S A s.heap H locs) (hF : ∀ q, va_A (cw cA ad lay S) H.size q → A q)
    (kk : ∀ (r : Option Value) (S' : Sx) (H1 : Heap) (locs1 : List Loc), Q r S' → va_P (dC, dI) xcl (cw cA ad lay S') H1 → va_D (va_A (cw cA ad lay S) H.size) (cw cA ad lay S') → H.size ≤ H1.size → (∀ z : Nat, z < H.size → ¬ va_A (cw cA ad lay S) H.size z → H1[z]? = H[z]?) → va_S A s.heap H1 locs1 → W p l e R s m args below meth c H1 locs1 cells slots Z (F0 m (pc + 3) lsA ((r.map (cv ad)).toList ++ rest))) :
    W p l e R s m args below meth c H locs cells slots Z (F0 m pc lsA st0) := by
  intro T hT X
  obtain ⟨v, st₀, t, T', L, h0, X', hLf, e1, e2, ⟨⟨r, S', ho, hQ, hP', hK', hD'⟩, hFr⟩, st⟩ := hr T hT X
  have hv : v = r.map (cv ad) := by injection ho
  subst hv
  have hz : H.size ≤ t.heap.size := by rw [← h0]; exact hFr.1
  have hkeep : ∀ z : Nat, z < H.size → ¬ va_A (cw cA ad lay S) H.size z → t.heap[z]? = H[z]? := fun z h1 h2 => by rw [hFr.2 z (by rw [h0]; exact h1) h2, h0]
  have hS' : va_S A s.heap T'.heap (locs ++ L) := by
    refine ⟨Nat.le_trans hS.1 (by rw [e1]; exact hz), fun z h1 h2 => ?_, fun z hz => ?_⟩
    · rw [e1, hkeep z (Nat.lt_of_lt_of_le h1 hS.1) (fun h => h2 (hF _ h))]
      exact hS.2.1 z h1 h2
    · rcases List.mem_append.mp hz with h | h
      · exact hS.2.2 z h
      · exact hF _ (hLf z h)
  obtain ⟨t2, a1, b1⟩ := kk r S' T'.heap (locs ++ L) hQ (by rw [e1]; exact hP') hD' (by rw [e1]; exact hz) (fun z h1 h2 => by rw [e1]; exact hkeep z h1 h2) hS' T' rfl X'
  exact ⟨t2, st t2 a1, b1⟩
/-- Arrays.fill(a, v), out of a constructor -/
theorem w_fill {own : String} {index nL n : Nat} {av : Nat} {v : Int32} {f : Nat → Int32} {cc : ByteArray} {ws wr : va_W} (C0 : CallFix p m c cc nL s args TT own) (hN : NK s) (hK : va_K (dC, dI) xcl [(cA, .int)] s) (q0 : Nat) (hq : ws[q0]? = some (av, .inl (cA, n, .inl f))) (hP : va_P (dC, dI) xcl ws H) (hD : va_D A ws) (hS : va_S A s.heap H locs) (hA : ∀ q, s.heap.size ≤ q → A q) (isR : List Nat) (hR : isR.map (fun i => ws[i]?) = wr.map some) (hn : va_nd isR = true) (hdis : ∀ i ∈ isR, i ∉ [q0]) (hlink : (Cond.methodLink own index yJ7_fill_53178).before args s = true) (hl : lsA.size = nL) (hdg : decode cc pc = .ok (.invokestatic index, 3)) (hfr : 0 + 1 ≤ R.frames) (hlo : 8 + (4 + 11) + 40 * 0 ≤ R.locals) (hcl : cells + 0 ≤ R.cells) (hsl : slots + 0 ≤ R.slots) (hcat : (rest.map fun v => v.category).sum ≤ 8) (hn31 : n < 2 ^ 31)
    (kk : ∀ (H1 : Heap) (locs1 : List Loc), va_P (dC, dI) xcl (wr ++ [(av, .inl (cA, n, .inl (fil (fun _ => f) 0 n v 0)))]) H1 → va_D A (wr ++ [(av, .inl (cA, n, .inl (fil (fun _ => f) 0 n v 0)))]) → va_S A s.heap H1 locs1 → W p l e R s m args below meth c H1 locs1 cells slots Z (F0 m (pc + 3) lsA rest)) :
    W p l e R s m args below meth c H locs cells slots Z (F0 m pc lsA (.int v :: .ref av :: rest)) := by
  have hwc : [q0].map (fun i => ws[i]?) = ([(av, .inl (cA, n, .inl f))] : va_W).map some := by simp [hq]
  have hPc : va_P (dC, dI) xcl (cw cA [av] [.inl n] (fun _ => f)) H := hP.sub (ws' := [(av, .inl (cA, n, .inl f))]) [q0] (by simp [hq])
  have hDc : va_D A (cw cA [av] [.inl n] (fun _ => f)) := hD.sub (ws' := [(av, .inl (cA, n, .inl f))]) [q0] rfl hwc
  have hFc := va_free (wc := [(av, .inl (cA, n, .inl f))]) hD hS hA [q0] hwc
  have hM := sp_fill (d := 0) (lay := [.inl n]) (b := 0) (n := n) (v := v) (S := fun _ => f) (Q := fun r S' => r = none ∧ S' = fil (fun _ => f) (100 * 0) n v) rfl rfl hn31 ⟨rfl, rfl⟩ l dC dI cA [av] H.size
  have hfix := C0
  obtain ⟨hx, hb, hml, hown, hts⟩ := C0
  have hW : Wd dC dI cA [av] A s [.inl n] (fun _ => f) H locs := ⟨hK, hPc, hDc, hS, hA⟩
  refine w_cc (ad := [av]) (lay := [.inl n]) (S := fun _ => f) (va_runS (As := [.ref av, .int v]) (n := 2) hfix hM ⟨callB_of 2 hts (wsK_good mk_J7_fill_53178.2.1) rfl rfl rfl (hts _ mk_J7_fill_53178.1) hlink mk_J7_fill_53178.2.2.1 ⟨hfr, hlo⟩, hts _ wd_fillS⟩ ⟨PP.blind, fun U hU hw => ⟨rfl, PP.at hW hU hw hN⟩⟩ rfl rfl hl rfl (lv_room hcat) hdg ⟨hcl, hsl⟩) hS hFc (fun r S' H1 locs1 hQ hP1 hD1 hz hk hS1 => ?_)
  obtain ⟨rfl, rfl⟩ := hQ
  obtain ⟨hP2, hD2⟩ := va_join (wr := wr) (w1 := [(av, .inl (cA, n, .inl (fil (fun _ => f) 0 n v 0)))]) hP hD [q0] isR hwc hR hn hdis hk hFc hP1 hD1
  exact kk H1 locs1 hP2 hD2 hS1
end WCC
def B_X0_init (cA : ClassId) (h0 : Nat) (u : Nat → Nat) : va_W := [(h0, .inr (0, [.ref (u 1), .ref (u 2), .ref (u 3), .ref (u 4), .ref (u 5), .int 0])), ((u 1), .inl (cA, 128, .inl (fun _ => 0))), ((u 2), .inl (cA, 128, .inl (fun _ => 0))), ((u 3), .inl (cA, 128, .inl (fun _ => 0))), ((u 4), .inl (cA, 128, .inl (fun _ => 0))), ((u 5), .inl (cA, 128, .inl (fun _ => 0)))]
set_option maxHeartbeats 4000000 in
set_option maxRecDepth 100000 in
theorem ci_X0_init (l : Launch) (dC : Nat → ClassId) (dI : Nat → Nat → Nat) (cA : ClassId) (h0 : Nat) (sz : Nat) : Met l kX0_init.1 (wsK kX0_init) { frames := 2, cells := 5, slots := 640, locals := 80 } (va_Pc [.ref h0] (IP dC dI cA [(h0, .inr (0, [.null, .null, .null, .null, .null, .int 0]))] sz)) (va_Qv (fun _ : Nat → Nat => True) (IQ dC dI cA (va_A [(h0, .inr (0, [.null, .null, .null, .null, .null, .int 0]))] sz) (B_X0_init cA h0)) (va_A [(h0, .inr (0, [.null, .null, .null, .null, .null, .int 0]))] sz)) 5 640 (va_A [(h0, .inr (0, [.null, .null, .null, .null, .null, .int 0]))] sz) := by
  refine Met.ofW (cc := kX0_init.2.1) (maxL := kX0_init.2.2.1) (ret := kX0_init.2.2.2) (by decide) rfl ?_
  intro p e s m args below meth c s₁ B hml hv
  obtain ⟨rfl, hsz, hP, hK, hD0, hN⟩ := hv
  have hx := B.exec
  have hb := B.bytes
  have hr := B.returns
  have hts : ∀ w ∈ TT, w.before _ s = true := fun w hw => atoms_spec (ws := wsK kX0_init) B.pre w (List.mem_cons_of_mem _ hw)
  have hown : s.vm.findClass RX0 = some m.cls := findClass_of_methodNamed B.named
  have hin : meth.name = "<init>" := (name_of_methodNamed B.named B.method).1
  subst hsz
  have hD := hD0.self (sz := s.heap.size)
  generalize hAe : va_A [(h0, .inr (0, [.null, .null, .null, .null, .null, .int 0]))] s.heap.size = A at hD ⊢
  have hA : ∀ q : Nat, s.heap.size ≤ q → A q := fun q h => by rw [← hAe]; exact Or.inr h
  have hS : va_S A s.heap s.heap [] := va_S.rf
  have hP : va_P (dC, dI) xcl [(h0, .inr (0, [.null, .null, .null, .null, .null, .int 0]))] s.heap := hP
  have hl := lv_entry ([.ref h0]) (n := 1) (Nat.le_of_ble_eq_true rfl)
  rw [lg_entry_eq]
  generalize (lg_sl ([.ref h0]) ++ List.replicate (1 - (lg_sl ([.ref h0])).length) Slot.unset).toArray = ls at hl ⊢
  have hl : lv_has ls 1 [(0, .ref h0)] := hl
  refine lv_aload_n hx hb dX0_init_0 rfl (lv_at hl 0 rfl) ?_
  refine W.objInit hx hb hown (hts _ wi_26) (hts _ wi_24) (hts _ wi_25) rfl (by rw [hml]; exact hl.1) rfl dX0_init_1 (Nat.le_of_ble_eq_true rfl) (Nat.le_of_ble_eq_true rfl) ?_
  refine W.eq (g2 := F0 m 4 ls []) rfl ?_
  refine lv_aload_n hx hb dX0_init_4 rfl (lv_at hl 0 rfl) ?_
  refine lv_sipush (v := 128) hx hb dX0_init_5 (by decide) ?_
  refine va_newa (atype := .int) (ty := .int) (a0 := (128, .inl (fun _ => 0))) hx hb (hts _ wi_27) rfl hK hP hD hS hA (fun _ => rfl) (by decide) (by decide) (by decide) (Nat.le_of_ble_eq_true rfl) (Nat.le_of_ble_eq_true rfl) dX0_init_8 (fun q1 cB H9 hKB hP9 hD9 hS9 => ?_)
  obtain rfl := arr_eq hKB
  clear hKB
  clear hP hD hS
  have hP : va_P (dC, dI) xcl [(h0, .inr (0, [.null, .null, .null, .null, .null, .int 0])), (q1, .inl (cA, 128, .inl (fun _ => 0)))] H9 := hP9
  have hD : va_D A [(h0, .inr (0, [.null, .null, .null, .null, .null, .int 0])), (q1, .inl (cA, 128, .inl (fun _ => 0)))] := hD9
  have hS := hS9
  clear hP9 hD9 hS9
  refine va_putF (D := (dC, dI)) (ci := 0) (v := .ref q1) (ty := .array .int) (C := RX0) (T := TX0) (N := 6) hx hb hts in_X0 tyX0 tyX0_ok nmX0 hown hK hP hD hS 0 rfl rfl 0 (by decide) (hts _ wi_28) (fun _ h9 => h9) rfl hin rfl (by decide +kernel) rfl rfl (Nat.le_of_ble_eq_true rfl) dX0_init_10 (fun H9 locs hP9 hD9 hS9 => ?_)
  clear hP hD hS
  have hP : va_P (dC, dI) xcl [(h0, .inr (0, [.ref q1, .null, .null, .null, .null, .int 0])), (q1, .inl (cA, 128, .inl (fun _ => 0)))] H9 := hP9
  have hD : va_D A [(h0, .inr (0, [.ref q1, .null, .null, .null, .null, .int 0])), (q1, .inl (cA, 128, .inl (fun _ => 0)))] := hD9
  have hS := hS9
  clear hP9 hD9 hS9
  refine lv_aload_n hx hb dX0_init_13 rfl (lv_at hl 0 rfl) ?_
  refine lv_sipush (v := 128) hx hb dX0_init_14 (by decide) ?_
  refine va_newa (atype := .int) (ty := .int) (a0 := (128, .inl (fun _ => 0))) hx hb (hts _ wi_27) rfl hK hP hD hS hA (fun _ => rfl) (by decide) (by decide) (by decide) (Nat.le_of_ble_eq_true rfl) (Nat.le_of_ble_eq_true rfl) dX0_init_17 (fun q2 cB H9 hKB hP9 hD9 hS9 => ?_)
  obtain rfl := arr_eq hKB
  clear hKB
  clear hP hD hS
  have hP : va_P (dC, dI) xcl [(h0, .inr (0, [.ref q1, .null, .null, .null, .null, .int 0])), (q1, .inl (cA, 128, .inl (fun _ => 0))), (q2, .inl (cA, 128, .inl (fun _ => 0)))] H9 := hP9
  have hD : va_D A [(h0, .inr (0, [.ref q1, .null, .null, .null, .null, .int 0])), (q1, .inl (cA, 128, .inl (fun _ => 0))), (q2, .inl (cA, 128, .inl (fun _ => 0)))] := hD9
  have hS := hS9
  clear hP9 hD9 hS9
  refine va_putF (D := (dC, dI)) (ci := 0) (v := .ref q2) (ty := .array .int) (C := RX0) (T := TX0) (N := 6) hx hb hts in_X0 tyX0 tyX0_ok nmX0 hown hK hP hD hS 0 rfl rfl 1 (by decide) (hts _ wi_29) (fun _ h9 => h9) rfl hin rfl (by decide +kernel) rfl rfl (Nat.le_of_ble_eq_true rfl) dX0_init_19 (fun H9 locs hP9 hD9 hS9 => ?_)
  clear hP hD hS
  have hP : va_P (dC, dI) xcl [(h0, .inr (0, [.ref q1, .ref q2, .null, .null, .null, .int 0])), (q1, .inl (cA, 128, .inl (fun _ => 0))), (q2, .inl (cA, 128, .inl (fun _ => 0)))] H9 := hP9
  have hD : va_D A [(h0, .inr (0, [.ref q1, .ref q2, .null, .null, .null, .int 0])), (q1, .inl (cA, 128, .inl (fun _ => 0))), (q2, .inl (cA, 128, .inl (fun _ => 0)))] := hD9
  have hS := hS9
  clear hP9 hD9 hS9
  refine lv_aload_n hx hb dX0_init_22 rfl (lv_at hl 0 rfl) ?_
  refine lv_sipush (v := 128) hx hb dX0_init_23 (by decide) ?_
  refine va_newa (atype := .int) (ty := .int) (a0 := (128, .inl (fun _ => 0))) hx hb (hts _ wi_27) rfl hK hP hD hS hA (fun _ => rfl) (by decide) (by decide) (by decide) (Nat.le_of_ble_eq_true rfl) (Nat.le_of_ble_eq_true rfl) dX0_init_26 (fun q3 cB H9 hKB hP9 hD9 hS9 => ?_)
  obtain rfl := arr_eq hKB
  clear hKB
  clear hP hD hS
  have hP : va_P (dC, dI) xcl [(h0, .inr (0, [.ref q1, .ref q2, .null, .null, .null, .int 0])), (q1, .inl (cA, 128, .inl (fun _ => 0))), (q2, .inl (cA, 128, .inl (fun _ => 0))), (q3, .inl (cA, 128, .inl (fun _ => 0)))] H9 := hP9
  have hD : va_D A [(h0, .inr (0, [.ref q1, .ref q2, .null, .null, .null, .int 0])), (q1, .inl (cA, 128, .inl (fun _ => 0))), (q2, .inl (cA, 128, .inl (fun _ => 0))), (q3, .inl (cA, 128, .inl (fun _ => 0)))] := hD9
  have hS := hS9
  clear hP9 hD9 hS9
  refine va_putF (D := (dC, dI)) (ci := 0) (v := .ref q3) (ty := .array .int) (C := RX0) (T := TX0) (N := 6) hx hb hts in_X0 tyX0 tyX0_ok nmX0 hown hK hP hD hS 0 rfl rfl 2 (by decide) (hts _ wi_30) (fun _ h9 => h9) rfl hin rfl (by decide +kernel) rfl rfl (Nat.le_of_ble_eq_true rfl) dX0_init_28 (fun H9 locs hP9 hD9 hS9 => ?_)
  clear hP hD hS
  have hP : va_P (dC, dI) xcl [(h0, .inr (0, [.ref q1, .ref q2, .ref q3, .null, .null, .int 0])), (q1, .inl (cA, 128, .inl (fun _ => 0))), (q2, .inl (cA, 128, .inl (fun _ => 0))), (q3, .inl (cA, 128, .inl (fun _ => 0)))] H9 := hP9
  have hD : va_D A [(h0, .inr (0, [.ref q1, .ref q2, .ref q3, .null, .null, .int 0])), (q1, .inl (cA, 128, .inl (fun _ => 0))), (q2, .inl (cA, 128, .inl (fun _ => 0))), (q3, .inl (cA, 128, .inl (fun _ => 0)))] := hD9
  have hS := hS9
  clear hP9 hD9 hS9
  refine lv_aload_n hx hb dX0_init_31 rfl (lv_at hl 0 rfl) ?_
  refine lv_sipush (v := 128) hx hb dX0_init_32 (by decide) ?_
  refine va_newa (atype := .int) (ty := .int) (a0 := (128, .inl (fun _ => 0))) hx hb (hts _ wi_27) rfl hK hP hD hS hA (fun _ => rfl) (by decide) (by decide) (by decide) (Nat.le_of_ble_eq_true rfl) (Nat.le_of_ble_eq_true rfl) dX0_init_35 (fun q4 cB H9 hKB hP9 hD9 hS9 => ?_)
  obtain rfl := arr_eq hKB
  clear hKB
  clear hP hD hS
  have hP : va_P (dC, dI) xcl [(h0, .inr (0, [.ref q1, .ref q2, .ref q3, .null, .null, .int 0])), (q1, .inl (cA, 128, .inl (fun _ => 0))), (q2, .inl (cA, 128, .inl (fun _ => 0))), (q3, .inl (cA, 128, .inl (fun _ => 0))), (q4, .inl (cA, 128, .inl (fun _ => 0)))] H9 := hP9
  have hD : va_D A [(h0, .inr (0, [.ref q1, .ref q2, .ref q3, .null, .null, .int 0])), (q1, .inl (cA, 128, .inl (fun _ => 0))), (q2, .inl (cA, 128, .inl (fun _ => 0))), (q3, .inl (cA, 128, .inl (fun _ => 0))), (q4, .inl (cA, 128, .inl (fun _ => 0)))] := hD9
  have hS := hS9
  clear hP9 hD9 hS9
  refine va_putF (D := (dC, dI)) (ci := 0) (v := .ref q4) (ty := .array .int) (C := RX0) (T := TX0) (N := 6) hx hb hts in_X0 tyX0 tyX0_ok nmX0 hown hK hP hD hS 0 rfl rfl 3 (by decide) (hts _ wi_31) (fun _ h9 => h9) rfl hin rfl (by decide +kernel) rfl rfl (Nat.le_of_ble_eq_true rfl) dX0_init_37 (fun H9 locs hP9 hD9 hS9 => ?_)
  clear hP hD hS
  have hP : va_P (dC, dI) xcl [(h0, .inr (0, [.ref q1, .ref q2, .ref q3, .ref q4, .null, .int 0])), (q1, .inl (cA, 128, .inl (fun _ => 0))), (q2, .inl (cA, 128, .inl (fun _ => 0))), (q3, .inl (cA, 128, .inl (fun _ => 0))), (q4, .inl (cA, 128, .inl (fun _ => 0)))] H9 := hP9
  have hD : va_D A [(h0, .inr (0, [.ref q1, .ref q2, .ref q3, .ref q4, .null, .int 0])), (q1, .inl (cA, 128, .inl (fun _ => 0))), (q2, .inl (cA, 128, .inl (fun _ => 0))), (q3, .inl (cA, 128, .inl (fun _ => 0))), (q4, .inl (cA, 128, .inl (fun _ => 0)))] := hD9
  have hS := hS9
  clear hP9 hD9 hS9
  refine lv_aload_n hx hb dX0_init_40 rfl (lv_at hl 0 rfl) ?_
  refine lv_sipush (v := 128) hx hb dX0_init_41 (by decide) ?_
  refine va_newa (atype := .int) (ty := .int) (a0 := (128, .inl (fun _ => 0))) hx hb (hts _ wi_27) rfl hK hP hD hS hA (fun _ => rfl) (by decide) (by decide) (by decide) (Nat.le_of_ble_eq_true rfl) (Nat.le_of_ble_eq_true rfl) dX0_init_44 (fun q5 cB H9 hKB hP9 hD9 hS9 => ?_)
  obtain rfl := arr_eq hKB
  clear hKB
  clear hP hD hS
  have hP : va_P (dC, dI) xcl [(h0, .inr (0, [.ref q1, .ref q2, .ref q3, .ref q4, .null, .int 0])), (q1, .inl (cA, 128, .inl (fun _ => 0))), (q2, .inl (cA, 128, .inl (fun _ => 0))), (q3, .inl (cA, 128, .inl (fun _ => 0))), (q4, .inl (cA, 128, .inl (fun _ => 0))), (q5, .inl (cA, 128, .inl (fun _ => 0)))] H9 := hP9
  have hD : va_D A [(h0, .inr (0, [.ref q1, .ref q2, .ref q3, .ref q4, .null, .int 0])), (q1, .inl (cA, 128, .inl (fun _ => 0))), (q2, .inl (cA, 128, .inl (fun _ => 0))), (q3, .inl (cA, 128, .inl (fun _ => 0))), (q4, .inl (cA, 128, .inl (fun _ => 0))), (q5, .inl (cA, 128, .inl (fun _ => 0)))] := hD9
  have hS := hS9
  clear hP9 hD9 hS9
  refine va_putF (D := (dC, dI)) (ci := 0) (v := .ref q5) (ty := .array .int) (C := RX0) (T := TX0) (N := 6) hx hb hts in_X0 tyX0 tyX0_ok nmX0 hown hK hP hD hS 0 rfl rfl 4 (by decide) (hts _ wi_32) (fun _ h9 => h9) rfl hin rfl (by decide +kernel) rfl rfl (Nat.le_of_ble_eq_true rfl) dX0_init_46 (fun H9 locs hP9 hD9 hS9 => ?_)
  clear hP hD hS
  have hP : va_P (dC, dI) xcl [(h0, .inr (0, [.ref q1, .ref q2, .ref q3, .ref q4, .ref q5, .int 0])), (q1, .inl (cA, 128, .inl (fun _ => 0))), (q2, .inl (cA, 128, .inl (fun _ => 0))), (q3, .inl (cA, 128, .inl (fun _ => 0))), (q4, .inl (cA, 128, .inl (fun _ => 0))), (q5, .inl (cA, 128, .inl (fun _ => 0)))] H9 := hP9
  have hD : va_D A [(h0, .inr (0, [.ref q1, .ref q2, .ref q3, .ref q4, .ref q5, .int 0])), (q1, .inl (cA, 128, .inl (fun _ => 0))), (q2, .inl (cA, 128, .inl (fun _ => 0))), (q3, .inl (cA, 128, .inl (fun _ => 0))), (q4, .inl (cA, 128, .inl (fun _ => 0))), (q5, .inl (cA, 128, .inl (fun _ => 0)))] := hD9
  have hS := hS9
  clear hP9 hD9 hS9
  refine W.widen (k := 5) (n := 640) (Nat.le_of_ble_eq_true rfl) (Nat.le_of_ble_eq_true rfl) ?_
  exact W.vret hx hb hr (fun t ht hW => ⟨⟨fun i => ([q1, q2, q3, q4, q5] : List Nat).getD (i - 1) 0, rfl, trivial, by rw [ht]; exact hP, va_K.moved hW.alike hK, hD⟩, hS.F ht⟩) hS.2.2 dX0_init_49
def B_X2_init (cA : ClassId) (h0 : Nat) (u : Nat → Nat) : va_W := [(h0, .inr (1, [.ref (u 1), .int 0])), ((u 1), .inl (cA, 4, .inl (fun _ => 0)))]
set_option maxHeartbeats 4000000 in
set_option maxRecDepth 100000 in
theorem ci_X2_init (l : Launch) (dC : Nat → ClassId) (dI : Nat → Nat → Nat) (cA : ClassId) (h0 : Nat) (sz : Nat) : Met l kX2_init.1 (wsK kX2_init) { frames := 2, cells := 1, slots := 4, locals := 80 } (va_Pc [.ref h0] (IP dC dI cA [(h0, .inr (1, [.null, .int 0]))] sz)) (va_Qv (fun _ : Nat → Nat => True) (IQ dC dI cA (va_A [(h0, .inr (1, [.null, .int 0]))] sz) (B_X2_init cA h0)) (va_A [(h0, .inr (1, [.null, .int 0]))] sz)) 1 4 (va_A [(h0, .inr (1, [.null, .int 0]))] sz) := by
  refine Met.ofW (cc := kX2_init.2.1) (maxL := kX2_init.2.2.1) (ret := kX2_init.2.2.2) (by decide) rfl ?_
  intro p e s m args below meth c s₁ B hml hv
  obtain ⟨rfl, hsz, hP, hK, hD0, hN⟩ := hv
  have hx := B.exec
  have hb := B.bytes
  have hr := B.returns
  have hts : ∀ w ∈ TT, w.before _ s = true := fun w hw => atoms_spec (ws := wsK kX2_init) B.pre w (List.mem_cons_of_mem _ hw)
  have hown : s.vm.findClass RX2 = some m.cls := findClass_of_methodNamed B.named
  have hin : meth.name = "<init>" := (name_of_methodNamed B.named B.method).1
  subst hsz
  have hD := hD0.self (sz := s.heap.size)
  generalize hAe : va_A [(h0, .inr (1, [.null, .int 0]))] s.heap.size = A at hD ⊢
  have hA : ∀ q : Nat, s.heap.size ≤ q → A q := fun q h => by rw [← hAe]; exact Or.inr h
  have hS : va_S A s.heap s.heap [] := va_S.rf
  have hP : va_P (dC, dI) xcl [(h0, .inr (1, [.null, .int 0]))] s.heap := hP
  have hl := lv_entry ([.ref h0]) (n := 1) (Nat.le_of_ble_eq_true rfl)
  rw [lg_entry_eq]
  generalize (lg_sl ([.ref h0]) ++ List.replicate (1 - (lg_sl ([.ref h0])).length) Slot.unset).toArray = ls at hl ⊢
  have hl : lv_has ls 1 [(0, .ref h0)] := hl
  refine lv_aload_n hx hb dX2_init_0 rfl (lv_at hl 0 rfl) ?_
  refine W.objInit hx hb hown (hts _ wi_33) (hts _ wi_24) (hts _ wi_25) rfl (by rw [hml]; exact hl.1) rfl dX2_init_1 (Nat.le_of_ble_eq_true rfl) (Nat.le_of_ble_eq_true rfl) ?_
  refine W.eq (g2 := F0 m 4 ls []) rfl ?_
  refine lv_aload_n hx hb dX2_init_4 rfl (lv_at hl 0 rfl) ?_
  refine lv_iconst (v := 4) hx hb dX2_init_5 (by decide) ?_
  refine va_newa (atype := .int) (ty := .int) (a0 := (4, .inl (fun _ => 0))) hx hb (hts _ wi_27) rfl hK hP hD hS hA (fun _ => rfl) (by decide) (by decide) (by decide) (Nat.le_of_ble_eq_true rfl) (Nat.le_of_ble_eq_true rfl) dX2_init_6 (fun q1 cB H9 hKB hP9 hD9 hS9 => ?_)
  obtain rfl := arr_eq hKB
  clear hKB
  clear hP hD hS
  have hP : va_P (dC, dI) xcl [(h0, .inr (1, [.null, .int 0])), (q1, .inl (cA, 4, .inl (fun _ => 0)))] H9 := hP9
  have hD : va_D A [(h0, .inr (1, [.null, .int 0])), (q1, .inl (cA, 4, .inl (fun _ => 0)))] := hD9
  have hS := hS9
  clear hP9 hD9 hS9
  refine va_putF (D := (dC, dI)) (ci := 1) (v := .ref q1) (ty := .array .int) (C := RX2) (T := TX2) (N := 2) hx hb hts in_X2 tyX2 tyX2_ok nmX2 hown hK hP hD hS 0 rfl rfl 0 (by decide) (hts _ wi_34) (fun _ h9 => h9) rfl hin rfl (by decide +kernel) rfl rfl (Nat.le_of_ble_eq_true rfl) dX2_init_8 (fun H9 locs hP9 hD9 hS9 => ?_)
  clear hP hD hS
  have hP : va_P (dC, dI) xcl [(h0, .inr (1, [.ref q1, .int 0])), (q1, .inl (cA, 4, .inl (fun _ => 0)))] H9 := hP9
  have hD : va_D A [(h0, .inr (1, [.ref q1, .int 0])), (q1, .inl (cA, 4, .inl (fun _ => 0)))] := hD9
  have hS := hS9
  clear hP9 hD9 hS9
  refine W.widen (k := 1) (n := 4) (Nat.le_of_ble_eq_true rfl) (Nat.le_of_ble_eq_true rfl) ?_
  exact W.vret hx hb hr (fun t ht hW => ⟨⟨fun i => ([q1] : List Nat).getD (i - 1) 0, rfl, trivial, by rw [ht]; exact hP, va_K.moved hW.alike hK, hD⟩, hS.F ht⟩) hS.2.2 dX2_init_11
def B_X4_init (cA : ClassId) (h0 : Nat) (u : Nat → Nat) : va_W := [(h0, .inr (2, [.ref (u 1), .ref (u 2), .ref (u 4), .ref (u 3), .int 0, .int 0])), ((u 1), .inl (cA, 8, .inl (fun _ => 0))), ((u 2), .inl (cA, 4, .inl (fun _ => 0))), ((u 3), .inl (cA, 800, .inl (fun _ => 0))), ((u 4), .inl (cA, 4, .inl (fil (fun _ => fun _ => 0) 0 4 ((-1)) 0)))]
set_option maxHeartbeats 4000000 in
set_option maxRecDepth 100000 in
theorem ci_X4_init (l : Launch) (dC : Nat → ClassId) (dI : Nat → Nat → Nat) (cA : ClassId) (h0 : Nat) (sz : Nat) : Met l kX4_init.1 (wsK kX4_init) { frames := 3, cells := 4, slots := 816, locals := 120 } (va_Pc [.ref h0] (IP dC dI cA [(h0, .inr (2, [.null, .null, .null, .null, .int 0, .int 0]))] sz)) (va_Qv (fun _ : Nat → Nat => True) (IQ dC dI cA (va_A [(h0, .inr (2, [.null, .null, .null, .null, .int 0, .int 0]))] sz) (B_X4_init cA h0)) (va_A [(h0, .inr (2, [.null, .null, .null, .null, .int 0, .int 0]))] sz)) 4 816 (va_A [(h0, .inr (2, [.null, .null, .null, .null, .int 0, .int 0]))] sz) := by
  refine Met.ofW (cc := kX4_init.2.1) (maxL := kX4_init.2.2.1) (ret := kX4_init.2.2.2) (by decide) rfl ?_
  intro p e s m args below meth c s₁ B hml hv
  obtain ⟨rfl, hsz, hP, hK, hD0, hN⟩ := hv
  have hx := B.exec
  have hb := B.bytes
  have hr := B.returns
  have hts : ∀ w ∈ TT, w.before _ s = true := fun w hw => atoms_spec (ws := wsK kX4_init) B.pre w (List.mem_cons_of_mem _ hw)
  have hown : s.vm.findClass RX4 = some m.cls := findClass_of_methodNamed B.named
  have hin : meth.name = "<init>" := (name_of_methodNamed B.named B.method).1
  subst hsz
  have hD := hD0.self (sz := s.heap.size)
  generalize hAe : va_A [(h0, .inr (2, [.null, .null, .null, .null, .int 0, .int 0]))] s.heap.size = A at hD ⊢
  have hA : ∀ q : Nat, s.heap.size ≤ q → A q := fun q h => by rw [← hAe]; exact Or.inr h
  have hS : va_S A s.heap s.heap [] := va_S.rf
  have hP : va_P (dC, dI) xcl [(h0, .inr (2, [.null, .null, .null, .null, .int 0, .int 0]))] s.heap := hP
  have hl := lv_entry ([.ref h0]) (n := 1) (Nat.le_of_ble_eq_true rfl)
  rw [lg_entry_eq]
  generalize (lg_sl ([.ref h0]) ++ List.replicate (1 - (lg_sl ([.ref h0])).length) Slot.unset).toArray = ls at hl ⊢
  have hl : lv_has ls 1 [(0, .ref h0)] := hl
  refine lv_aload_n hx hb dX4_init_0 rfl (lv_at hl 0 rfl) ?_
  refine W.objInit hx hb hown (hts _ wi_35) (hts _ wi_24) (hts _ wi_25) rfl (by rw [hml]; exact hl.1) rfl dX4_init_1 (Nat.le_of_ble_eq_true rfl) (Nat.le_of_ble_eq_true rfl) ?_
  refine W.eq (g2 := F0 m 4 ls []) rfl ?_
  refine lv_aload_n hx hb dX4_init_4 rfl (lv_at hl 0 rfl) ?_
  refine lv_bipush (v := 8) hx hb dX4_init_5 (by decide) ?_
  refine va_newa (atype := .int) (ty := .int) (a0 := (8, .inl (fun _ => 0))) hx hb (hts _ wi_27) rfl hK hP hD hS hA (fun _ => rfl) (by decide) (by decide) (by decide) (Nat.le_of_ble_eq_true rfl) (Nat.le_of_ble_eq_true rfl) dX4_init_7 (fun q1 cB H9 hKB hP9 hD9 hS9 => ?_)
  obtain rfl := arr_eq hKB
  clear hKB
  clear hP hD hS
  have hP : va_P (dC, dI) xcl [(h0, .inr (2, [.null, .null, .null, .null, .int 0, .int 0])), (q1, .inl (cA, 8, .inl (fun _ => 0)))] H9 := hP9
  have hD : va_D A [(h0, .inr (2, [.null, .null, .null, .null, .int 0, .int 0])), (q1, .inl (cA, 8, .inl (fun _ => 0)))] := hD9
  have hS := hS9
  clear hP9 hD9 hS9
  refine va_putF (D := (dC, dI)) (ci := 2) (v := .ref q1) (ty := .array .int) (C := RX4) (T := TX4) (N := 6) hx hb hts in_X4 tyX4 tyX4_ok nmX4 hown hK hP hD hS 0 rfl rfl 0 (by decide) (hts _ wi_36) (fun _ h9 => h9) rfl hin rfl (by decide +kernel) rfl rfl (Nat.le_of_ble_eq_true rfl) dX4_init_9 (fun H9 locs hP9 hD9 hS9 => ?_)
  clear hP hD hS
  have hP : va_P (dC, dI) xcl [(h0, .inr (2, [.ref q1, .null, .null, .null, .int 0, .int 0])), (q1, .inl (cA, 8, .inl (fun _ => 0)))] H9 := hP9
  have hD : va_D A [(h0, .inr (2, [.ref q1, .null, .null, .null, .int 0, .int 0])), (q1, .inl (cA, 8, .inl (fun _ => 0)))] := hD9
  have hS := hS9
  clear hP9 hD9 hS9
  refine lv_aload_n hx hb dX4_init_12 rfl (lv_at hl 0 rfl) ?_
  refine lv_iconst (v := 4) hx hb dX4_init_13 (by decide) ?_
  refine va_newa (atype := .int) (ty := .int) (a0 := (4, .inl (fun _ => 0))) hx hb (hts _ wi_27) rfl hK hP hD hS hA (fun _ => rfl) (by decide) (by decide) (by decide) (Nat.le_of_ble_eq_true rfl) (Nat.le_of_ble_eq_true rfl) dX4_init_14 (fun q2 cB H9 hKB hP9 hD9 hS9 => ?_)
  obtain rfl := arr_eq hKB
  clear hKB
  clear hP hD hS
  have hP : va_P (dC, dI) xcl [(h0, .inr (2, [.ref q1, .null, .null, .null, .int 0, .int 0])), (q1, .inl (cA, 8, .inl (fun _ => 0))), (q2, .inl (cA, 4, .inl (fun _ => 0)))] H9 := hP9
  have hD : va_D A [(h0, .inr (2, [.ref q1, .null, .null, .null, .int 0, .int 0])), (q1, .inl (cA, 8, .inl (fun _ => 0))), (q2, .inl (cA, 4, .inl (fun _ => 0)))] := hD9
  have hS := hS9
  clear hP9 hD9 hS9
  refine va_putF (D := (dC, dI)) (ci := 2) (v := .ref q2) (ty := .array .int) (C := RX4) (T := TX4) (N := 6) hx hb hts in_X4 tyX4 tyX4_ok nmX4 hown hK hP hD hS 0 rfl rfl 1 (by decide) (hts _ wi_37) (fun _ h9 => h9) rfl hin rfl (by decide +kernel) rfl rfl (Nat.le_of_ble_eq_true rfl) dX4_init_16 (fun H9 locs hP9 hD9 hS9 => ?_)
  clear hP hD hS
  have hP : va_P (dC, dI) xcl [(h0, .inr (2, [.ref q1, .ref q2, .null, .null, .int 0, .int 0])), (q1, .inl (cA, 8, .inl (fun _ => 0))), (q2, .inl (cA, 4, .inl (fun _ => 0)))] H9 := hP9
  have hD : va_D A [(h0, .inr (2, [.ref q1, .ref q2, .null, .null, .int 0, .int 0])), (q1, .inl (cA, 8, .inl (fun _ => 0))), (q2, .inl (cA, 4, .inl (fun _ => 0)))] := hD9
  have hS := hS9
  clear hP9 hD9 hS9
  refine lv_aload_n hx hb dX4_init_19 rfl (lv_at hl 0 rfl) ?_
  refine lv_iconst (v := 4) hx hb dX4_init_20 (by decide) ?_
  refine va_newa (atype := .int) (ty := .int) (a0 := (4, .inl (fun _ => 0))) hx hb (hts _ wi_27) rfl hK hP hD hS hA (fun _ => rfl) (by decide) (by decide) (by decide) (Nat.le_of_ble_eq_true rfl) (Nat.le_of_ble_eq_true rfl) dX4_init_21 (fun q3 cB H9 hKB hP9 hD9 hS9 => ?_)
  obtain rfl := arr_eq hKB
  clear hKB
  clear hP hD hS
  have hP : va_P (dC, dI) xcl [(h0, .inr (2, [.ref q1, .ref q2, .null, .null, .int 0, .int 0])), (q1, .inl (cA, 8, .inl (fun _ => 0))), (q2, .inl (cA, 4, .inl (fun _ => 0))), (q3, .inl (cA, 4, .inl (fun _ => 0)))] H9 := hP9
  have hD : va_D A [(h0, .inr (2, [.ref q1, .ref q2, .null, .null, .int 0, .int 0])), (q1, .inl (cA, 8, .inl (fun _ => 0))), (q2, .inl (cA, 4, .inl (fun _ => 0))), (q3, .inl (cA, 4, .inl (fun _ => 0)))] := hD9
  have hS := hS9
  clear hP9 hD9 hS9
  refine va_putF (D := (dC, dI)) (ci := 2) (v := .ref q3) (ty := .array .int) (C := RX4) (T := TX4) (N := 6) hx hb hts in_X4 tyX4 tyX4_ok nmX4 hown hK hP hD hS 0 rfl rfl 2 (by decide) (hts _ wi_38) (fun _ h9 => h9) rfl hin rfl (by decide +kernel) rfl rfl (Nat.le_of_ble_eq_true rfl) dX4_init_23 (fun H9 locs hP9 hD9 hS9 => ?_)
  clear hP hD hS
  have hP : va_P (dC, dI) xcl [(h0, .inr (2, [.ref q1, .ref q2, .ref q3, .null, .int 0, .int 0])), (q1, .inl (cA, 8, .inl (fun _ => 0))), (q2, .inl (cA, 4, .inl (fun _ => 0))), (q3, .inl (cA, 4, .inl (fun _ => 0)))] H9 := hP9
  have hD : va_D A [(h0, .inr (2, [.ref q1, .ref q2, .ref q3, .null, .int 0, .int 0])), (q1, .inl (cA, 8, .inl (fun _ => 0))), (q2, .inl (cA, 4, .inl (fun _ => 0))), (q3, .inl (cA, 4, .inl (fun _ => 0)))] := hD9
  have hS := hS9
  clear hP9 hD9 hS9
  refine lv_aload_n hx hb dX4_init_26 rfl (lv_at hl 0 rfl) ?_
  refine lv_sipush (v := 800) hx hb dX4_init_27 (by decide) ?_
  refine va_newa (atype := .int) (ty := .int) (a0 := (800, .inl (fun _ => 0))) hx hb (hts _ wi_27) rfl hK hP hD hS hA (fun _ => rfl) (by decide) (by decide) (by decide) (Nat.le_of_ble_eq_true rfl) (Nat.le_of_ble_eq_true rfl) dX4_init_30 (fun q4 cB H9 hKB hP9 hD9 hS9 => ?_)
  obtain rfl := arr_eq hKB
  clear hKB
  clear hP hD hS
  have hP : va_P (dC, dI) xcl [(h0, .inr (2, [.ref q1, .ref q2, .ref q3, .null, .int 0, .int 0])), (q1, .inl (cA, 8, .inl (fun _ => 0))), (q2, .inl (cA, 4, .inl (fun _ => 0))), (q3, .inl (cA, 4, .inl (fun _ => 0))), (q4, .inl (cA, 800, .inl (fun _ => 0)))] H9 := hP9
  have hD : va_D A [(h0, .inr (2, [.ref q1, .ref q2, .ref q3, .null, .int 0, .int 0])), (q1, .inl (cA, 8, .inl (fun _ => 0))), (q2, .inl (cA, 4, .inl (fun _ => 0))), (q3, .inl (cA, 4, .inl (fun _ => 0))), (q4, .inl (cA, 800, .inl (fun _ => 0)))] := hD9
  have hS := hS9
  clear hP9 hD9 hS9
  refine va_putF (D := (dC, dI)) (ci := 2) (v := .ref q4) (ty := .array .int) (C := RX4) (T := TX4) (N := 6) hx hb hts in_X4 tyX4 tyX4_ok nmX4 hown hK hP hD hS 0 rfl rfl 3 (by decide) (hts _ wi_39) (fun _ h9 => h9) rfl hin rfl (by decide +kernel) rfl rfl (Nat.le_of_ble_eq_true rfl) dX4_init_32 (fun H9 locs hP9 hD9 hS9 => ?_)
  clear hP hD hS
  have hP : va_P (dC, dI) xcl [(h0, .inr (2, [.ref q1, .ref q2, .ref q3, .ref q4, .int 0, .int 0])), (q1, .inl (cA, 8, .inl (fun _ => 0))), (q2, .inl (cA, 4, .inl (fun _ => 0))), (q3, .inl (cA, 4, .inl (fun _ => 0))), (q4, .inl (cA, 800, .inl (fun _ => 0)))] H9 := hP9
  have hD : va_D A [(h0, .inr (2, [.ref q1, .ref q2, .ref q3, .ref q4, .int 0, .int 0])), (q1, .inl (cA, 8, .inl (fun _ => 0))), (q2, .inl (cA, 4, .inl (fun _ => 0))), (q3, .inl (cA, 4, .inl (fun _ => 0))), (q4, .inl (cA, 800, .inl (fun _ => 0)))] := hD9
  have hS := hS9
  clear hP9 hD9 hS9
  refine lv_aload_n hx hb dX4_init_35 rfl (lv_at hl 0 rfl) ?_
  refine va_get (D := (dC, dI)) (ci := 2) (v := .ref q3) (C := RX4) (T := TX4) (N := 6) hx hb hts in_X4 hown hK hP 0 rfl rfl 2 (by decide) (hts _ wi_38) (fun _ h9 => h9) rfl dX4_init_36 ?_
  refine lv_iconst (v := (-1)) hx hb dX4_init_39 (by decide) ?_
  refine w_fill (n := 4) (av := q3) (v := (-1)) (f := fun _ => 0) (rest := []) ⟨hx, hb, hml, hown, hts⟩ hN hK 3 rfl hP hD hS hA [0, 1, 2, 4] rfl (by decide) (by decide) (wr := [(h0, .inr (2, [.ref q1, .ref q2, .ref q3, .ref q4, .int 0, .int 0])), (q1, .inl (cA, 8, .inl (fun _ => 0))), (q2, .inl (cA, 4, .inl (fun _ => 0))), (q4, .inl (cA, 800, .inl (fun _ => 0)))]) (hts _ wi_40) hl.1 dX4_init_40 (by exact Nat.le_of_ble_eq_true rfl) (by exact Nat.le_of_ble_eq_true rfl) (by exact Nat.le_of_ble_eq_true rfl) (by exact Nat.le_of_ble_eq_true rfl) (by exact Nat.le_of_ble_eq_true rfl) (by decide) (fun H9 locs hP9 hD9 hS9 => ?_)
  clear hP hD hS
  have hP : va_P (dC, dI) xcl [(h0, .inr (2, [.ref q1, .ref q2, .ref q3, .ref q4, .int 0, .int 0])), (q1, .inl (cA, 8, .inl (fun _ => 0))), (q2, .inl (cA, 4, .inl (fun _ => 0))), (q4, .inl (cA, 800, .inl (fun _ => 0))), (q3, .inl (cA, 4, .inl (fil (fun _ => fun _ => 0) 0 4 ((-1)) 0)))] H9 := hP9
  have hD : va_D A [(h0, .inr (2, [.ref q1, .ref q2, .ref q3, .ref q4, .int 0, .int 0])), (q1, .inl (cA, 8, .inl (fun _ => 0))), (q2, .inl (cA, 4, .inl (fun _ => 0))), (q4, .inl (cA, 800, .inl (fun _ => 0))), (q3, .inl (cA, 4, .inl (fil (fun _ => fun _ => 0) 0 4 ((-1)) 0)))] := hD9
  have hS := hS9
  clear hP9 hD9 hS9
  refine W.widen (k := 4) (n := 816) (Nat.le_of_ble_eq_true rfl) (Nat.le_of_ble_eq_true rfl) ?_
  exact W.vret hx hb hr (fun t ht hW => ⟨⟨fun i => ([q1, q2, q4, q3] : List Nat).getD (i - 1) 0, rfl, trivial, by rw [ht]; exact hP, va_K.moved hW.alike hK, hD⟩, hS.F ht⟩) hS.2.2 dX4_init_43
def B_X5_init (cA : ClassId) (h0 : Nat) (u : Nat → Nat) : va_W := [(h0, .inr (3, [.ref (u 1), .ref (u 2), .ref (u 3), .ref (u 4), .ref (u 5), .ref (u 6), .int 0])), ((u 1), .inl (cA, 120, .inl (fun _ => 0))), ((u 2), .inl (cA, 120, .inl (fun _ => 0))), ((u 3), .inl (cA, 120, .inl (fun _ => 0))), ((u 4), .inl (cA, 120, .inl (fun _ => 0))), ((u 5), .inl (cA, 120, .inl (fun _ => 0))), ((u 6), .inl (cA, 8, .inl (fil (fun _ => fun _ => 0) 0 8 ((-1)) 0)))]
set_option maxHeartbeats 4000000 in
set_option maxRecDepth 100000 in
theorem ci_X5_init (l : Launch) (dC : Nat → ClassId) (dI : Nat → Nat → Nat) (cA : ClassId) (h0 : Nat) (sz : Nat) : Met l kX5_init.1 (wsK kX5_init) { frames := 3, cells := 6, slots := 608, locals := 120 } (va_Pc [.ref h0] (IP dC dI cA [(h0, .inr (3, [.null, .null, .null, .null, .null, .null, .int 0]))] sz)) (va_Qv (fun _ : Nat → Nat => True) (IQ dC dI cA (va_A [(h0, .inr (3, [.null, .null, .null, .null, .null, .null, .int 0]))] sz) (B_X5_init cA h0)) (va_A [(h0, .inr (3, [.null, .null, .null, .null, .null, .null, .int 0]))] sz)) 6 608 (va_A [(h0, .inr (3, [.null, .null, .null, .null, .null, .null, .int 0]))] sz) := by
  refine Met.ofW (cc := kX5_init.2.1) (maxL := kX5_init.2.2.1) (ret := kX5_init.2.2.2) (by decide) rfl ?_
  intro p e s m args below meth c s₁ B hml hv
  obtain ⟨rfl, hsz, hP, hK, hD0, hN⟩ := hv
  have hx := B.exec
  have hb := B.bytes
  have hr := B.returns
  have hts : ∀ w ∈ TT, w.before _ s = true := fun w hw => atoms_spec (ws := wsK kX5_init) B.pre w (List.mem_cons_of_mem _ hw)
  have hown : s.vm.findClass RX5 = some m.cls := findClass_of_methodNamed B.named
  have hin : meth.name = "<init>" := (name_of_methodNamed B.named B.method).1
  subst hsz
  have hD := hD0.self (sz := s.heap.size)
  generalize hAe : va_A [(h0, .inr (3, [.null, .null, .null, .null, .null, .null, .int 0]))] s.heap.size = A at hD ⊢
  have hA : ∀ q : Nat, s.heap.size ≤ q → A q := fun q h => by rw [← hAe]; exact Or.inr h
  have hS : va_S A s.heap s.heap [] := va_S.rf
  have hP : va_P (dC, dI) xcl [(h0, .inr (3, [.null, .null, .null, .null, .null, .null, .int 0]))] s.heap := hP
  have hl := lv_entry ([.ref h0]) (n := 1) (Nat.le_of_ble_eq_true rfl)
  rw [lg_entry_eq]
  generalize (lg_sl ([.ref h0]) ++ List.replicate (1 - (lg_sl ([.ref h0])).length) Slot.unset).toArray = ls at hl ⊢
  have hl : lv_has ls 1 [(0, .ref h0)] := hl
  refine lv_aload_n hx hb dX5_init_0 rfl (lv_at hl 0 rfl) ?_
  refine W.objInit hx hb hown (hts _ wi_41) (hts _ wi_24) (hts _ wi_25) rfl (by rw [hml]; exact hl.1) rfl dX5_init_1 (Nat.le_of_ble_eq_true rfl) (Nat.le_of_ble_eq_true rfl) ?_
  refine W.eq (g2 := F0 m 4 ls []) rfl ?_
  refine lv_aload_n hx hb dX5_init_4 rfl (lv_at hl 0 rfl) ?_
  refine lv_bipush (v := 120) hx hb dX5_init_5 (by decide) ?_
  refine va_newa (atype := .int) (ty := .int) (a0 := (120, .inl (fun _ => 0))) hx hb (hts _ wi_27) rfl hK hP hD hS hA (fun _ => rfl) (by decide) (by decide) (by decide) (Nat.le_of_ble_eq_true rfl) (Nat.le_of_ble_eq_true rfl) dX5_init_7 (fun q1 cB H9 hKB hP9 hD9 hS9 => ?_)
  obtain rfl := arr_eq hKB
  clear hKB
  clear hP hD hS
  have hP : va_P (dC, dI) xcl [(h0, .inr (3, [.null, .null, .null, .null, .null, .null, .int 0])), (q1, .inl (cA, 120, .inl (fun _ => 0)))] H9 := hP9
  have hD : va_D A [(h0, .inr (3, [.null, .null, .null, .null, .null, .null, .int 0])), (q1, .inl (cA, 120, .inl (fun _ => 0)))] := hD9
  have hS := hS9
  clear hP9 hD9 hS9
  refine va_putF (D := (dC, dI)) (ci := 3) (v := .ref q1) (ty := .array .int) (C := RX5) (T := TX5) (N := 7) hx hb hts in_X5 tyX5 tyX5_ok nmX5 hown hK hP hD hS 0 rfl rfl 0 (by decide) (hts _ wi_42) (fun _ h9 => h9) rfl hin rfl (by decide +kernel) rfl rfl (Nat.le_of_ble_eq_true rfl) dX5_init_9 (fun H9 locs hP9 hD9 hS9 => ?_)
  clear hP hD hS
  have hP : va_P (dC, dI) xcl [(h0, .inr (3, [.ref q1, .null, .null, .null, .null, .null, .int 0])), (q1, .inl (cA, 120, .inl (fun _ => 0)))] H9 := hP9
  have hD : va_D A [(h0, .inr (3, [.ref q1, .null, .null, .null, .null, .null, .int 0])), (q1, .inl (cA, 120, .inl (fun _ => 0)))] := hD9
  have hS := hS9
  clear hP9 hD9 hS9
  refine lv_aload_n hx hb dX5_init_12 rfl (lv_at hl 0 rfl) ?_
  refine lv_bipush (v := 120) hx hb dX5_init_13 (by decide) ?_
  refine va_newa (atype := .int) (ty := .int) (a0 := (120, .inl (fun _ => 0))) hx hb (hts _ wi_27) rfl hK hP hD hS hA (fun _ => rfl) (by decide) (by decide) (by decide) (Nat.le_of_ble_eq_true rfl) (Nat.le_of_ble_eq_true rfl) dX5_init_15 (fun q2 cB H9 hKB hP9 hD9 hS9 => ?_)
  obtain rfl := arr_eq hKB
  clear hKB
  clear hP hD hS
  have hP : va_P (dC, dI) xcl [(h0, .inr (3, [.ref q1, .null, .null, .null, .null, .null, .int 0])), (q1, .inl (cA, 120, .inl (fun _ => 0))), (q2, .inl (cA, 120, .inl (fun _ => 0)))] H9 := hP9
  have hD : va_D A [(h0, .inr (3, [.ref q1, .null, .null, .null, .null, .null, .int 0])), (q1, .inl (cA, 120, .inl (fun _ => 0))), (q2, .inl (cA, 120, .inl (fun _ => 0)))] := hD9
  have hS := hS9
  clear hP9 hD9 hS9
  refine va_putF (D := (dC, dI)) (ci := 3) (v := .ref q2) (ty := .array .int) (C := RX5) (T := TX5) (N := 7) hx hb hts in_X5 tyX5 tyX5_ok nmX5 hown hK hP hD hS 0 rfl rfl 1 (by decide) (hts _ wi_43) (fun _ h9 => h9) rfl hin rfl (by decide +kernel) rfl rfl (Nat.le_of_ble_eq_true rfl) dX5_init_17 (fun H9 locs hP9 hD9 hS9 => ?_)
  clear hP hD hS
  have hP : va_P (dC, dI) xcl [(h0, .inr (3, [.ref q1, .ref q2, .null, .null, .null, .null, .int 0])), (q1, .inl (cA, 120, .inl (fun _ => 0))), (q2, .inl (cA, 120, .inl (fun _ => 0)))] H9 := hP9
  have hD : va_D A [(h0, .inr (3, [.ref q1, .ref q2, .null, .null, .null, .null, .int 0])), (q1, .inl (cA, 120, .inl (fun _ => 0))), (q2, .inl (cA, 120, .inl (fun _ => 0)))] := hD9
  have hS := hS9
  clear hP9 hD9 hS9
  refine lv_aload_n hx hb dX5_init_20 rfl (lv_at hl 0 rfl) ?_
  refine lv_bipush (v := 120) hx hb dX5_init_21 (by decide) ?_
  refine va_newa (atype := .int) (ty := .int) (a0 := (120, .inl (fun _ => 0))) hx hb (hts _ wi_27) rfl hK hP hD hS hA (fun _ => rfl) (by decide) (by decide) (by decide) (Nat.le_of_ble_eq_true rfl) (Nat.le_of_ble_eq_true rfl) dX5_init_23 (fun q3 cB H9 hKB hP9 hD9 hS9 => ?_)
  obtain rfl := arr_eq hKB
  clear hKB
  clear hP hD hS
  have hP : va_P (dC, dI) xcl [(h0, .inr (3, [.ref q1, .ref q2, .null, .null, .null, .null, .int 0])), (q1, .inl (cA, 120, .inl (fun _ => 0))), (q2, .inl (cA, 120, .inl (fun _ => 0))), (q3, .inl (cA, 120, .inl (fun _ => 0)))] H9 := hP9
  have hD : va_D A [(h0, .inr (3, [.ref q1, .ref q2, .null, .null, .null, .null, .int 0])), (q1, .inl (cA, 120, .inl (fun _ => 0))), (q2, .inl (cA, 120, .inl (fun _ => 0))), (q3, .inl (cA, 120, .inl (fun _ => 0)))] := hD9
  have hS := hS9
  clear hP9 hD9 hS9
  refine va_putF (D := (dC, dI)) (ci := 3) (v := .ref q3) (ty := .array .int) (C := RX5) (T := TX5) (N := 7) hx hb hts in_X5 tyX5 tyX5_ok nmX5 hown hK hP hD hS 0 rfl rfl 2 (by decide) (hts _ wi_44) (fun _ h9 => h9) rfl hin rfl (by decide +kernel) rfl rfl (Nat.le_of_ble_eq_true rfl) dX5_init_25 (fun H9 locs hP9 hD9 hS9 => ?_)
  clear hP hD hS
  have hP : va_P (dC, dI) xcl [(h0, .inr (3, [.ref q1, .ref q2, .ref q3, .null, .null, .null, .int 0])), (q1, .inl (cA, 120, .inl (fun _ => 0))), (q2, .inl (cA, 120, .inl (fun _ => 0))), (q3, .inl (cA, 120, .inl (fun _ => 0)))] H9 := hP9
  have hD : va_D A [(h0, .inr (3, [.ref q1, .ref q2, .ref q3, .null, .null, .null, .int 0])), (q1, .inl (cA, 120, .inl (fun _ => 0))), (q2, .inl (cA, 120, .inl (fun _ => 0))), (q3, .inl (cA, 120, .inl (fun _ => 0)))] := hD9
  have hS := hS9
  clear hP9 hD9 hS9
  refine lv_aload_n hx hb dX5_init_28 rfl (lv_at hl 0 rfl) ?_
  refine lv_bipush (v := 120) hx hb dX5_init_29 (by decide) ?_
  refine va_newa (atype := .int) (ty := .int) (a0 := (120, .inl (fun _ => 0))) hx hb (hts _ wi_27) rfl hK hP hD hS hA (fun _ => rfl) (by decide) (by decide) (by decide) (Nat.le_of_ble_eq_true rfl) (Nat.le_of_ble_eq_true rfl) dX5_init_31 (fun q4 cB H9 hKB hP9 hD9 hS9 => ?_)
  obtain rfl := arr_eq hKB
  clear hKB
  clear hP hD hS
  have hP : va_P (dC, dI) xcl [(h0, .inr (3, [.ref q1, .ref q2, .ref q3, .null, .null, .null, .int 0])), (q1, .inl (cA, 120, .inl (fun _ => 0))), (q2, .inl (cA, 120, .inl (fun _ => 0))), (q3, .inl (cA, 120, .inl (fun _ => 0))), (q4, .inl (cA, 120, .inl (fun _ => 0)))] H9 := hP9
  have hD : va_D A [(h0, .inr (3, [.ref q1, .ref q2, .ref q3, .null, .null, .null, .int 0])), (q1, .inl (cA, 120, .inl (fun _ => 0))), (q2, .inl (cA, 120, .inl (fun _ => 0))), (q3, .inl (cA, 120, .inl (fun _ => 0))), (q4, .inl (cA, 120, .inl (fun _ => 0)))] := hD9
  have hS := hS9
  clear hP9 hD9 hS9
  refine va_putF (D := (dC, dI)) (ci := 3) (v := .ref q4) (ty := .array .int) (C := RX5) (T := TX5) (N := 7) hx hb hts in_X5 tyX5 tyX5_ok nmX5 hown hK hP hD hS 0 rfl rfl 3 (by decide) (hts _ wi_45) (fun _ h9 => h9) rfl hin rfl (by decide +kernel) rfl rfl (Nat.le_of_ble_eq_true rfl) dX5_init_33 (fun H9 locs hP9 hD9 hS9 => ?_)
  clear hP hD hS
  have hP : va_P (dC, dI) xcl [(h0, .inr (3, [.ref q1, .ref q2, .ref q3, .ref q4, .null, .null, .int 0])), (q1, .inl (cA, 120, .inl (fun _ => 0))), (q2, .inl (cA, 120, .inl (fun _ => 0))), (q3, .inl (cA, 120, .inl (fun _ => 0))), (q4, .inl (cA, 120, .inl (fun _ => 0)))] H9 := hP9
  have hD : va_D A [(h0, .inr (3, [.ref q1, .ref q2, .ref q3, .ref q4, .null, .null, .int 0])), (q1, .inl (cA, 120, .inl (fun _ => 0))), (q2, .inl (cA, 120, .inl (fun _ => 0))), (q3, .inl (cA, 120, .inl (fun _ => 0))), (q4, .inl (cA, 120, .inl (fun _ => 0)))] := hD9
  have hS := hS9
  clear hP9 hD9 hS9
  refine lv_aload_n hx hb dX5_init_36 rfl (lv_at hl 0 rfl) ?_
  refine lv_bipush (v := 120) hx hb dX5_init_37 (by decide) ?_
  refine va_newa (atype := .int) (ty := .int) (a0 := (120, .inl (fun _ => 0))) hx hb (hts _ wi_27) rfl hK hP hD hS hA (fun _ => rfl) (by decide) (by decide) (by decide) (Nat.le_of_ble_eq_true rfl) (Nat.le_of_ble_eq_true rfl) dX5_init_39 (fun q5 cB H9 hKB hP9 hD9 hS9 => ?_)
  obtain rfl := arr_eq hKB
  clear hKB
  clear hP hD hS
  have hP : va_P (dC, dI) xcl [(h0, .inr (3, [.ref q1, .ref q2, .ref q3, .ref q4, .null, .null, .int 0])), (q1, .inl (cA, 120, .inl (fun _ => 0))), (q2, .inl (cA, 120, .inl (fun _ => 0))), (q3, .inl (cA, 120, .inl (fun _ => 0))), (q4, .inl (cA, 120, .inl (fun _ => 0))), (q5, .inl (cA, 120, .inl (fun _ => 0)))] H9 := hP9
  have hD : va_D A [(h0, .inr (3, [.ref q1, .ref q2, .ref q3, .ref q4, .null, .null, .int 0])), (q1, .inl (cA, 120, .inl (fun _ => 0))), (q2, .inl (cA, 120, .inl (fun _ => 0))), (q3, .inl (cA, 120, .inl (fun _ => 0))), (q4, .inl (cA, 120, .inl (fun _ => 0))), (q5, .inl (cA, 120, .inl (fun _ => 0)))] := hD9
  have hS := hS9
  clear hP9 hD9 hS9
  refine va_putF (D := (dC, dI)) (ci := 3) (v := .ref q5) (ty := .array .int) (C := RX5) (T := TX5) (N := 7) hx hb hts in_X5 tyX5 tyX5_ok nmX5 hown hK hP hD hS 0 rfl rfl 4 (by decide) (hts _ wi_46) (fun _ h9 => h9) rfl hin rfl (by decide +kernel) rfl rfl (Nat.le_of_ble_eq_true rfl) dX5_init_41 (fun H9 locs hP9 hD9 hS9 => ?_)
  clear hP hD hS
  have hP : va_P (dC, dI) xcl [(h0, .inr (3, [.ref q1, .ref q2, .ref q3, .ref q4, .ref q5, .null, .int 0])), (q1, .inl (cA, 120, .inl (fun _ => 0))), (q2, .inl (cA, 120, .inl (fun _ => 0))), (q3, .inl (cA, 120, .inl (fun _ => 0))), (q4, .inl (cA, 120, .inl (fun _ => 0))), (q5, .inl (cA, 120, .inl (fun _ => 0)))] H9 := hP9
  have hD : va_D A [(h0, .inr (3, [.ref q1, .ref q2, .ref q3, .ref q4, .ref q5, .null, .int 0])), (q1, .inl (cA, 120, .inl (fun _ => 0))), (q2, .inl (cA, 120, .inl (fun _ => 0))), (q3, .inl (cA, 120, .inl (fun _ => 0))), (q4, .inl (cA, 120, .inl (fun _ => 0))), (q5, .inl (cA, 120, .inl (fun _ => 0)))] := hD9
  have hS := hS9
  clear hP9 hD9 hS9
  refine lv_aload_n hx hb dX5_init_44 rfl (lv_at hl 0 rfl) ?_
  refine lv_bipush (v := 8) hx hb dX5_init_45 (by decide) ?_
  refine va_newa (atype := .int) (ty := .int) (a0 := (8, .inl (fun _ => 0))) hx hb (hts _ wi_27) rfl hK hP hD hS hA (fun _ => rfl) (by decide) (by decide) (by decide) (Nat.le_of_ble_eq_true rfl) (Nat.le_of_ble_eq_true rfl) dX5_init_47 (fun q6 cB H9 hKB hP9 hD9 hS9 => ?_)
  obtain rfl := arr_eq hKB
  clear hKB
  clear hP hD hS
  have hP : va_P (dC, dI) xcl [(h0, .inr (3, [.ref q1, .ref q2, .ref q3, .ref q4, .ref q5, .null, .int 0])), (q1, .inl (cA, 120, .inl (fun _ => 0))), (q2, .inl (cA, 120, .inl (fun _ => 0))), (q3, .inl (cA, 120, .inl (fun _ => 0))), (q4, .inl (cA, 120, .inl (fun _ => 0))), (q5, .inl (cA, 120, .inl (fun _ => 0))), (q6, .inl (cA, 8, .inl (fun _ => 0)))] H9 := hP9
  have hD : va_D A [(h0, .inr (3, [.ref q1, .ref q2, .ref q3, .ref q4, .ref q5, .null, .int 0])), (q1, .inl (cA, 120, .inl (fun _ => 0))), (q2, .inl (cA, 120, .inl (fun _ => 0))), (q3, .inl (cA, 120, .inl (fun _ => 0))), (q4, .inl (cA, 120, .inl (fun _ => 0))), (q5, .inl (cA, 120, .inl (fun _ => 0))), (q6, .inl (cA, 8, .inl (fun _ => 0)))] := hD9
  have hS := hS9
  clear hP9 hD9 hS9
  refine va_putF (D := (dC, dI)) (ci := 3) (v := .ref q6) (ty := .array .int) (C := RX5) (T := TX5) (N := 7) hx hb hts in_X5 tyX5 tyX5_ok nmX5 hown hK hP hD hS 0 rfl rfl 5 (by decide) (hts _ wi_47) (fun _ h9 => h9) rfl hin rfl (by decide +kernel) rfl rfl (Nat.le_of_ble_eq_true rfl) dX5_init_49 (fun H9 locs hP9 hD9 hS9 => ?_)
  clear hP hD hS
  have hP : va_P (dC, dI) xcl [(h0, .inr (3, [.ref q1, .ref q2, .ref q3, .ref q4, .ref q5, .ref q6, .int 0])), (q1, .inl (cA, 120, .inl (fun _ => 0))), (q2, .inl (cA, 120, .inl (fun _ => 0))), (q3, .inl (cA, 120, .inl (fun _ => 0))), (q4, .inl (cA, 120, .inl (fun _ => 0))), (q5, .inl (cA, 120, .inl (fun _ => 0))), (q6, .inl (cA, 8, .inl (fun _ => 0)))] H9 := hP9
  have hD : va_D A [(h0, .inr (3, [.ref q1, .ref q2, .ref q3, .ref q4, .ref q5, .ref q6, .int 0])), (q1, .inl (cA, 120, .inl (fun _ => 0))), (q2, .inl (cA, 120, .inl (fun _ => 0))), (q3, .inl (cA, 120, .inl (fun _ => 0))), (q4, .inl (cA, 120, .inl (fun _ => 0))), (q5, .inl (cA, 120, .inl (fun _ => 0))), (q6, .inl (cA, 8, .inl (fun _ => 0)))] := hD9
  have hS := hS9
  clear hP9 hD9 hS9
  refine lv_aload_n hx hb dX5_init_52 rfl (lv_at hl 0 rfl) ?_
  refine va_get (D := (dC, dI)) (ci := 3) (v := .ref q6) (C := RX5) (T := TX5) (N := 7) hx hb hts in_X5 hown hK hP 0 rfl rfl 5 (by decide) (hts _ wi_47) (fun _ h9 => h9) rfl dX5_init_53 ?_
  refine lv_iconst (v := (-1)) hx hb dX5_init_56 (by decide) ?_
  refine w_fill (n := 8) (av := q6) (v := (-1)) (f := fun _ => 0) (rest := []) ⟨hx, hb, hml, hown, hts⟩ hN hK 6 rfl hP hD hS hA [0, 1, 2, 3, 4, 5] rfl (by decide) (by decide) (wr := [(h0, .inr (3, [.ref q1, .ref q2, .ref q3, .ref q4, .ref q5, .ref q6, .int 0])), (q1, .inl (cA, 120, .inl (fun _ => 0))), (q2, .inl (cA, 120, .inl (fun _ => 0))), (q3, .inl (cA, 120, .inl (fun _ => 0))), (q4, .inl (cA, 120, .inl (fun _ => 0))), (q5, .inl (cA, 120, .inl (fun _ => 0)))]) (hts _ wi_48) hl.1 dX5_init_57 (by exact Nat.le_of_ble_eq_true rfl) (by exact Nat.le_of_ble_eq_true rfl) (by exact Nat.le_of_ble_eq_true rfl) (by exact Nat.le_of_ble_eq_true rfl) (by exact Nat.le_of_ble_eq_true rfl) (by decide) (fun H9 locs hP9 hD9 hS9 => ?_)
  clear hP hD hS
  have hP : va_P (dC, dI) xcl [(h0, .inr (3, [.ref q1, .ref q2, .ref q3, .ref q4, .ref q5, .ref q6, .int 0])), (q1, .inl (cA, 120, .inl (fun _ => 0))), (q2, .inl (cA, 120, .inl (fun _ => 0))), (q3, .inl (cA, 120, .inl (fun _ => 0))), (q4, .inl (cA, 120, .inl (fun _ => 0))), (q5, .inl (cA, 120, .inl (fun _ => 0))), (q6, .inl (cA, 8, .inl (fil (fun _ => fun _ => 0) 0 8 ((-1)) 0)))] H9 := hP9
  have hD : va_D A [(h0, .inr (3, [.ref q1, .ref q2, .ref q3, .ref q4, .ref q5, .ref q6, .int 0])), (q1, .inl (cA, 120, .inl (fun _ => 0))), (q2, .inl (cA, 120, .inl (fun _ => 0))), (q3, .inl (cA, 120, .inl (fun _ => 0))), (q4, .inl (cA, 120, .inl (fun _ => 0))), (q5, .inl (cA, 120, .inl (fun _ => 0))), (q6, .inl (cA, 8, .inl (fil (fun _ => fun _ => 0) 0 8 ((-1)) 0)))] := hD9
  have hS := hS9
  clear hP9 hD9 hS9
  refine W.widen (k := 6) (n := 608) (Nat.le_of_ble_eq_true rfl) (Nat.le_of_ble_eq_true rfl) ?_
  exact W.vret hx hb hr (fun t ht hW => ⟨⟨fun i => ([q1, q2, q3, q4, q5, q6] : List Nat).getD (i - 1) 0, rfl, trivial, by rw [ht]; exact hP, va_K.moved hW.alike hK, hD⟩, hS.F ht⟩) hS.2.2 dX5_init_60
def B_X6_init (cA : ClassId) (h0 : Nat) (u : Nat → Nat) : va_W := [(h0, .inr (4, [.ref (u 1), .ref (u 2), .int 0, .int 0, .int 0, .int 0, .int 0, .int 0])), ((u 1), .inl (cA, 5, .inl (fun _ => 0))), ((u 2), .inl (cA, 30, .inl (fun _ => 0)))]
set_option maxHeartbeats 4000000 in
set_option maxRecDepth 100000 in
theorem ci_X6_init (l : Launch) (dC : Nat → ClassId) (dI : Nat → Nat → Nat) (cA : ClassId) (h0 : Nat) (sz : Nat) : Met l kX6_init.1 (wsK kX6_init) { frames := 2, cells := 2, slots := 35, locals := 80 } (va_Pc [.ref h0] (IP dC dI cA [(h0, .inr (4, [.null, .null, .int 0, .int 0, .int 0, .int 0, .int 0, .int 0]))] sz)) (va_Qv (fun _ : Nat → Nat => True) (IQ dC dI cA (va_A [(h0, .inr (4, [.null, .null, .int 0, .int 0, .int 0, .int 0, .int 0, .int 0]))] sz) (B_X6_init cA h0)) (va_A [(h0, .inr (4, [.null, .null, .int 0, .int 0, .int 0, .int 0, .int 0, .int 0]))] sz)) 2 35 (va_A [(h0, .inr (4, [.null, .null, .int 0, .int 0, .int 0, .int 0, .int 0, .int 0]))] sz) := by
  refine Met.ofW (cc := kX6_init.2.1) (maxL := kX6_init.2.2.1) (ret := kX6_init.2.2.2) (by decide) rfl ?_
  intro p e s m args below meth c s₁ B hml hv
  obtain ⟨rfl, hsz, hP, hK, hD0, hN⟩ := hv
  have hx := B.exec
  have hb := B.bytes
  have hr := B.returns
  have hts : ∀ w ∈ TT, w.before _ s = true := fun w hw => atoms_spec (ws := wsK kX6_init) B.pre w (List.mem_cons_of_mem _ hw)
  have hown : s.vm.findClass RX6 = some m.cls := findClass_of_methodNamed B.named
  have hin : meth.name = "<init>" := (name_of_methodNamed B.named B.method).1
  subst hsz
  have hD := hD0.self (sz := s.heap.size)
  generalize hAe : va_A [(h0, .inr (4, [.null, .null, .int 0, .int 0, .int 0, .int 0, .int 0, .int 0]))] s.heap.size = A at hD ⊢
  have hA : ∀ q : Nat, s.heap.size ≤ q → A q := fun q h => by rw [← hAe]; exact Or.inr h
  have hS : va_S A s.heap s.heap [] := va_S.rf
  have hP : va_P (dC, dI) xcl [(h0, .inr (4, [.null, .null, .int 0, .int 0, .int 0, .int 0, .int 0, .int 0]))] s.heap := hP
  have hl := lv_entry ([.ref h0]) (n := 1) (Nat.le_of_ble_eq_true rfl)
  rw [lg_entry_eq]
  generalize (lg_sl ([.ref h0]) ++ List.replicate (1 - (lg_sl ([.ref h0])).length) Slot.unset).toArray = ls at hl ⊢
  have hl : lv_has ls 1 [(0, .ref h0)] := hl
  refine lv_aload_n hx hb dX6_init_0 rfl (lv_at hl 0 rfl) ?_
  refine W.objInit hx hb hown (hts _ wi_49) (hts _ wi_24) (hts _ wi_25) rfl (by rw [hml]; exact hl.1) rfl dX6_init_1 (Nat.le_of_ble_eq_true rfl) (Nat.le_of_ble_eq_true rfl) ?_
  refine W.eq (g2 := F0 m 4 ls []) rfl ?_
  refine lv_aload_n hx hb dX6_init_4 rfl (lv_at hl 0 rfl) ?_
  refine lv_iconst (v := 5) hx hb dX6_init_5 (by decide) ?_
  refine va_newa (atype := .int) (ty := .int) (a0 := (5, .inl (fun _ => 0))) hx hb (hts _ wi_27) rfl hK hP hD hS hA (fun _ => rfl) (by decide) (by decide) (by decide) (Nat.le_of_ble_eq_true rfl) (Nat.le_of_ble_eq_true rfl) dX6_init_6 (fun q1 cB H9 hKB hP9 hD9 hS9 => ?_)
  obtain rfl := arr_eq hKB
  clear hKB
  clear hP hD hS
  have hP : va_P (dC, dI) xcl [(h0, .inr (4, [.null, .null, .int 0, .int 0, .int 0, .int 0, .int 0, .int 0])), (q1, .inl (cA, 5, .inl (fun _ => 0)))] H9 := hP9
  have hD : va_D A [(h0, .inr (4, [.null, .null, .int 0, .int 0, .int 0, .int 0, .int 0, .int 0])), (q1, .inl (cA, 5, .inl (fun _ => 0)))] := hD9
  have hS := hS9
  clear hP9 hD9 hS9
  refine va_putF (D := (dC, dI)) (ci := 4) (v := .ref q1) (ty := .array .int) (C := RX6) (T := TX6) (N := 8) hx hb hts in_X6 tyX6 tyX6_ok nmX6 hown hK hP hD hS 0 rfl rfl 0 (by decide) (hts _ wi_50) (fun _ h9 => h9) rfl hin rfl (by decide +kernel) rfl rfl (Nat.le_of_ble_eq_true rfl) dX6_init_8 (fun H9 locs hP9 hD9 hS9 => ?_)
  clear hP hD hS
  have hP : va_P (dC, dI) xcl [(h0, .inr (4, [.ref q1, .null, .int 0, .int 0, .int 0, .int 0, .int 0, .int 0])), (q1, .inl (cA, 5, .inl (fun _ => 0)))] H9 := hP9
  have hD : va_D A [(h0, .inr (4, [.ref q1, .null, .int 0, .int 0, .int 0, .int 0, .int 0, .int 0])), (q1, .inl (cA, 5, .inl (fun _ => 0)))] := hD9
  have hS := hS9
  clear hP9 hD9 hS9
  refine lv_aload_n hx hb dX6_init_11 rfl (lv_at hl 0 rfl) ?_
  refine lv_bipush (v := 30) hx hb dX6_init_12 (by decide) ?_
  refine va_newa (atype := .int) (ty := .int) (a0 := (30, .inl (fun _ => 0))) hx hb (hts _ wi_27) rfl hK hP hD hS hA (fun _ => rfl) (by decide) (by decide) (by decide) (Nat.le_of_ble_eq_true rfl) (Nat.le_of_ble_eq_true rfl) dX6_init_14 (fun q2 cB H9 hKB hP9 hD9 hS9 => ?_)
  obtain rfl := arr_eq hKB
  clear hKB
  clear hP hD hS
  have hP : va_P (dC, dI) xcl [(h0, .inr (4, [.ref q1, .null, .int 0, .int 0, .int 0, .int 0, .int 0, .int 0])), (q1, .inl (cA, 5, .inl (fun _ => 0))), (q2, .inl (cA, 30, .inl (fun _ => 0)))] H9 := hP9
  have hD : va_D A [(h0, .inr (4, [.ref q1, .null, .int 0, .int 0, .int 0, .int 0, .int 0, .int 0])), (q1, .inl (cA, 5, .inl (fun _ => 0))), (q2, .inl (cA, 30, .inl (fun _ => 0)))] := hD9
  have hS := hS9
  clear hP9 hD9 hS9
  refine va_putF (D := (dC, dI)) (ci := 4) (v := .ref q2) (ty := .array .int) (C := RX6) (T := TX6) (N := 8) hx hb hts in_X6 tyX6 tyX6_ok nmX6 hown hK hP hD hS 0 rfl rfl 1 (by decide) (hts _ wi_51) (fun _ h9 => h9) rfl hin rfl (by decide +kernel) rfl rfl (Nat.le_of_ble_eq_true rfl) dX6_init_16 (fun H9 locs hP9 hD9 hS9 => ?_)
  clear hP hD hS
  have hP : va_P (dC, dI) xcl [(h0, .inr (4, [.ref q1, .ref q2, .int 0, .int 0, .int 0, .int 0, .int 0, .int 0])), (q1, .inl (cA, 5, .inl (fun _ => 0))), (q2, .inl (cA, 30, .inl (fun _ => 0)))] H9 := hP9
  have hD : va_D A [(h0, .inr (4, [.ref q1, .ref q2, .int 0, .int 0, .int 0, .int 0, .int 0, .int 0])), (q1, .inl (cA, 5, .inl (fun _ => 0))), (q2, .inl (cA, 30, .inl (fun _ => 0)))] := hD9
  have hS := hS9
  clear hP9 hD9 hS9
  refine W.widen (k := 2) (n := 35) (Nat.le_of_ble_eq_true rfl) (Nat.le_of_ble_eq_true rfl) ?_
  exact W.vret hx hb hr (fun t ht hW => ⟨⟨fun i => ([q1, q2] : List Nat).getD (i - 1) 0, rfl, trivial, by rw [ht]; exact hP, va_K.moved hW.alike hK, hD⟩, hS.F ht⟩) hS.2.2 dX6_init_19
