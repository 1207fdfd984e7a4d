theorem wx_0 : Cond.classLink RX9 106 "java/lang/ArrayIndexOutOfBoundsException" ∈ TT := List.mem_filter.mpr ⟨List.mem_of_getElem? (i := 788) (by decide +kernel), by decide +kernel⟩
theorem wx_1 : Cond.classLink RX9 113 Bundle.nN ∈ TT := List.mem_filter.mpr ⟨List.mem_of_getElem? (i := 791) (by decide +kernel), by decide +kernel⟩
theorem wx_2 : Cond.initialized "java/lang/ArrayIndexOutOfBoundsException" ∈ TT := List.mem_filter.mpr ⟨List.mem_of_getElem? (i := 74) (by decide +kernel), by decide +kernel⟩
theorem wx_3 : Cond.initialized Bundle.nN ∈ TT := List.mem_filter.mpr ⟨List.mem_of_getElem? (i := 72) (by decide +kernel), by decide +kernel⟩
theorem wx_4 : Cond.initialized RX9 ∈ TT := List.mem_filter.mpr ⟨List.mem_of_getElem? (i := 58) (by decide +kernel), by decide +kernel⟩
theorem wx_5 : Cond.code yX9_item cX9_item 4 (some .int) ∈ TT := List.mem_filter.mpr ⟨List.mem_of_getElem? (i := 787) (by decide +kernel), by decide +kernel⟩
theorem wx_6 : Cond.methodLink RX9 120 yX4_load ∈ TT := List.mem_filter.mpr ⟨List.mem_of_getElem? (i := 798) (by decide +kernel), by decide +kernel⟩
theorem wx_7 : Cond.instanceMethod yX4_load ∈ TT := List.mem_filter.mpr ⟨List.mem_of_getElem? (i := 498) (by decide +kernel), by decide +kernel⟩
theorem wx_8 : Cond.selects RX4 yX4_load yX4_load ∈ TT := List.mem_filter.mpr ⟨List.mem_of_getElem? (i := 499) (by decide +kernel), by decide +kernel⟩
def isDC (w : Cond) : Bool := match w with
  | .declares _ => true
  | .castable _ _ => true
  | _ => false
/-- the tables' words that aren't good ones, and that a throw needs: they go with the world -/
def DN : List Cond := lw_tbl.filter isDC
def DK (U : State) : Prop := ∀ w ∈ DN, va_Nw w U
theorem DK.warm {s U : State} (hW : s.WarmedH U.vm) (h : DK s) : DK U := by
  intro w hw
  have h1 := h w hw
  have h2 := (List.mem_filter.mp hw).2
  cases w <;> first | exact va_Nw.warmD hW h1 | exact va_Nw.warmC hW h1 | cases h2
theorem DK.same {u U : State} (hv : u.vm = U.vm) (h : DK u) : DK U := by
  intro w hw
  have h1 := h w hw
  have h2 := (List.mem_filter.mp hw).2
  cases w <;> first | exact va_Nw.same rfl hv h1 | cases h2
theorem DK.use {s : State} {args : Array Value} {w : Cond} (h : DK s) (hw : w ∈ DN) : w.before args s = true := by
  have h1 := h w hw
  have h2 := (List.mem_filter.mp hw).2
  cases w <;> first | exact va_Nw.use rfl h1 | cases h2
/-- a list of words by their places: each good, or a declares or castable -/
theorem at_hat {L : List Cond} (ps : List Nat) (hp : L = ps.filterMap (fun i => lw_tbl[i]?)) (hg : L.all (fun w => goodWord w || isDC w) = true) {args : Array Value} {s : State} (hts : ∀ w ∈ TT, w.before args s = true) (hd : DK s) : ∀ w ∈ L, w.before args s = true := by
  intro w hw
  have h1 := List.all_eq_true.mp hg w hw
  have h2 : w ∈ lw_tbl := by
    rw [hp] at hw
    obtain ⟨i, -, hi⟩ := List.mem_filterMap.mp hw
    exact List.mem_of_getElem? hi
  rcases Bool.or_eq_true_iff.mp h1 with g | g
  · exact hts w (List.mem_filter.mpr ⟨h2, g⟩)
  · exact hd.use (List.mem_filter.mpr ⟨h2, g⟩)
/-- what a throw needs of the machine's start, and of the strings -/
def TS (A : Nat → Prop) (s : State) : Prop := vx_Zq Bundle.tN "UNASSIGNED_STACK" Bundle.steD A s s.heap ∧ vx_Zq Bundle.tN "SUPPRESSED_SENTINEL" Bundle.listD A s s.heap ∧ DK s ∧ (∃ a, vk_R RX9 108 "no such row" a s) ∧ (∃ a, vk_R RX9 115 "the row is null" a s) ∧ (∃ a, vk_R RX9 118 "no such item" a s)
theorem TS.to {A B : Nat → Prop} {s U : State} (hw : s.WarmedH U.vm) (hB : ∀ q, B q → A q) (hk : ∀ a : Nat, a < s.heap.size → ¬ A a → U.heap[a]? = s.heap[a]?) (h : TS A s) : TS B U := by
  obtain ⟨h1, h2, h3, ⟨a1, h4⟩, ⟨a2, h5⟩, ⟨a3, h6⟩⟩ := h
  exact ⟨((h1.kept hk).moved hw.alike).narrow hB, ((h2.kept hk).moved hw.alike).narrow hB, h3.warm hw, ⟨a1, h4.warm hw⟩, ⟨a2, h5.warm hw⟩, ⟨a3, h6.warm hw⟩⟩
theorem TS.same {A : Nat → Prop} {s U : State} (hv : s.vm = U.vm) (hh : s.heap = U.heap) (h : TS A s) : TS A U := by
  obtain ⟨h1, h2, h3, ⟨a1, h4⟩, ⟨a2, h5⟩, ⟨a3, h6⟩⟩ := h
  rw [hh] at h1 h2
  have al : s.vm.Alike U.vm := by rw [hv]; exact Vm.Alike.refl U.vm
  exact ⟨h1.moved al, h2.moved al, h3.same hv, ⟨a1, vk_R.same hv.symm h4⟩, ⟨a2, vk_R.same hv.symm h5⟩, ⟨a3, vk_R.same hv.symm h6⟩⟩
def TH (l : Launch) (c : Code) (A : Nat → Prop) (s : State) : Prop := l.stackTraces = false ∧ (∀ x ∈ c.exceptionTable.toList, False) ∧ TS A s
def rmX (d : Nat) : Room := { frames := d, cells := 1, slots := 8, locals := 40 * d }
/-- thrown: the exception's name and the store fulfil P -/
def XX (dC : Nat → ClassId) (dI : Nat → Nat → Nat) (cA : ClassId) (ad : List Nat) (A : Nat → Prop) (lay : Lay) (P : String → Sx → Prop) : String → State → State → Prop := fun E st t => ∃ S : Sx, P E S ∧ va_P (dC, dI) xcl (cw cA ad lay S) t.heap ∧ va_F A st t
/-- as AJ, but it may throw -/
def AX (d : Nat) (k : MK) (lay : Lay) (pc : Nat) (ls : AL) (st : List Value) (S : Sx) (Q : Option Value → Sx → Prop) (P : String → Sx → Prop) : Prop :=
  ∀ (p : Program) (l : Launch) (e : Env) (s : State) (m : MethodId) (args : Array Value) (below : List Frame) (meth : Method) (c : Code) (dC : Nat → ClassId) (dI : Nat → Nat → Nat) (cA : ClassId) (ad : List Nat) (A : Nat → Prop) (H : Heap) (locs : List Loc) (lsA : Array Slot),
    Cx k p s m args meth c → Wd dC dI cA ad A s lay S H locs → LR ad ls k.2.2.1 lsA → TH l c A s →
    W p l e (rmX d) s m args below meth c H locs 0 0 (vx_MQ below (QQ dC dI cA ad A lay Q) (XX dC dI cA ad A lay P) args s 1 8 A) (F0 m pc lsA (st.map (cv ad)))
section AXR
variable {d : Nat} {k k' : MK} {lay : Lay} {pc q : Nat} {ls : AL} {st : List Value} {S : Sx} {Q : Option Value → Sx → Prop} {P : String → Sx → Prop}
theorem ax_iconst {n : Int} {v : Int32} (hd : decode k.2.1 pc = .ok (.iconst n, 1)) (hq : pc + 1 = q) (hv : Int32.ofInt n = v) (kk : AX d k lay q ls (.int v :: st) S Q P) : AX d k lay pc ls st S Q P := by
  subst hq
  intro p l e s m args below meth c dC dI cA ad A H locs lsA hC hW hL hT
  exact lv_iconst hC.1 hC.2.1 hd hv (kk p l e s m args below meth c dC dI cA ad A H locs lsA hC hW hL hT)
theorem ax_iload_n {j : _root_.Fin 4} {i : Nat} {x : Int32} (hd : decode k.2.1 pc = .ok (.iload_n j, 1)) (hq : pc + 1 = q) (hi : (j : Nat) = i) (hl : ls[i]? = some (some (.int x))) (kk : AX d k lay q ls (.int x :: st) S Q P) : AX d k lay pc ls st S Q P := by
  subst hq
  intro p l e s m args below meth c dC dI cA ad A H locs lsA hC hW hL hT
  exact lv_iload_n hC.1 hC.2.1 hd hi (hL.2.2 i _ hl).2 (kk p l e s m args below meth c dC dI cA ad A H locs lsA hC hW hL hT)
theorem ax_aload_n {j : _root_.Fin 4} {i : Nat} {x : Nat} (hd : decode k.2.1 pc = .ok (.aload_n j, 1)) (hq : pc + 1 = q) (hi : (j : Nat) = i) (hl : ls[i]? = some (some (.ref x))) (kk : AX d k lay q ls (.ref x :: st) S Q P) : AX d k lay pc ls st S Q P := by
  subst hq
  intro p l e s m args below meth c dC dI cA ad A H locs lsA hC hW hL hT
  exact lv_aload_n hC.1 hC.2.1 hd hi (hL.2.2 i _ hl).2 (kk p l e s m args below meth c dC dI cA ad A H locs lsA hC hW hL hT)
theorem ax_istore_n {j : _root_.Fin 4} {i : Nat} {x : Int32} {ls' : AL} (hd : decode k.2.1 pc = .ok (.istore_n j, 1)) (hq : pc + 1 = q) (hi : (j : Nat) = i) (hn : i < k.2.2.1) (hl : ls.set i (some (.int x)) = ls') (kk : AX d k lay q ls' st S Q P) : AX d k lay pc ls (.int x :: st) S Q P := by
  subst hq; subst hl
  intro p l e s m args below meth c dC dI cA ad A H locs lsA hC hW hL hT
  exact lv_istore_n hC.1 hC.2.1 hd hi hL.has hn rfl (fun lsB hB => kk p l e s m args below meth c dC dI cA ad A H locs lsB hC hW (hL.set rfl hB) hT)
theorem ax_if_ne {x : Int32} {off : Int} {tgt : Nat} (hd : decode k.2.1 pc = .ok (.ifCond .ne off, 3)) (hq : pc + 3 = q) (ht : (pc : Int) + off = (tgt : Int)) (kt : ¬ x = 0 → AX d k lay tgt ls st S Q P) (kf : x = 0 → AX d k lay q ls st S Q P) : AX d k lay pc ls (.int x :: st) S Q P := by
  subst hq
  intro p l e s m args below meth c dC dI cA ad A H locs lsA hC hW hL hT
  exact lv_if_ne hC.1 hC.2.1 hd ht (fun hc => kt hc p l e s m args below meth c dC dI cA ad A H locs lsA hC hW hL hT) (fun hc => kf hc p l e s m args below meth c dC dI cA ad A H locs lsA hC hW hL hT)
theorem ax_icmp_ne {x y : Int32} {off : Int} {tgt : Nat} (hd : decode k.2.1 pc = .ok (.if_icmp .ne off, 3)) (hq : pc + 3 = q) (ht : (pc : Int) + off = (tgt : Int)) (kt : ¬ x = y → AX d k lay tgt ls st S Q P) (kf : x = y → AX d k lay q ls st S Q P) : AX d k lay pc ls (.int y :: .int x :: st) S Q P := by
  subst hq
  intro p l e s m args below meth c dC dI cA ad A H locs lsA hC hW hL hT
  exact lv_icmp_ne hC.1 hC.2.1 hd ht (fun hc => kt hc p l e s m args below meth c dC dI cA ad A H locs lsA hC hW hL hT) (fun hc => kf hc p l e s m args below meth c dC dI cA ad A H locs lsA hC hW hL hT)
theorem ax_getf {idx b ci j : Nat} {sl : List Slt} {x : Slt} (F : FL k.1.cls idx ci j) (hd : decode k.2.1 pc = .ok (.getfield idx, 3)) (hq : pc + 3 = q) (hlay : lay[b]? = some (.inr (ci, sl))) (hj : sl[j]? = some x) (kk : AX d k lay q ls (slv S (100 * b + j) x :: st) S Q P) : AX d k lay pc ls (.ref b :: st) S Q P := by
  subst hq
  intro p l e s m args below meth c dC dI cA ad A H locs lsA hC hW hL hT
  obtain ⟨C, T, N, h1, h2, h3, h4⟩ := F
  have he : (cw cA ad lay S)[b]? = some (ad.getD b 0, .inr (ci, sl.mapIdx (fun j x => cv ad (slv S (100 * b + j) x)))) := cw_get hlay
  have hv : (sl.mapIdx (fun j x => cv ad (slv S (100 * b + j) x)))[j]? = some (cv ad (slv S (100 * b + j) x)) := by rw [List.getElem?_mapIdx, hj]; rfl
  rcases h4 with h4 | ⟨host, h4⟩
  · exact va_get (D := (dC, dI)) hC.1 hC.2.1 hC.2.2.2.2.2.1 h3 hC.2.2.2.2.1 hW.1 hW.2.1 b he h1 j h2 (hC.2.2.2.2.2.1 _ h4) (fun _ h9 => h9) hv hd (kk p l e s m args below meth c dC dI cA ad A H locs lsA hC hW hL hT)
  · exact va_getN (D := (dC, dI)) hC.1 hC.2.1 hC.2.2.2.2.2.1 h3 hC.2.2.2.2.1 hW.1 hW.2.1 b he h1 j h2 (hC.2.2.2.2.2.2.2.use h4) (fun _ h9 => h9) hv hd (kk p l e s m args below meth c dC dI cA ad A H locs lsA hC hW hL hT)
theorem ax_getR {idx b ci j r : Nat} {sl : List Slt} (F : FL k.1.cls idx ci j) (hd : decode k.2.1 pc = .ok (.getfield idx, 3)) (hq : pc + 3 = q) (hlay : lay[b]? = some (.inr (ci, sl))) (hj : sl[j]? = some (some (some r))) (kk : AX d k lay q ls (.ref r :: st) S Q P) : AX d k lay pc ls (.ref b :: st) S Q P := ax_getf F hd hq hlay hj kk
theorem ax_getD {idx b ci j f : Nat} {sl : List Slt} (F : FL k.1.cls idx ci j) (hd : decode k.2.1 pc = .ok (.getfield idx, 3)) (hq : pc + 3 = q) (hlay : lay[b]? = some (.inr (ci, sl))) (hj : sl[j]? = some (some none)) (hf : 100 * b + j = f) (kk : AX d k lay q ls (.ref (S f 0).toNatClampNeg :: st) S Q P) : AX d k lay pc ls (.ref b :: st) S Q P := by
  subst hf
  exact ax_getf F hd hq hlay hj kk
theorem ax_ifB_ne {b : Bool} {off : Int} {tgt : Nat} (hd : decode k.2.1 pc = .ok (.ifCond .ne off, 3)) (hq : pc + 3 = q) (ht : (pc : Int) + off = (tgt : Int)) (kt : b = true → AX d k lay tgt ls st S Q P) (kf : b = false → AX d k lay q ls st S Q P) : AX d k lay pc ls (.int (bi b) :: st) S Q P := ax_if_ne hd hq ht (fun c => kt (bi_ne0.mp c)) (fun c => kf (bi_eq0.mp c))
theorem ax_ireturn {v : Int32} (hd : decode k.2.1 pc = .ok (.ireturn, 1)) (hr : k.2.2.2 = some .int) (hQ : Q (some (.int v)) S) : AX d k lay pc ls [.int v] S Q P := by
  intro p l e s m args below meth c dC dI cA ad A H locs lsA hC hW hL hT
  exact vx_ret (W.widen (k := 1) (n := 8) (Nat.le_of_ble_eq_true rfl) (Nat.le_of_ble_eq_true rfl) (W.iret hC.1 hC.2.1 (hC.2.2.1.trans hr) (fun t ht hw => QQ.of (r := some (.int v)) hW hQ ht hw) hW.2.2.2.1.2.2 hd hC.2.2.2.2.2.2.1))
theorem ax_back {p : Program} {l : Launch} {e : Env} {s : State} {m : MethodId} {args : Array Value} {below : List Frame} {meth : Method} {c : Code} {dC : Nat → ClassId} {dI : Nat → Nat → Nat} {cA : ClassId} {ad : List Nat} {A : Nat → Prop} {H : Heap} {locs : List Loc} {lsA : Array Slot} {st0 rest : List Value} {a : Array Value}
    (hC : Cx k p s m args meth c) (hW : Wd dC dI cA ad A s lay S H locs) (hL : LR ad ls k.2.2.1 lsA) (hT : TH l c A s) (hq : pc + 3 = q)
    (hr : va_Run p l e (rmX d) s m args below meth c H locs 0 0 0 0 (F0 m pc lsA st0) (rest.map (cv ad)) (QQ dC dI cA ad (va_A (cw cA ad lay S) H.size) lay (fun r S' => AX d k lay q ls (r.toList ++ rest) S' Q P) a) (va_A (cw cA ad lay S) H.size)) :
    W p l e (rmX d) s m args below meth c H locs 0 0 (vx_MQ below (QQ dC dI cA ad A lay Q) (XX dC dI cA ad A lay P) args s 1 8 A) (F0 m pc lsA st0) := by
  subst hq
  intro T hT9 X
  obtain ⟨v, st₀, t, T', L, h0, X', hLf, e1, e2, ⟨⟨r, S', ho, hQ, hP', hK', hD'⟩, hF⟩, st⟩ := hr T hT9 X
  have hv : v = r.map (cv ad) := by
    injection ho
  subst hv
  have hz : H.size ≤ t.heap.size := by rw [← h0]; exact hF.1
  have hkeep : ∀ z : Nat, z < H.size → ¬ va_A (cw cA ad lay S) H.size z → t.heap[z]? = H[z]? := fun z h1 h2 => by rw [hF.2 z (by rw [h0]; exact h1) h2, h0]
  have hS := hW.2.2.2.1
  have hW' : Wd dC dI cA ad A s lay S' T'.heap (locs ++ L) := by
    refine ⟨hW.1, by rw [e1]; exact hP', hD'.weaken (fun _ z _ hz => hW.free _ hz), ⟨Nat.le_trans hS.1 (by rw [e1]; exact hz), fun z h1 h2 => ?_, fun z hz => ?_⟩, hW.2.2.2.2⟩
    · rw [e1, hkeep z (Nat.lt_of_lt_of_le h1 hS.1) (fun h => h2 (hW.free _ h))]
      exact hS.2.1 z h1 h2
    · rcases List.mem_append.mp hz with h | h
      · exact hS.2.2 z h
      · exact hW.free _ (hLf z h)
  obtain ⟨t2, a1, b1⟩ := hQ p l e s m args below meth c dC dI cA ad A T'.heap (locs ++ L) lsA hC hW' hL hT T' rfl X'
  refine ⟨t2, st t2 ?_, b1⟩
  have : (r.toList ++ rest).map (cv ad) = (r.map (cv ad)).toList ++ rest.map (cv ad) := by cases r <;> simp
  rw [this] at a1
  exact a1
theorem ax_callV {idx b ci n : Nat} {sl : List Slt} {As rest : List Value} (F : CVok k.1.cls idx k') (G : MKok k' n) (hd : decode k.2.1 pc = .ok (.invokevirtual idx, 3)) (hq : pc + 3 = q) (hlay : lay[b]? = some (.inr (ci, sl))) (hci : (xcl[ci]?).map (fun z => z.1) = some k'.1.cls) (hn : As.length = n) (hr : (rest.map (fun v => v.category)).sum ≤ 8)
    (kk : CC d k' lay (.ref b :: As) S (fun r S' => AX (d + 1) k lay q ls (pushR r rest) S' Q P)) : AX (d + 1) k lay pc ls (As.reverse ++ .ref b :: rest) S Q P := by
  intro p l e s m args below meth c dC dI cA ad A H locs lsA hC hW hL hT
  obtain ⟨hx, hb, hret, hml, hown, hts, hlk, hNk⟩ := id hC
  obtain ⟨f1, f2, f3⟩ := F
  obtain ⟨g1, g2, g3, g4⟩ := G
  simp only [← pushR_eq] at kk
  have hM := kk l dC dI cA ad H.size
  obtain ⟨⟨C, T, N⟩, hcl, hC9⟩ : ∃ z, xcl[ci]? = some z ∧ z.1 = k'.1.cls := by
    cases hz : xcl[ci]? with
    | none => rw [hz] at hci; cases hci
    | some z => rw [hz] at hci; exact ⟨z, rfl, by simpa using hci⟩
  refine ax_back hC hW hL hT hq (va_runV (As := As.map (cv ad)) (b := ad.getD b 0) (n := n) (C := k'.1.cls) ⟨hx, hb, hml, hown, hts⟩ hM ⟨callB_of n hts (wsK_good g2) rfl rfl rfl (hts _ g1) (hts _ f1) g3 ⟨Nat.le_refl _, ?_⟩, hts _ f2, hts _ f3⟩ ⟨PP.blind, ?_, fun U hU hw => ⟨?_, PP.at hW hU hw hNk⟩⟩ rfl (by rw [List.length_map]; exact hn) hL.1 ?_ (lv_room ?_) hd ⟨Nat.zero_le _, Nat.zero_le _⟩)
  · show 8 + (k'.2.2.1 + 11) + 40 * d ≤ 40 * (d + 1)
    omega
  · have := va_recv hW.1 hW.2.1 (ci := ci) (q0 := b) hcl (cw_get hlay)
    simp only at hC9
    rw [← hC9]
    exact this
  · rfl
  · show (As.reverse ++ .ref b :: rest).map (cv ad) = _
    simp [cv]
  · rw [List.map_map]
    have : ((fun v => v.category) ∘ cv ad) = (fun v : Value => v.category) := by funext v; exact cv_cat ad v
    rw [this]
    exact hr
theorem ax_callS {idx n : Nat} {As rest : List Value} (F : CSok k.1.cls idx k') (G : MKok k' n) (hd : decode k.2.1 pc = .ok (.invokestatic idx, 3)) (hq : pc + 3 = q) (hn : As.length = n) (hr : (rest.map (fun v => v.category)).sum ≤ 8)
    (kk : CC d k' lay As S (fun r S' => AX (d + 1) k lay q ls (pushR r rest) S' Q P)) : AX (d + 1) k lay pc ls (As.reverse ++ rest) S Q P := by
  intro p l e s m args below meth c dC dI cA ad A H locs lsA hC hW hL hT
  obtain ⟨hx, hb, hret, hml, hown, hts, hlk, hNk⟩ := id hC
  obtain ⟨f1, f2⟩ := F
  obtain ⟨g1, g2, g3, g4⟩ := G
  simp only [← pushR_eq] at kk
  have hM := kk l dC dI cA ad H.size
  have hroom : 8 + (k'.2.2.1 + 11) + 40 * d ≤ 40 * (d + 1) := by omega
  have hst : (As.reverse ++ rest).map (cv ad) = (As.map (cv ad)).reverse ++ rest.map (cv ad) := by simp
  have hcat : ((rest.map (cv ad)).map fun v => v.category).sum ≤ 8 := by
    rw [List.map_map]
    have : ((fun v => v.category) ∘ cv ad) = (fun v : Value => v.category) := by funext v; exact cv_cat ad v
    rw [this]
    exact hr
  rcases f1 with f1 | ⟨host, f1⟩
  · exact ax_back hC hW hL hT hq (va_runS (As := As.map (cv ad)) (n := n) ⟨hx, hb, hml, hown, hts⟩ hM ⟨callB_of n hts (wsK_good g2) rfl rfl rfl (hts _ g1) (hts _ f1) g3 ⟨Nat.le_refl _, hroom⟩, hts _ f2⟩ ⟨PP.blind, fun U hU hw => ⟨rfl, PP.at hW hU hw hNk⟩⟩ rfl (by rw [List.length_map]; exact hn) hL.1 hst (lv_room hcat) hd ⟨Nat.zero_le _, Nat.zero_le _⟩)
  · exact ax_back hC hW hL hT hq (va_runSN (As := As.map (cv ad)) (n := n) ⟨hx, hb, hml, hown, hts⟩ hM ⟨va_cnB n hts (wsK_good g2) rfl rfl rfl (hNk _ f1) (hts _ g1) g3 ⟨Nat.le_refl _, hroom⟩, hts _ f2, trivial⟩ ⟨PP.blind, fun U hU hw => ⟨rfl, PP.at hW hU hw hNk⟩⟩ rfl (by rw [List.length_map]; exact hn) hL.1 hst (lv_room hcat) hd ⟨Nat.zero_le _, Nat.zero_le _⟩)
end AXR
abbrev eAI : String := "java/lang/ArrayIndexOutOfBoundsException"
abbrev nsAI : List String := ["java/lang/IndexOutOfBoundsException", "java/lang/RuntimeException", "java/lang/Exception"]
set_option maxRecDepth 100000 in
theorem at_I : vx_atS RX9 110 eAI nsAI = [69, 749, 692, 705, 708, 710, 684, 685, 82, 83, 686, 691, 706, 715, 743, 716, 744, 717, 745, 687, 689, 746, 765, 766, 714, 746, 753, 754, 755, 756, 776, 756, 757, 758, 759, 737, 759, 760, 761, 762, 739, 762, 763, 764, 765, 741, 790, 752, 774, 777, 694, 769, 770, 772, 768, 713, 747, 767].filterMap (fun i => lw_tbl[i]?) := by decide +kernel
set_option maxRecDepth 100000 in
theorem at_N : vx_atP RX9 117 = [69, 749, 692, 705, 708, 710, 684, 685, 82, 83, 686, 691, 706, 715, 743, 716, 744, 717, 745, 687, 689, 746, 765, 766, 714, 746, 794, 795, 796, 759, 737, 759, 760, 761, 762, 739, 762, 763, 764, 765, 741, 734, 696, 697, 711, 718, 702, 703, 750, 793, 674, 742, 695, 726, 728, 732, 724, 713, 747, 722].filterMap (fun i => lw_tbl[i]?) := by decide +kernel
theorem at_Ig : (vx_atS RX9 110 eAI nsAI).all (fun w => goodWord w || isDC w) = true := by decide +kernel
theorem at_Ng : (vx_atP RX9 117).all (fun w => goodWord w || isDC w) = true := by decide +kernel
theorem at_Io : ∀ w ∈ Cond.classLink RX9 106 eAI :: Cond.initialized eAI :: vx_atS RX9 110 eAI nsAI, vx_ot w = true := List.all_eq_true.mp (by decide +kernel)
theorem at_No : ∀ w ∈ Cond.classLink RX9 113 Bundle.nN :: Cond.initialized Bundle.nN :: vx_atP RX9 117, vx_ot w = true := List.all_eq_true.mp (by decide +kernel)
section AXT
variable {d : Nat} {k : MK} {lay : Lay} {pc q : Nat} {ls : AL} {S : Sx} {Q : Option Value → Sx → Prop} {P : String → Sx → Prop}
theorem XX.of {dC : Nat → ClassId} {dI : Nat → Nat → Nat} {cA : ClassId} {ad : List Nat} {A : Nat → Prop} {s t : State} {H : Heap} {locs : List Loc} {E : String} (hW : Wd dC dI cA ad A s lay S H locs) (hP : P E S) (h1 : H.size ≤ t.heap.size) (h2 : ∀ q : Nat, q < H.size → t.heap[q]? = H[q]?) : XX dC dI cA ad A lay P E s t :=
  ⟨S, hP, hW.2.1.kept (fun k q hk => h2 _ (vx_lt hW.2.1 hk)), Nat.le_trans hW.2.2.2.1.1 h1, fun q hq hn => (h2 q (Nat.lt_of_lt_of_le hq hW.2.2.2.1.1)).trans (hW.2.2.2.1.2.1 q hq hn)⟩
theorem ax_throwI {is : Nat} {text : String} (hs : ∀ A s, TS A s → ∃ sa, vk_R RX9 is text sa s) (hk : k.1.cls = RX9) (d0 : decode k.2.1 pc = .ok (.new 106, 3)) (d3 : decode k.2.1 (pc + 3) = .ok (.dup, 1)) (d4 : decode k.2.1 (pc + 4) = .ok (.ldc is, 2)) (d6 : decode k.2.1 (pc + 6) = .ok (.invokespecial 110, 3)) (d9 : decode k.2.1 (pc + 9) = .ok (.athrow, 1)) (hP : P eAI S) : AX (d + 7) k lay pc ls [] S Q P := by
  intro p l e s m args below meth c dC dI cA ad A H locs lsA hC hW hL hT
  obtain ⟨sa, hsa⟩ := hs A s hT.2.2
  have hts := hC.2.2.2.2.2.1
  exact vx_throwS (A := A) (cls := eAI) (names := nsAI) (rest := []) hC.1 hC.2.1 hT.1 (by rw [← hk]; exact hC.2.2.2.2.1) (by decide) (by decide) (hts _ wx_0) (hts _ wx_2) hsa (at_hat _ at_I at_Ig hts hT.2.2.2.2.1) at_Io hT.2.2.1 hT.2.2.2.1 hW.2.2.2.1 (hL.1.trans hC.2.2.2.1.symm) d0 d3 d4 d6 d9 (fun x hx => (hT.2.1 x hx).elim)
    (by show 3 + 3 < d + 7; omega) (by show 0 + (13 * (3 + 1) + 43) ≤ 40 * (d + 7); omega) (Nat.le_refl _) (Nat.le_of_ble_eq_true rfl) hC.2.2.2.2.2.2.1 (fun t _ h1 h2 => XX.of hW hP h1 h2) hW.2.2.2.1.2.2 (Nat.le_refl _) (Nat.le_of_ble_eq_true rfl)
theorem ax_throwN {is : Nat} {text : String} (hs : ∀ A s, TS A s → ∃ sa, vk_R RX9 is text sa s) (hk : k.1.cls = RX9) (d0 : decode k.2.1 pc = .ok (.new 113, 3)) (d3 : decode k.2.1 (pc + 3) = .ok (.dup, 1)) (d4 : decode k.2.1 (pc + 4) = .ok (.ldc is, 2)) (d6 : decode k.2.1 (pc + 6) = .ok (.invokespecial 117, 3)) (d9 : decode k.2.1 (pc + 9) = .ok (.athrow, 1)) (hP : P Bundle.nN S) : AX (d + 7) k lay pc ls [] S Q P := by
  intro p l e s m args below meth c dC dI cA ad A H locs lsA hC hW hL hT
  obtain ⟨sa, hsa⟩ := hs A s hT.2.2
  have hts := hC.2.2.2.2.2.1
  exact vx_throwN (A := A) (rest := []) hC.1 hC.2.1 hT.1 (by rw [← hk]; exact hC.2.2.2.2.1) (hts _ wx_1) (hts _ wx_3) hsa (at_hat _ at_N at_Ng hts hT.2.2.2.2.1) at_No hT.2.2.1 hT.2.2.2.1 hW.2.2.2.1 (hL.1.trans hC.2.2.2.1.symm) d0 d3 d4 d6 d9 (fun x hx => (hT.2.1 x hx).elim)
    (by show 6 < d + 7; omega) (by show 0 + 96 ≤ 40 * (d + 7); omega) (Nat.le_refl _) (Nat.le_of_ble_eq_true rfl) hC.2.2.2.2.2.2.1 (fun t _ h1 h2 => XX.of hW hP h1 h2) hW.2.2.2.1.2.2 (Nat.le_refl _) (Nat.le_of_ble_eq_true rfl)
end AXT
abbrev kX9_item : MK := (yX9_item, cX9_item, 4, (some .int))
theorem dX9_item_0 : decode cX9_item 0 = .ok (.iload_n 1, 1) := by decide +kernel
theorem dX9_item_1 : decode cX9_item 1 = .ok (.iconst 4, 1) := by decide +kernel
theorem dX9_item_2 : decode cX9_item 2 = .ok (.invokestatic 55, 3) := by decide +kernel
theorem dX9_item_5 : decode cX9_item 5 = .ok (.ifCond .ne 13, 3) := by decide +kernel
theorem dX9_item_8 : decode cX9_item 8 = .ok (.new 106, 3) := by decide +kernel
theorem dX9_item_11 : decode cX9_item 11 = .ok (.dup, 1) := by decide +kernel
theorem dX9_item_12 : decode cX9_item 12 = .ok (.ldc 108, 2) := by decide +kernel
theorem dX9_item_14 : decode cX9_item 14 = .ok (.invokespecial 110, 3) := by decide +kernel
theorem dX9_item_17 : decode cX9_item 17 = .ok (.athrow, 1) := by decide +kernel
theorem dX9_item_18 : decode cX9_item 18 = .ok (.aload_n 0, 1) := by decide +kernel
theorem dX9_item_19 : decode cX9_item 19 = .ok (.getfield 25, 3) := by decide +kernel
theorem dX9_item_22 : decode cX9_item 22 = .ok (.getfield 94, 3) := by decide +kernel
theorem dX9_item_25 : decode cX9_item 25 = .ok (.iload_n 1, 1) := by decide +kernel
theorem dX9_item_26 : decode cX9_item 26 = .ok (.invokevirtual 103, 3) := by decide +kernel
theorem dX9_item_29 : decode cX9_item 29 = .ok (.istore_n 3, 1) := by decide +kernel
theorem dX9_item_30 : decode cX9_item 30 = .ok (.iload_n 3, 1) := by decide +kernel
theorem dX9_item_31 : decode cX9_item 31 = .ok (.iconst (-1), 1) := by decide +kernel
theorem dX9_item_32 : decode cX9_item 32 = .ok (.if_icmp .ne 13, 3) := by decide +kernel
theorem dX9_item_35 : decode cX9_item 35 = .ok (.new 113, 3) := by decide +kernel
theorem dX9_item_38 : decode cX9_item 38 = .ok (.dup, 1) := by decide +kernel
theorem dX9_item_39 : decode cX9_item 39 = .ok (.ldc 115, 2) := by decide +kernel
theorem dX9_item_41 : decode cX9_item 41 = .ok (.invokespecial 117, 3) := by decide +kernel
theorem dX9_item_44 : decode cX9_item 44 = .ok (.athrow, 1) := by decide +kernel
theorem dX9_item_45 : decode cX9_item 45 = .ok (.iload_n 2, 1) := by decide +kernel
theorem dX9_item_46 : decode cX9_item 46 = .ok (.iload_n 3, 1) := by decide +kernel
theorem dX9_item_47 : decode cX9_item 47 = .ok (.invokestatic 55, 3) := by decide +kernel
theorem dX9_item_50 : decode cX9_item 50 = .ok (.ifCond .ne 13, 3) := by decide +kernel
theorem dX9_item_53 : decode cX9_item 53 = .ok (.new 106, 3) := by decide +kernel
theorem dX9_item_56 : decode cX9_item 56 = .ok (.dup, 1) := by decide +kernel
theorem dX9_item_57 : decode cX9_item 57 = .ok (.ldc 118, 2) := by decide +kernel
theorem dX9_item_59 : decode cX9_item 59 = .ok (.invokespecial 110, 3) := by decide +kernel
theorem dX9_item_62 : decode cX9_item 62 = .ok (.athrow, 1) := by decide +kernel
theorem dX9_item_63 : decode cX9_item 63 = .ok (.aload_n 0, 1) := by decide +kernel
theorem dX9_item_64 : decode cX9_item 64 = .ok (.getfield 25, 3) := by decide +kernel
theorem dX9_item_67 : decode cX9_item 67 = .ok (.getfield 94, 3) := by decide +kernel
theorem dX9_item_70 : decode cX9_item 70 = .ok (.iload_n 1, 1) := by decide +kernel
theorem dX9_item_71 : decode cX9_item 71 = .ok (.iload_n 2, 1) := by decide +kernel
theorem dX9_item_72 : decode cX9_item 72 = .ok (.invokevirtual 120, 3) := by decide +kernel
theorem dX9_item_75 : decode cX9_item 75 = .ok (.ireturn, 1) := by decide +kernel
theorem mk_X9_item : MKok kX9_item 2 := ⟨wx_4, wx_5, by decide +kernel, by decide⟩
theorem cl_X9_120 : CVok RX9 120 kX4_load := ⟨wx_6, wx_7, wx_8⟩
theorem sx_item_A {d : Nat} {S : Sx} {Q : Option Value → Sx → Prop} {P : String → Sx → Prop} {r i : Int32} (hl : S 2 0 = 9) (he : S 3 0 = 26) (hw : wfR (plS sgA S)) (hQ : xItK (plS sgA S) r i = 0 → Q (some (.int (mLoad (plS sgA S) r i))) S) (h1 : xItK (plS sgA S) r i = 1 → P Bundle.nN S) (h2 : xItK (plS sgA S) r i = 2 → P eAI S) : AX (d + 9) kX9_item layX 0 [some (.ref 0), some (.int r), some (.int i), none] [] S Q P := by
  refine ax_iload_n (q := 1) (i := 1) dX9_item_0 rfl rfl rfl ?_
  refine ax_iconst (q := 2) (v := 4) dX9_item_1 rfl (by decide) ?_
  refine ax_callS (q := 5) (As := [_, _]) cl_X9_55 mk_X9_isBelow dX9_item_2 rfl rfl (Nat.le_of_ble_eq_true rfl) (sp_isBelow ?_)
  refine ax_ifB_ne (q := 8) (tgt := 18) dX9_item_5 rfl (by decide) (fun c1 => ?_) (fun c1 => ?_)
  · refine ax_aload_n (q := 19) (i := 0) dX9_item_18 rfl rfl rfl ?_
    refine ax_getD (q := 22) (f := 2) fl_X9_25 dX9_item_19 rfl lX_0 rfl rfl ?_
    rw [hl]
    show AX _ _ _ _ _ (.ref 9 :: _) _ _ _
    refine ax_getR (q := 25) fl_X9_94 dX9_item_22 rfl lX_9 rfl ?_
    refine ax_iload_n (q := 26) (i := 1) dX9_item_25 rfl rfl rfl ?_
    refine ax_callV (q := 29) (As := [_]) cl_X9_103 mk_X4_lengthOf dX9_item_26 rfl lX_10 rfl rfl (Nat.le_of_ble_eq_true rfl) (cc_frame (sg := sgA) (av := [.ref 1, .int _]) embA rfl (sg_r rfl) (sp_X4_lengthOf (fq ?_)))
    rw [psS_pl]
    refine ax_istore_n (q := 30) (i := 3) dX9_item_29 rfl rfl (by decide) rfl ?_
    refine ax_iload_n (q := 31) (i := 3) dX9_item_30 rfl rfl rfl ?_
    refine ax_iconst (q := 32) (v := -1) dX9_item_31 rfl (by decide) ?_
    refine ax_icmp_ne (q := 35) (tgt := 45) dX9_item_32 rfl (by decide) (fun c2 => ?_) (fun c2 => ?_)
    · refine ax_iload_n (q := 46) (i := 2) dX9_item_45 rfl rfl rfl ?_
      refine ax_iload_n (q := 47) (i := 3) dX9_item_46 rfl rfl rfl ?_
      refine ax_callS (q := 50) (As := [_, _]) cl_X9_55 mk_X9_isBelow dX9_item_47 rfl rfl (Nat.le_of_ble_eq_true rfl) (sp_isBelow ?_)
      refine ax_ifB_ne (q := 53) (tgt := 63) dX9_item_50 rfl (by decide) (fun c3 => ?_) (fun c3 => ?_)
      · refine ax_aload_n (q := 64) (i := 0) dX9_item_63 rfl rfl rfl ?_
        refine ax_getD (q := 67) (f := 2) fl_X9_25 dX9_item_64 rfl lX_0 rfl rfl ?_
        rw [hl]
        show AX _ _ _ _ _ (.ref 9 :: _) _ _ _
        refine ax_getR (q := 70) fl_X9_94 dX9_item_67 rfl lX_9 rfl ?_
        refine ax_iload_n (q := 71) (i := 1) dX9_item_70 rfl rfl rfl ?_
        refine ax_iload_n (q := 72) (i := 2) dX9_item_71 rfl rfl rfl ?_
        refine ax_callV (q := 75) (As := [_, _]) cl_X9_120 mk_X4_load dX9_item_72 rfl lX_10 rfl rfl (Nat.le_of_ble_eq_true rfl) (cc_frame (sg := sgA) (av := [.ref 1, .int _, .int _]) embA rfl (sg_r rfl) (sp_X4_load hw (fq ?_)))
        rw [psS_pl]
        exact ax_ireturn dX9_item_75 rfl (hQ (by rw [xItK, if_pos c1, if_neg c2, if_pos c3]))
      · exact ax_throwI (fun A s h => h.2.2.2.2.2) rfl dX9_item_53 dX9_item_56 dX9_item_57 dX9_item_59 dX9_item_62 (h2 (by rw [xItK, if_pos c1, if_neg c2, if_neg (by rw [c3]; decide)]))
    · exact ax_throwN (fun A s h => h.2.2.2.2.1) rfl dX9_item_35 dX9_item_38 dX9_item_39 dX9_item_41 dX9_item_44 (h1 (by rw [xItK, if_pos c1, if_pos c2]))
  · exact ax_throwI (fun A s h => h.2.2.2.1) rfl dX9_item_8 dX9_item_11 dX9_item_12 dX9_item_14 dX9_item_17 (h2 (by rw [xItK, if_neg (by rw [c1]; decide)]))
theorem sx_item_B {d : Nat} {S : Sx} {Q : Option Value → Sx → Prop} {P : String → Sx → Prop} {r i : Int32} (hl : S 2 0 = 26) (he : S 3 0 = 9) (hw : wfR (plS sgB S)) (hQ : xItK (plS sgB S) r i = 0 → Q (some (.int (mLoad (plS sgB S) r i))) S) (h1 : xItK (plS sgB S) r i = 1 → P Bundle.nN S) (h2 : xItK (plS sgB S) r i = 2 → P eAI S) : AX (d + 9) kX9_item layX 0 [some (.ref 0), some (.int r), some (.int i), none] [] S Q P := by
  refine ax_iload_n (q := 1) (i := 1) dX9_item_0 rfl rfl rfl ?_
  refine ax_iconst (q := 2) (v := 4) dX9_item_1 rfl (by decide) ?_
  refine ax_callS (q := 5) (As := [_, _]) cl_X9_55 mk_X9_isBelow dX9_item_2 rfl rfl (Nat.le_of_ble_eq_true rfl) (sp_isBelow ?_)
  refine ax_ifB_ne (q := 8) (tgt := 18) dX9_item_5 rfl (by decide) (fun c1 => ?_) (fun c1 => ?_)
  · refine ax_aload_n (q := 19) (i := 0) dX9_item_18 rfl rfl rfl ?_
    refine ax_getD (q := 22) (f := 2) fl_X9_25 dX9_item_19 rfl lX_0 rfl rfl ?_
    rw [hl]
    show AX _ _ _ _ _ (.ref 26 :: _) _ _ _
    refine ax_getR (q := 25) fl_X9_94 dX9_item_22 rfl lX_26 rfl ?_
    refine ax_iload_n (q := 26) (i := 1) dX9_item_25 rfl rfl rfl ?_
    refine ax_callV (q := 29) (As := [_]) cl_X9_103 mk_X4_lengthOf dX9_item_26 rfl lX_27 rfl rfl (Nat.le_of_ble_eq_true rfl) (cc_frame (sg := sgB) (av := [.ref 1, .int _]) embB rfl (sg_r rfl) (sp_X4_lengthOf (fq ?_)))
    rw [psS_pl]
    refine ax_istore_n (q := 30) (i := 3) dX9_item_29 rfl rfl (by decide) rfl ?_
    refine ax_iload_n (q := 31) (i := 3) dX9_item_30 rfl rfl rfl ?_
    refine ax_iconst (q := 32) (v := -1) dX9_item_31 rfl (by decide) ?_
    refine ax_icmp_ne (q := 35) (tgt := 45) dX9_item_32 rfl (by decide) (fun c2 => ?_) (fun c2 => ?_)
    · refine ax_iload_n (q := 46) (i := 2) dX9_item_45 rfl rfl rfl ?_
      refine ax_iload_n (q := 47) (i := 3) dX9_item_46 rfl rfl rfl ?_
      refine ax_callS (q := 50) (As := [_, _]) cl_X9_55 mk_X9_isBelow dX9_item_47 rfl rfl (Nat.le_of_ble_eq_true rfl) (sp_isBelow ?_)
      refine ax_ifB_ne (q := 53) (tgt := 63) dX9_item_50 rfl (by decide) (fun c3 => ?_) (fun c3 => ?_)
      · refine ax_aload_n (q := 64) (i := 0) dX9_item_63 rfl rfl rfl ?_
        refine ax_getD (q := 67) (f := 2) fl_X9_25 dX9_item_64 rfl lX_0 rfl rfl ?_
        rw [hl]
        show AX _ _ _ _ _ (.ref 26 :: _) _ _ _
        refine ax_getR (q := 70) fl_X9_94 dX9_item_67 rfl lX_26 rfl ?_
        refine ax_iload_n (q := 71) (i := 1) dX9_item_70 rfl rfl rfl ?_
        refine ax_iload_n (q := 72) (i := 2) dX9_item_71 rfl rfl rfl ?_
        refine ax_callV (q := 75) (As := [_, _]) cl_X9_120 mk_X4_load dX9_item_72 rfl lX_27 rfl rfl (Nat.le_of_ble_eq_true rfl) (cc_frame (sg := sgB) (av := [.ref 1, .int _, .int _]) embB rfl (sg_r rfl) (sp_X4_load hw (fq ?_)))
        rw [psS_pl]
        exact ax_ireturn dX9_item_75 rfl (hQ (by rw [xItK, if_pos c1, if_neg c2, if_pos c3]))
      · exact ax_throwI (fun A s h => h.2.2.2.2.2) rfl dX9_item_53 dX9_item_56 dX9_item_57 dX9_item_59 dX9_item_62 (h2 (by rw [xItK, if_pos c1, if_neg c2, if_neg (by rw [c3]; decide)]))
    · exact ax_throwN (fun A s h => h.2.2.2.2.1) rfl dX9_item_35 dX9_item_38 dX9_item_39 dX9_item_41 dX9_item_44 (h1 (by rw [xItK, if_pos c1, if_pos c2]))
  · exact ax_throwI (fun A s h => h.2.2.2.1) rfl dX9_item_8 dX9_item_11 dX9_item_12 dX9_item_14 dX9_item_17 (h2 (by rw [xItK, if_neg (by rw [c1]; decide)]))
/-- item of the class, called: what it needs, what it answers or throws -/
def PPX (dC : Nat → ClassId) (dI : Nat → Nat → Nat) (cA : ClassId) (ad : List Nat) (S : Sx) (sz : Nat) : State → Prop := fun U => PP dC dI cA ad layX S sz U ∧ TS (va_A (cw cA ad layX S) sz) U
theorem PPX.blind {dC : Nat → ClassId} {dI : Nat → Nat → Nat} {cA : ClassId} {ad : List Nat} {S : Sx} {sz : Nat} {av : List Value} : FrameBlind (va_Pc av (PPX dC dI cA ad S sz)) := fun a U g mk q => by
  obtain ⟨q0, q1, q2⟩ := q
  exact ⟨q0, (PP.blind (av := av) a U g mk ⟨q0, q1⟩).2, TS.same (s := U) (U := U.calling g mk a) rfl rfl q2⟩
theorem mx_item {S : Sx} {sg so : List Nat} (hL : LatW S sg so) (hw : wfR (plS sg S)) (r i : Int32) (l : Launch) (hl : l.stackTraces = false) (dC : Nat → ClassId) (dI : Nat → Nat → Nat) (cA : ClassId) (ad : List Nat) (sz : Nat) :
    vx_Met l kX9_item.1 (wsK kX9_item) (rmX 9) (va_Pc ([.ref 0, .int r, .int i].map (cv ad)) (PPX dC dI cA ad S sz)) (QQ dC dI cA ad (va_A (cw cA ad layX S) sz) layX (fun v S' => xItK (plS sg S) r i = 0 ∧ v = some (.int (mLoad (plS sg S) r i)) ∧ S' = S)) (XX dC dI cA ad (va_A (cw cA ad layX S) sz) layX (fun E S' => S' = S ∧ ((xItK (plS sg S) r i = 1 ∧ E = Bundle.nN) ∨ (xItK (plS sg S) r i = 2 ∧ E = eAI)))) 1 8 (va_A (cw cA ad layX S) sz) := by
  have key : ∀ (Q : Option Value → Sx → Prop) (P : String → Sx → Prop), (xItK (plS sg S) r i = 0 → Q (some (.int (mLoad (plS sg S) r i))) S) → (xItK (plS sg S) r i = 1 → P Bundle.nN S) → (xItK (plS sg S) r i = 2 → P eAI S) → AX (0 + 9) kX9_item layX 0 [some (.ref 0), some (.int r), some (.int i), none] [] S Q P := by
    intro Q P a b c
    rcases hL with ⟨rfl, rfl, e1, e2⟩ | ⟨rfl, rfl, e1, e2⟩
    · exact sx_item_A e1 e2 hw a b c
    · exact sx_item_B e1 e2 hw a b c
  refine vx_ofW (cc := kX9_item.2.1) (maxL := kX9_item.2.2.1) (ret := kX9_item.2.2.2) (by decide) rfl ?_
  intro p e s m args below meth c s₁ B hml htab hv
  obtain ⟨rfl, ⟨hsz, hP, hK, hD0, hN⟩, hTS⟩ := hv
  have hts := atoms_spec (ws := wsK kX9_item) B.pre
  have hown : s.vm.findClass kX9_item.1.cls = some m.cls := findClass_of_methodNamed B.named
  subst hsz
  rw [lg_entry_eq]
  have hl4 := lv_entry ([.ref 0, .int r, .int i].map (cv ad)) (n := kX9_item.2.2.1) (Nat.le_of_ble_eq_true rfl)
  refine key _ _ (fun h => ⟨h, rfl, rfl⟩) (fun h => ⟨rfl, Or.inl ⟨h, rfl⟩⟩) (fun h => ⟨rfl, Or.inr ⟨h, rfl⟩⟩) p l e s m _ below meth c dC dI cA ad _ _ [] _ ⟨B.exec, B.bytes, B.returns, hml, hown, fun w hw => hts w (List.mem_cons_of_mem _ hw), B.notSynchronized, hN⟩ ⟨hK, hP, hD0.self, va_S.rf, fun q hq => Or.inr hq⟩ ⟨hl4.1, hl4.2.1, fun j v hj => ?_⟩ ⟨hl, htab, hTS⟩
  rcases (show j = 0 ∨ j = 1 ∨ j = 2 ∨ j = 3 ∨ 4 ≤ j by omega) with rfl | rfl | rfl | rfl | h
  · obtain rfl : Value.ref 0 = v := by simpa using hj
    exact ⟨rfl, hl4.2.2 (0, cv ad (.ref 0)) (by simp [lv_args, cv, Value.category])⟩
  · obtain rfl : Value.int r = v := by simpa using hj
    exact ⟨rfl, hl4.2.2 (1, cv ad (.int r)) (by simp [lv_args, cv, Value.category])⟩
  · obtain rfl : Value.int i = v := by simpa using hj
    exact ⟨rfl, hl4.2.2 (2, cv ad (.int i)) (by simp [lv_args, cv, Value.category])⟩
  · simp at hj
  · rw [List.getElem?_eq_none (by simpa using h)] at hj
    cases hj
