section NPES
/-! 'throw new NullPointerException("..")' where no traces are kept. Throwable(String) calls, through the object's class, NullPointerException's own synchronized fillInStackTrace, and that one calls Throwable's. The library has a law for each method alone, with a gap for what it calls: here they are put into one another, from the inmost on. -/
/-- the stack has room for fr frames and wd words more over u, when its top frame is g -/
def nq_room (e : Env) (lim : Nat × Nat) (u : State) (g : JFrame) (fr wd : Nat) : Prop :=
  u.topJava?.isSome = true ∧ e.platform.stackLimits u.me = lim ∧ u.frames.tail.length + 1 + fr < lim.1 ∧ (stackUse (.java g :: u.frames.tail)).2 + wd ≤ lim.2
theorem nq_vm {e : Env} {lim : Nat × Nat} {u : State} {g : JFrame} {fr wd : Nat} (h : nq_room e lim u g fr wd) (v : Vm) : nq_room e lim (u.setVm v) g fr wd := h
theorem nq_set {e : Env} {lim : Nat × Nat} {u : State} {g : JFrame} {fr wd : Nat} (h : nq_room e lim u g fr wd) (a : Addr) (x : Cell) : nq_room e lim (u.setCell a x) g fr wd := h
/-- a method of n variables can be called there -/
theorem nq_full {e : Env} {lim : Nat × Nat} {u : State} {g : JFrame} {fr wd n : Nat} (h : nq_room e lim u g fr wd) (hn : n + 11 ≤ wd) :
    e.platform.stackFull (((u.setTop g).threads[(u.setTop g).cur]?).getD { frames := [] }) (u.setTop g).frames n = false := by
  obtain ⟨h1, h2, h3, h4⟩ := h
  refine Jvm.roomAbove (pushed := []) (base := .java g :: u.frames.tail) (free := wd) (lim := lim) (State.frames_setTop' g h1) ((State.stackLimits_setTop _ h1 g).trans h2) ?_ h4 ?_
  · simp only [List.length_nil, List.length_cons]
    omega
  · simp only [stackUse_nil]
    omega
/-- and in it, when its frame is K, there is what is left -/
theorem nq_over {e : Env} {lim : Nat × Nat} {u : State} {g : JFrame} {fr wd w : Nat} (h : nq_room e lim u g (fr + 1) wd) (J K : JFrame) (hw : K.locals.size + 11 + 2 * K.monitorRoom + operandWords K.stack + w ≤ wd) :
    nq_room e lim ((u.setTop g).pushFrame (.java J)) K fr w := by
  obtain ⟨h1, h2, h3, h4⟩ := h
  have hf := frames_entered (g := g) h1 (.java J)
  refine ⟨by rw [State.topJava?_of_frames hf]; rfl, ?_, ?_, ?_⟩
  · rw [State.stackLimits_pushFrame, State.stackLimits_setTop _ h1, h2]
  · rw [hf]
    simp only [List.tail_cons, List.length_cons]
    omega
  · rw [hf, List.tail_cons, stackUse_java]
    dsimp only
    omega
theorem nq_slot {x : Cell} {i j : Nat} {v : Value} (h : i ≠ j) : (x.setSlot i v).slots[j]? = x.slots[j]? := by simp [Cell.setSlot, h]
theorem nq_slot' {x : Cell} {i : Nat} {v : Value} (h : i < x.slots.size) : (x.setSlot i v).slots[i]? = some v := by simp [Cell.setSlot, h]
theorem nq_takes {s : State} {x : Cell} {f : Field} {v w : Value} {i : Nat} (h : Takes s x f v) : Takes s (x.setSlot i w) f v := ⟨by simpa [Cell.setSlot] using h.1, h.2⟩
theorem nq_lt {u : State} {a : Addr} {x : Cell} (h : u.heap[a]? = some x) : a < u.heap.size := (Array.getElem?_eq_some_iff.mp h).1
/-- the object as it comes into fillInStackTrace, and the cell of Throwable's statics -/
def nq_obj (e : Env) (s₀ : State) (T : ThrowableC) (N : NpeC) (u0 : RefV) (X : State) (self : Addr) (cell cellS : Cell) : Prop :=
  (X.heap[self]? = some cell ∧ cell.cls = N.cN ∧ cell.vm = .none ∧ cell.monitor.owner = none) ∧
  (X.heap[T.aS]? = some cellS ∧ T.aS ≠ self ∧ cellS.vm ≠ .unknown ∧ cellS.slots[T.fUnassigned.slot]? = some u0.v) ∧
  (cell.slots[T.fStack.slot]? = some u0.v ∧ cell.slots[N.fState.slot]? = some (.int 0) ∧ N.fState.slot ≠ T.fStack.slot) ∧
  (Takes s₀ cell T.fStack u0.v ∧ Takes s₀ cell N.fState (.int 1) ∧ selectMethod e.platform s₀.vm N.cN T.fill0 = .method T.fill0) ∧
  ∃ B : BackC, B.Links T e.platform s₀ ∧ cell.slots[B.fBack.slot]? = some .null ∧ N.fState.slot ≠ B.fBack.slot
/-- the object as it comes out: entered and left twice by the thread t, its state and its stackTrace written -/
abbrev nq_cell (T : ThrowableC) (N : NpeC) (cell : Cell) (u0 : RefV) (t : ThreadId) : Cell := ((((npeCell N.toNpeT cell t).withEntry t).setSlot T.fStack.slot u0.v).left).left
theorem nq_fill (p : Program) {e : Env} {below : List Frame} {s₀ X : State} {g : JFrame} {c : Code} {self : Addr} (hA : At X g.method c below) (hexec : p.tables.exec = Jvm.exec) (T : ThrowableC) (L : T.Links e.platform s₀) (N : NpeC) (LN : N.Links T e.platform s₀)
    (hX : s₀.WarmedH X.vm) (htr : e.platform.stackTraces = false) {u0 : RefV} {cell cellS : Cell} {ig : Instr} {len : Nat} {lim : Nat × Nat} (ho : nq_obj e s₀ T N u0 X self cell cellS) (hr : nq_room e lim X g 2 43) (hd : decode c.code g.pc = .ok (ig, len)) :
    ∃ v, s₀.WarmedH v ∧ ∀ t : State, Steps p.tables e below (((X.setVm v).setCell self (nq_cell T N cell u0 X.cur)).setTop { g with pc := g.pc + len, stack := .ref self :: g.stack }) t → Steps p.tables e below (doInvoke e (X.setTop g) [] N.fill #[.ref self]).1 t := by
  obtain ⟨⟨o1, o2, o3, o4⟩, ⟨S1, S2, S3, S4⟩, ⟨k1, k2, k3⟩, ⟨t1, t2, t3⟩, B, b1, b2, b3⟩ := ho
  have hobj : ∀ k, cell.vm ≠ .statics k := fun k => by rw [o3]; simp
  have hunk : cell.vm ≠ .unknown := by rw [o3]; simp
  have r1 : ∀ v, nq_room e lim (npeInside (X.setVm v) g N.toNpeT self cell) (fillJ N.fill self 37 []) 1 29 := fun v =>
    nq_set (nq_over (nq_set (nq_vm hr v) self (cell.withEntry X.cur)) _ _ (by simp [operandWords])) self _
  have r2 : ∀ v, nq_room e lim (fillInside (npeInside (X.setVm v) g N.toNpeT self cell) (fillJ N.fill self 37 []) T.fill self (npeCell N.toNpeT cell X.cur)) (fillJ T.fill self 16 []) 0 15 := fun v =>
    nq_over (nq_set (r1 v) self _) _ _ (by simp [operandWords])
  have inner : ∀ v1, s₀.WarmedH v1 → At (npeInside (X.setVm v1) g N.toNpeT self cell) N.fill N.codeFill below → ∃ v2, s₀.WarmedH v2 ∧ ∀ t : State,
      Steps p.tables e below (((npeInside (X.setVm v2) g N.toNpeT self cell).setCell self (((npeCell N.toNpeT cell X.cur).withEntry X.cur).setSlot T.fStack.slot u0.v).left).setTop (fillJ N.fill self 40 [.ref self])) t →
      Steps p.tables e below (doInvoke e ((npeInside (X.setVm v1) g N.toNpeT self cell).setTop (fillJ N.fill self 37 [])) [] T.fill #[.ref self]).1 t := fun v1 hv1 hB => by
    have here : (npeInside (X.setVm v1) g N.toNpeT self cell).heap[self]? = some (npeCell N.toNpeT cell X.cur) :=
      heapAt_setCell_self _ (nq_lt (heapAt_setCell_self (s := X.setVm v1) (cell.withEntry X.cur) (nq_lt (u := X) o1)))
    have stat : (npeInside (X.setVm v1) g N.toNpeT self cell).heap[T.aS]? = some cellS :=
      (heapAt_setCell_ne _ S2.symm).trans ((heapAt_setCell_ne (s := X.setVm v1) (cell.withEntry X.cur) S2.symm).trans S1)
    obtain ⟨v2, hv2, st⟩ := Steps.fillColdAnyV p (V := npeInside (X.setVm v1) g N.toNpeT self cell) (g := fillJ N.fill self 37 []) (c := N.codeFill) (self := self) hB hexec T L hv1 (Nn := fun u => u) heapOnly_id (fun _ _ => rfl) (fun _ => rfl)
      (fun _ _ _ => setCell_twice _ _ _ _) (cell := npeCell N.toNpeT cell X.cur) (cellS := cellS) (cN := (npeCell N.toNpeT cell X.cur).withEntry X.cur) (u0 := u0) (ig := .invokespecial 24) (len := 3) [] here hobj hunk (Or.inr rfl)
      ((nq_slot k3).trans k1) (by show selectMethod _ _ cell.cls _ = _; rw [o2]; exact t3) stat S2 S3 S4 (fun _ hu => hu) (fun _ hu => hu) rfl rfl rfl rfl (nq_takes (x := cell.withEntry X.cur) t1)
      (by rw [LN.fillBytes]; exact LibCode.NullPointerException.Fill.at_37) (fun _ v3 hv3 hA3 t ht => L.nativeOff p htr hA3 hv3 (nq_full (r2 v3) (by decide)) ht) (nq_full (r1 v1) (by omega))
      ⟨B, b1, (nq_slot (x := (cell.withEntry X.cur)) b3).trans b2, fun _ _ => rfl⟩
    exact ⟨v2, hv2, fun t ht => st t ht⟩
  obtain ⟨v, hv, st⟩ := Steps.npeFillColdBy p (V := X) (g := g) (c := c) (self := self) hA hexec T L N LN hX (Fi := fun u => u.setCell self (((npeCell N.toNpeT cell X.cur).withEntry X.cur).setSlot T.fStack.slot u0.v).left)
    (heapOnly_id.thenSetCell self _) (fun _ => rfl) (fun _ _ _ => by simp only [setCell_twice]) (cell := cell) (kcell := N.kN) (ig := ig) (len := len) [] o1 hobj hunk o4 (by rw [o2]; exact LN.cls) k2 t2
    (fun _ hu => heapAt_setCell_self _ (nq_lt hu)) (by simp [Cell.left, Cell.withEntry, Cell.setSlot]) hd inner (nq_full hr (by omega))
  refine ⟨v, hv, fun t ht => st t ?_⟩
  show Steps p.tables e below ((((X.setVm v).setCell self _).setCell self _).setTop _) t
  rw [setCell_twice]
  exact ht
/-- the words of 'throw new NullPointerException("..")' -/
def nq_rest (own : String) (ic : Nat) : List Cond :=
  [.methodLink own ic (Bundle.initS Bundle.nN), .instantiable Bundle.nN 8, .selects Bundle.nN Bundle.tFill0 Bundle.tFill0, .selects Bundle.nN Bundle.tFill Bundle.nFill,
   .lays Bundle.nN Bundle.tN "cause" "Ljava/lang/Throwable;", .lays Bundle.nN Bundle.tN "stackTrace" Bundle.steD, .lays Bundle.nN Bundle.tN "suppressedExceptions" Bundle.listD, .lays Bundle.nN Bundle.tN "detailMessage" "Ljava/lang/String;",
   .isRef (.static Bundle.tN "UNASSIGNED_STACK" Bundle.steD), .isRef (.static Bundle.tN "SUPPRESSED_SENTINEL" Bundle.listD),
   .fieldLink Bundle.tN 198 Bundle.tN "backtrace" "Ljava/lang/Object;", .lays Bundle.tN Bundle.tN "backtrace" "Ljava/lang/Object;", .lays Bundle.nN Bundle.tN "backtrace" "Ljava/lang/Object;"]
def nq_words (own : String) (ic : Nat) : List Cond := Bundle.throwableAtoms ++ (Bundle.throwableSAtoms ++ (Bundle.chainSAtoms Bundle.nN [Bundle.rN, Bundle.eN] ++ (Bundle.npeAtoms ++ nq_rest own ic)))
set_option maxHeartbeats 1000000 in
/-- from the call of the constructor on, the new object a twice on the stack under the text, to the throw -/
theorem nq_throw {p : Program} {l : Launch} {e : Env} {R : Room} {s : State} {m : MethodId} {args : Array Value} {below : List Frame} {meth : Method} {c : Code} {W : State} {cells slots : Nat} (X : Stand p l e R s m args below meth c W [] cells slots)
    (hexec : p.tables.exec = Jvm.exec) (htr : e.platform.stackTraces = false) {own : String} {ic : Nat} (hown : s.vm.findClass own = some m.cls) (hw : ∀ w ∈ nq_words own ic, w.before args s = true) {a sa : Addr} {cX : ClassId} {kX : Class}
    (hX : s.vm.findClass Bundle.nN = some cX) (hkX : s.vm.classes[cX]? = some kX) (ha : W.heap[a]? = some (freshCell cX kX)) (hnew : s.heap.size ≤ a) {pc : Nat} {ls : Array Slot} {rest : List Value} (hsize : ls.size = c.maxLocals)
    (d0 : decode c.code pc = .ok (.invokespecial ic, 3)) (d3 : decode c.code (pc + 3) = .ok (.athrow, 1)) (hout : ∀ x ∈ c.exceptionTable.toList, covers x (pc + 3) = false) (hRf : 6 < R.frames) (hRl : (rest.map fun v => v.category).sum + 96 ≤ R.locals) (hlocks : meth.locks = false) :
    ∃ (U : State) (ce : Cell), Steps p.tables e below (W.setTop (F0 m pc ls (.ref sa :: .ref a :: .ref a :: rest))) U ∧ U.status = .running ∧ Ended U below (.threw a) ∧ s.WarmedH U.vm ∧ s.sameButNew ({ U with vm := s.vm } : State) [] cells slots ∧
      U.heap[a]? = some ce ∧ ce.vm = .none ∧ s.vm.findClass Bundle.nN = some ce.cls := by
  obtain ⟨pOwn, pFin, pMag, pClone⟩ : e.platform.frameOwnsMonitors = true ∧ e.platform.finalization = false ∧ e.platform.magicAccessors = ({} : Platform).magicAccessors ∧ e.platform.arrayCloneIsPublic = true := by
    refine ⟨?_, ?_, ?_, ?_⟩ <;> rw [X.admits.platform]
  obtain ⟨w1, hw⟩ := List.forall_mem_append.mp hw
  obtain ⟨w2, hw⟩ := List.forall_mem_append.mp hw
  obtain ⟨w3, hw⟩ := List.forall_mem_append.mp hw
  obtain ⟨w4, hw⟩ := List.forall_mem_append.mp hw
  simp only [nq_rest, List.forall_mem_cons] at hw
  obtain ⟨wLink, -, wSel0, wSel, wC, wS, wP, wM, wU, wN, wLB, wTB, wB, -⟩ := hw
  obtain ⟨T, Z0, L, -, Y⟩ := ThrowableC.of_atoms (args := args) pOwn pFin pMag w1
  obtain ⟨Z, M, LZ, LM, hZ⟩ := Init0T.ofS_atoms (args := args) pMag L Y w2
  obtain ⟨N, LN, hN, hNfill, hNord, hNstate⟩ := NpeC.of_atoms (args := args) pMag pClone L Y w4
  obtain ⟨P, Ps, hPs, LP, LPs, hP, hPsup, hPson⟩ := Bundle.chainS (args := args) pMag hZ [Bundle.rN, Bundle.eN] Bundle.nN (by decide) (by decide) w3
  obtain rfl : cX = N.cN := Option.some.inj (hX.symm.trans hN)
  obtain rfl : kX = N.kN := Option.some.inj (hkX.symm.trans LN.cls)
  -- which methods the object's class has
  have pick : ∀ {y z : MethodName} {i j : MethodId}, (Cond.selects Bundle.nN y z).before args s = true → s.methodNamed? y = some i → (y.cls ≠ "java/lang/invoke/MethodHandle" ∧ y.cls ≠ "java/lang/invoke/VarHandle") → s.methodNamed? z = some j →
      selectMethod e.platform s.vm N.cN i = .method j := fun hs hy hn hz => by
    obtain ⟨k1, k2, k3, g1, g2, g3, g4, -⟩ := Cond.selects_spec hs
    rw [hN] at g1
    rw [State.methodFound?_of_named hy hn] at g2
    rw [hz] at g3
    cases g1; cases g2; cases g3
    exact (Launch.admits_selectMethod X.admits _ _ _).trans g4
  -- its fields, apart from each other
  obtain ⟨ciB, iB, fB, lB, rB, aB, sB, -, nB, tB, hB⟩ := Cond.ownField (t := .object "java/lang/Object") Y.found L.cls (by decide +kernel) wLB wTB e.platform pMag
  obtain ⟨iM, hM⟩ := Y.msg
  have nX : N.fState.name = "extendedMessageState" := (State.fieldFound?_type hNstate (t := .int) (by decide +kernel)).1
  obtain ⟨yC, qC⟩ := Cond.laysAt hN LN.cls Y.cause wC
  obtain ⟨yS, qS⟩ := Cond.laysAt hN LN.cls Y.stack wS
  obtain ⟨yP, qP⟩ := Cond.laysAt hN LN.cls Y.supp wP
  obtain ⟨yM, -⟩ := Cond.laysAt hN LN.cls hM wM
  obtain ⟨yB, qB⟩ := Cond.laysAt hN LN.cls hB wB
  obtain ⟨yX, qX⟩ := Cond.laysAt hN LN.cls hNstate (w4 (.lays Bundle.nN Bundle.nN "extendedMessageState" "I") (by simp [Bundle.npeAtoms]))
  have apart : ∀ {f h : Field}, (∃ d, Jmm.declares? s.vm f.slot (N.cN + 1) N.cN = some d ∧ d.2.name = f.name) → (∃ d, Jmm.declares? s.vm h.slot (N.cN + 1) N.cN = some d ∧ d.2.name = h.name) → f.name ≠ h.name → f.slot ≠ h.slot :=
    fun ⟨_, i1, i2⟩ ⟨_, j1, j2⟩ hne => Cond.laysApart i1 j1 i2 j2 hne
  have tC : Takes s (freshCell N.cN N.kN) T.fCause (.ref a) := Takes.of_laid LN.cls hNord yC (by rw [Y.causeType]; rfl)
  have fresh : ∀ {f : Field}, N.kN.instanceTypes[f.slot]? = some f.type → ∀ {u : RefV}, T.fCause.slot ≠ f.slot → T.fStack.slot ≠ f.slot → T.fSupp.slot ≠ f.slot → ∀ {sn : RefV},
      (preparedCellV T.toThrowableT (freshCell N.cN N.kN) a u sn).slots[f.slot]? = some (defaultValue f.type) := fun hy _ n1 n2 n3 _ =>
    (nq_slot n3).trans ((nq_slot n2).trans ((nq_slot n1).trans (fresh_default hy)))
  -- Throwable's statics, as they were
  obtain ⟨c0, hc0, hst⟩ := Y.statics
  obtain ⟨u0, hu0⟩ := Cond.staticRefV Y.unassigned L.unassignedStatic L.statics hc0 hst wU
  obtain ⟨sen, hsen⟩ := Cond.staticRefV Y.sentinel L.sentinelStatic L.statics hc0 hst wN
  obtain ⟨cS, hcS, hcSv, -, hcSk⟩ := X.same.2.2.2.2.2 T.aS c0 hc0
  have hcSu : cS.vm ≠ .unknown := fun hu => by
    rw [hcSv] at hu
    rw [show c0.vm = .unknown from hu] at hst
    exact absurd hst (by decide)
  have hne : T.aS ≠ a := fun h => absurd (nq_lt (u := s) hc0) (by rw [h]; exact Nat.not_lt.mpr hnew)
  have tS : Takes s (freshCell N.cN N.kN) T.fStack u0.v := Takes.of_laid LN.cls hNord yS (by rw [Y.stackType]; exact fits_refV_array _ u0)
  have tP : Takes s (freshCell N.cN N.kN) T.fSupp sen.v := Takes.of_laid LN.cls hNord yP (by rw [Y.suppType]; exact fits_refV_object _ sen)
  have tM : Takes s (freshCell N.cN N.kN) T.fMsg (.ref sa) := Takes.of_laid LN.cls hNord yM (by rw [Y.msgType]; exact fits_refV_object _ ⟨.ref sa, rfl⟩)
  have tX : Takes s (freshCell N.cN N.kN) N.fState (.int 1) := Takes.of_laid LN.cls hNord yX (by rw [LN.stateInt]; rfl)
  have ready : ∀ u : State, u.heap[a]? = some (preparedCellV T.toThrowableT (freshCell N.cN N.kN) a u0 sen) → u.heap[T.aS]? = some cS → nq_obj e s T N u0 u a (preparedCellV T.toThrowableT (freshCell N.cN N.kN) a u0 sen) cS := fun u i1 i2 =>
    ⟨⟨i1, rfl, rfl, rfl⟩, ⟨i2, hne, hcSu, (hcSk _ (by simp)).trans hu0⟩,
      ⟨(nq_slot (apart qP qS (by rw [Y.suppName, Y.stackName]; decide))).trans (nq_slot' (nq_takes (i := T.fCause.slot) (w := .ref a) tS).1),
        by rw [fresh yX (apart qC qX (by rw [Y.causeName, nX]; decide)) (apart qS qX (by rw [Y.stackName, nX]; decide)) (apart qP qX (by rw [Y.suppName, nX]; decide)), LN.stateInt]; rfl,
        apart qX qS (by rw [nX, Y.stackName]; decide)⟩,
      ⟨nq_takes (nq_takes (nq_takes tS)), nq_takes (nq_takes (nq_takes tX)), pick wSel0 Y.fill0 (by decide) Y.fill0⟩,
      { ci198 := ciB, i198 := iB, fBack := fB }, ⟨lB, rB, aB, sB⟩,
      by rw [fresh yB (apart qC qB (by rw [Y.causeName, nB]; decide)) (apart qS qB (by rw [Y.stackName, nB]; decide)) (apart qP qB (by rw [Y.suppName, nB]; decide)), tB]; rfl,
      apart qX qB (by rw [nX, nB]; decide)⟩
  -- the constructor is called
  obtain ⟨tm, _, _, _, v1, htm, -, -, -, -, -, -, -, hv1, st1⟩ := Steps.initColdS (tb := p.tables) (e := e) (below := below) (s := s) (U := W) X.here hexec X.warmed pMag hown (t := Bundle.initS Bundle.nN) rfl rfl (Bundle.fit_spec (n := Bundle.nN) (by decide)).2 wLink
    (w3 (.instanceMethod (Bundle.initS Bundle.nN)) (by simp [Bundle.chainSAtoms, Bundle.passSAtoms])) (bytes := Bundle.six) (maxL := 2) (w3 (.code (Bundle.initS Bundle.nN) Bundle.six 2 none) (by simp [Bundle.chainSAtoms, Bundle.passSAtoms]))
    (f := F0 m pc ls (.ref sa :: .ref a :: .ref a :: rest)) rfl (a := a) (msg := .ref sa) (rest := .ref a :: rest) rfl d0
  obtain rfl : tm = P.m := Option.some.inj (htm.symm.trans hP)
  have X1 := X.noted hv1
  have hfr := X1.framesAbove hRf
  have hwd := X1.stackAbove (g := F0 m pc ls (.ref a :: rest)) hsize (K := 95) (by simp only [List.map_cons, List.sum_cons, show (Value.ref a).category = 1 from rfl]; omega)
  -- up the constructors that hand the text on, into Throwable's, and there into fillInStackTrace
  obtain ⟨v2, hv2, st2⟩ := Steps.initChainSCold (tb := p.tables) (e := e) (below := below) (s₀ := s) hexec (H := fun u => u.setCell a ((nq_cell T N (preparedCellV T.toThrowableT (freshCell N.cN N.kN) a u0 sen) u0 W.cur).setSlot T.fMsg.slot (.ref sa))) (heapOnly_id.thenSetCell a _)
    (Z.m T.toThrowableT) (self := a) (msg := .ref sa) rfl (e.platform.stackLimits (W.setVm v1).me) (P :: Ps) (W.setVm v1) (F0 m pc ls (.ref a :: rest)) c (.invokespecial ic) 3 [] X1.here X1.warmed
    (fun Q hQ => (List.mem_cons.mp hQ).elim (fun h => h ▸ LP) (LPs Q)) ⟨hPsup, hPson⟩ d0 rfl (by simp only [List.length_cons, hPs, List.length_nil]; omega) (by simp only [List.length_cons, hPs, List.length_nil]; omega)
    (fun v3 hv3 c' ig' len' hA hd => by
      obtain ⟨f1, -, -, f4, f5, f6⟩ := chainEnd_facts e.platform a (.ref sa) ((P :: Ps).map (·.toPassT)) (W.setVm v1) (F0 m pc ls (.ref a :: rest)) X1.here.top
      have f7 := chainEnd_cur a (.ref sa) ((P :: Ps).map (·.toPassT)) (W.setVm v1) (F0 m pc ls (.ref a :: rest))
      simp only [chainEnd_setVm _ _ _ (W.setVm v1)] at hA hd ⊢
      revert f1 f4 f5 f6 f7 hA hd
      generalize chainEnd a (.ref sa) (W.setVm v1) (F0 m pc ls (.ref a :: rest)) ((P :: Ps).map (·.toPassT)) = E
      obtain ⟨V, G⟩ := E
      intro f1 f4 f5 f6 f7 hA hd
      dsimp only at f1 f4 f5 f6 f7 hA hd ⊢
      have htop : V.topJava?.isSome = true := hA.top
      have hlen : V.frames.length = V.frames.tail.length + 1 := by
        obtain ⟨g0, h0⟩ := Option.isSome_iff_exists.mp htop
        obtain ⟨tl, h0⟩ := State.topJava?_eq_some.mp h0
        rw [h0]; rfl
      have rm : nq_room e (e.platform.stackLimits (W.setVm v1).me) (V.setVm v3) G 3 56 := by
        refine ⟨htop, f4, ?_, ?_⟩
        · show V.frames.tail.length + 1 + 3 < _
          simp only [List.length_map, List.length_cons, hPs, List.length_nil] at f5
          omega
        · show (stackUse (.java G :: V.frames.tail)).2 + 56 ≤ _
          simp only [List.length_map, List.length_cons, hPs, List.length_nil] at f6
          omega
      have hoV : V.heap[a]? = some (freshCell N.cN N.kN) := by rw [f1]; exact ha
      have hSV : V.heap[T.aS]? = some cS := by rw [f1]; exact hcS
      obtain ⟨v4, hv4, st4⟩ := Steps.throwableInitSColdByV p (V := V.setVm v3) (g := G) (c := c') hA hexec T L Z LZ M LM hv3 (F := fun u => u.setCell a (nq_cell T N (preparedCellV T.toThrowableT (freshCell N.cN N.kN) a u0 sen) u0 W.cur)) (heapOnly_id.thenSetCell a _)
        (fun _ _ => rfl) (u0 := u0) (sen := sen) (self := a) (msg := .ref sa) rfl (cell := freshCell N.cN N.kN) (cF := nq_cell T N (preparedCellV T.toThrowableT (freshCell N.cN N.kN) a u0 sen) u0 W.cur) hoV (by simp) (fun _ hu => heapAt_setCell_self _ (nq_lt hu))
        (by rw [Cell.left_cls, Cell.left_cls]; rfl) (by rw [Cell.left_data, Cell.left_data]; rfl) (by rw [Cell.left_slots, Cell.left_slots]; simp [Cell.setSlot, Cell.withEntry]) tM hd (mSel := N.fill) (methSel := N.methFill) (kSel := N.kN) (fun _ => by simp)
        (pick wSel Y.fill (by decide) hNfill) LN.method LN.fillAbstract LN.cls LN.notInterface (fun v5 hv5 hA5 => by
          obtain ⟨v6, hv6, st6⟩ := nq_fill p (X := (initSInside ((V.setVm v3).setVm v5) G T.toThrowableT Z a (.ref sa)).setCell a (preparedCellV T.toThrowableT (freshCell N.cN N.kN) a u0 sen)) (g := initSJ T.toThrowableT Z a (.ref sa) 24 []) (c := Z.code) (self := a) hA5 hexec T L N LN hv5 htr
            (ready _ (heapAt_setCell_self (s := initSInside ((V.setVm v3).setVm v5) G T.toThrowableT Z a (.ref sa)) _ (nq_lt (u := V) hoV)) ((heapAt_setCell_ne (s := initSInside ((V.setVm v3).setVm v5) G T.toThrowableT Z a (.ref sa)) _ hne.symm).trans hSV))
            (nq_set (nq_over (nq_vm rm v5) _ _ (by simp [operandWords])) a _) (by rw [LZ.bytes]; exact LibCode.Throwable.InitS.at_24)
          refine ⟨v6, hv6, fun t ht => st6 t ?_⟩
          rw [show ((initSInside ((V.setVm v3).setVm v5) G T.toThrowableT Z a (.ref sa)).setCell a (preparedCellV T.toThrowableT (freshCell N.cN N.kN) a u0 sen)).cur = W.cur from f7]
          exact ht) []
        hSV hne hcSu ((hcSk _ (by simp)).trans hu0) ((hcSk _ (by simp)).trans hsen) tC tS tP (nq_full rm (by omega)) (by rw [Y.objLocals]; exact nq_full (nq_over (w := 43) rm _ _ (by simp [operandWords])) (by omega))
      refine ⟨v4, hv4, fun t ht => st4 t ?_⟩
      show Steps p.tables e below (((((V.setVm v4).setCell a _).setCell a _).setCell a _).setTop _) t
      rw [setCell_twice, setCell_twice]
      exact ht)
  rw [show nq_cell T N (preparedCellV T.toThrowableT (freshCell N.cN N.kN) a u0 sen) u0 W.cur = npeBareV T.toThrowableT N.toNpeT (freshCell N.cN N.kN) a u0 sen from npeBareV_eq T.toThrowableT N.toNpeT a u0 sen W.cur rfl rfl] at st2
  -- and thrown
  have hlt : a < ((W.setVm v1).setVm v2).heap.size := nq_lt (u := W) ha
  have X3 := ((((((X1.noted hv2).stored (a := a) ha T.fCause.slot (.ref a)).storedAgain hlt T.fStack.slot u0.v).storedAgain hlt T.fSupp.slot sen.v).storedAgain hlt N.fState.slot (.int 1)).storedAgain hlt T.fStack.slot u0.v).storedAgain hlt T.fMsg.slot (.ref sa)
  obtain ⟨walk, runs, ended, warm, same⟩ := X3.athrowLeaves hexec (g := F0 m (pc + 3) ls (.ref a :: rest)) rfl rfl rfl hout (a := a) (rest := rest) rfl d3
  refine ⟨_, _, st1 _ (fun acts => ?_), runs, ended, warm, same.weaken (fun y hy hl => ?_) (Nat.le_refl _) (Nat.le_refl _), heapAt_setCell_self (s := (W.setVm v1).setVm v2) _ hlt, rfl, hN⟩
  · rw [doInvoke_state]
    exact st2 _ walk
  · have hya : y.base = a := by
      simp at hy
      rcases hy with h | h | h | h | h | h <;> rw [h]
    exact absurd (hya ▸ hl) (Nat.not_lt.mpr hnew)
end NPES
section NPEW
variable {p : Program} {l : Launch} {e : Env} {R : Room} {s : State} {m : MethodId} {args : Array Value} {below : List Frame} {meth : Method} {c : Code} {H : Heap} {locs : List Loc} {cells slots : Nat} {Q : State → Prop}
variable {mc ms : Nat} {free : Addr → Prop} {A0 A1 : Nat → Prop} {H0 : Heap} {a : Array Value} {ls : Array Slot} {st0 rest : List Value}
variable {Qc : Array Value → State → Outcome → State → Prop} {XC : String → State → State → Prop}
def vx_atP (own : String) (ic : Nat) : List Cond := (nq_words own ic).filter vx_no
/-- 'throw new NullPointerException("text")': new; dup; ldc; invokespecial; athrow -/
theorem vx_throwN {cc : ByteArray} {pc : Nat} (hexec : p.tables.exec = Jvm.exec) (hb : c.code = cc) (hl : l.stackTraces = false) {own text : String} {ik is ic mc ms sa : Nat} {A : Nat → Prop}
    (hown : s.vm.findClass own = some m.cls)
    (hk : (Cond.classLink own ik Bundle.nN).before args s = true) (hini : (Cond.initialized Bundle.nN).before args s = true) (hstr : vk_R own is text sa s) (hat : ∀ w ∈ vx_atP own ic, w.before args s = true)
    (hgood : ∀ w ∈ Cond.classLink own ik Bundle.nN :: Cond.initialized Bundle.nN :: vx_atP own ic, vx_ot w = true)
    (hU : vx_Zq Bundle.tN "UNASSIGNED_STACK" Bundle.steD A s s.heap) (hN : vx_Zq Bundle.tN "SUPPRESSED_SENTINEL" Bundle.listD A s s.heap) (hS : va_S A s.heap H locs) (hsize : ls.size = c.maxLocals)
    (d0 : decode cc pc = .ok (.new ik, 3)) (d3 : decode cc (pc + 3) = .ok (.dup, 1)) (d4 : decode cc (pc + 4) = .ok (.ldc is, 2)) (d6 : decode cc (pc + 6) = .ok (.invokespecial ic, 3)) (d9 : decode cc (pc + 9) = .ok (.athrow, 1))
    (hout : ∀ x ∈ c.exceptionTable.toList, covers x (pc + 9) = false)
    (hRframes : 6 < R.frames) (hRlocals : (rest.map fun v => v.category).sum + 96 ≤ R.locals) (hRcells : cells + 1 ≤ R.cells) (hRslots : slots + 8 ≤ R.slots) (hlocks : meth.locks = false)
    (hx : ∀ t : State, s.vm.Alike t.vm → H.size ≤ t.heap.size → (∀ q : Nat, q < H.size → t.heap[q]? = H[q]?) → XC Bundle.nN s t)
    (hf : ∀ z ∈ locs, free z.base) (hc : cells + 1 ≤ mc) (hs : slots + 8 ≤ ms) :
    W p l e R s m args below meth c H locs cells slots (vx_MQ below Qc XC args s mc ms free) (F0 m pc ls rest) := by
  intro T hT X
  have htr : e.platform.stackTraces = false := (show e.platform.stackTraces = l.stackTraces by rw [X.admits.platform]).trans hl
  have Y := vx_rebase X (R' := { frames := R.frames, locals := R.locals, cells := 1, slots := 8 }) (Nat.le_refl _) (Nat.le_refl _) hRcells hRslots
  obtain ⟨s', hA⟩ : ∃ z, z = (T.setVm s.vm).setFrames (.invoking m args :: below) := ⟨_, rfl⟩
  rw [← hA] at Y
  have hvm : s'.vm = s.vm := by rw [hA]; rfl
  have hhp : s'.heap = H := by rw [hA]; exact hT
  have hW0 : s.WarmedH s'.vm := by rw [hvm]; exact State.WarmedH.refl s
  have hat' : ∀ w ∈ vx_atP own ic, w.before args s' = true := fun w hw => vx_ot_at hW0 hvm.symm (hgood w (List.mem_cons_of_mem _ (List.mem_cons_of_mem _ hw))) (hat w hw)
  have hk' : (Cond.classLink own ik Bundle.nN).before args s' = true := vx_ot_at hW0 hvm.symm (hgood _ List.mem_cons_self) hk
  have hini' : (Cond.initialized Bundle.nN).before args s' = true := vx_ot_at hW0 hvm.symm (hgood _ (List.mem_cons_of_mem _ List.mem_cons_self)) hini
  have hU' : vx_Zq Bundle.tN "UNASSIGNED_STACK" Bundle.steD A s' s'.heap := by rw [hhp]; exact vx_Zq.moved hW0.alike (hU.kept hS.2.1)
  have hN' : vx_Zq Bundle.tN "SUPPRESSED_SENTINEL" Bundle.listD A s' s'.heap := by rw [hhp]; exact vx_Zq.moved hW0.alike (hN.kept hS.2.1)
  have h : ∀ w ∈ nq_words own ic, w.before args s' = true := vx_own hat' (vx_isRefq hU'.1) (vx_isRefq hN'.1) hU'.2.word hN'.2.word
  have hown' : s'.vm.findClass own = some m.cls := by rw [hvm]; exact hown
  have hins : (Cond.instantiable Bundle.nN 8).before args s' = true := h _ (by simp [nq_words, nq_rest])
  obtain ⟨vm₁, cX, kX, hfX, hkX, -, -, X₁, st1⟩ := Y.newCold hexec (own := own) (C := Bundle.nN) (index := ik) (n := 8) hown' hk' hins hini'
    (g := F0 m pc ls rest) rfl (by rw [hb]; exact d0) (Nat.le_refl _) (Nat.le_refl _)
  generalize hT1 : (T.setVm vm₁).pushCell { cls := cX, slots := kX.instanceTypes.map defaultValue, vm := .none } = T1 at X₁ st1
  have hcat : (Value.ref T.heap.size).category = 1 := rfl
  have hcellA : T1.heap[T.heap.size]? = some (freshCell cX kX) := by rw [← hT1]; exact State.heap_pushCell_size _ _
  have d3' : decode c.code (pc + 3) = .ok (.dup, 1) := by rw [hb]; exact d3
  have d4' : decode c.code (pc + 4) = .ok (.ldc is, 2) := by rw [hb]; exact d4
  have hstr' : vk_R own is text sa s' := vk_R.warm hW0 hstr
  obtain ⟨U, ce, hsteps, hrun, hend, hW, hsame, hce, hOv, hOc⟩ := nq_throw X₁ hexec htr (own := own) (ic := ic) hown' h (sa := sa) hfX hkX hcellA (by rw [hhp, hT]; exact Nat.le_refl _) hsize (by rw [hb]; exact d6) (by rw [hb]; exact d9) hout hRframes hRlocals hlocks
  obtain ⟨f1, f2⟩ := vx_frame hsame
  rw [hhp] at f1 f2
  have hWs : s.WarmedH U.vm := State.WarmedH.trans hW0 hW
  have hcl : s.vm.findClass Bundle.nN = some ce.cls := by
    have h9 := hOc
    rw [hvm] at h9
    exact h9
  have hall : s.sameButNew ({ U with vm := s.vm } : State) locs mc ms := by
    subst hA
    obtain ⟨e1, e2⟩ := hsame
    rw [State.setFrames_setFrames] at e1
    have h2 : (T.setVm s.vm).sameButNew ({ U with vm := s.vm } : State) [] (0 + 1) (0 + 8) := ⟨e1, e2⟩
    have h3 := X.same.trans h2
    rw [List.append_nil] at h3
    exact h3.mono hc hs
  refine ⟨U, ?_, .threw T.heap.size, hrun, hend, Or.inr ⟨T.heap.size, rfl, Bundle.nN, ce, locs, hx U hWs.alike f1 (fun q hq => f2 q hq (fun z hz => nomatch hz)), hce, hOv, hcl, hWs, hall, hf⟩⟩
  refine st1 _ ?_
  show Steps p.tables e below (T1.setTop { method := m, pc := pc + 3, locals := ls, stack := .ref T.heap.size :: rest, locked := none }) _
  jvm_step X₁.here [X₁.here.top, hexec, d3', Value.category]
  exact X₁.ldcString hexec (own := own) (text := text) (index := is) (a := sa) hown' hstr'.1 hstr'.2
    (g := { method := m, pc := pc + 4, locals := ls, stack := .ref T.heap.size :: .ref T.heap.size :: rest, locked := none }) rfl d4' _ hsteps
end NPEW
