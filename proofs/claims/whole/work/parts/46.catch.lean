/-! Catching in the method that called. A row of a table whose class isn't resolved yet is searched just as the same row resolved: that is the whole idea; the library's laws for resolved rows do the rest. -/
section CATCH
/-- one row: to search it with its class unresolved is to search it with its class noted -/
theorem kc_row {Q : Handler → Pre} {E : CtlPost} {e : Env} {b : Bool} {w : List Action} {u : State} {f : JFrame} {q : Addr} {r : ExceptionTableEntry} {rs : List ExceptionTableEntry} {k : ClassId}
    (hin : covers r f.pc = true) (hty : r.catchType ≠ 0) (hL : u.vm.ClassLinks e.platform f.method.cls r.catchType k) :
    wp (findHandler.go f q (r :: rs)) Q E e b w u ↔ wp (findHandler.go f q (r :: rs)) Q E e b w (u.setVm (u.vm.noted f.method.cls r.catchType (.cls k))) := by
  have cold := (resolveClass_links e.toSetting hL).op (op := VmOp.resolveClass f.method.cls r.catchType) rfl
  obtain ⟨dk, hdk, hres⟩ := hL.ready
  have warm := resolveClass_memo e hdk hres
  have hin' : (decide (r.startPc ≤ f.pc) && decide (f.pc < r.endPc)) = true := hin
  simp [findHandler.go, hin', hty, cold.1, cold.2, warm.1, warm.2, VmOp.dirties, VmOp.acts, State.setVm_twice]
/-- the rows lead what is thrown at pc, an E, to the handler h: a row is passed where it doesn't cover pc, or names a class of which E isn't -/
def kc_rows (own E : String) (args : Array Value) (s : State) (pc h : Nat) : List ExceptionTableEntry → Prop
  | [] => False
  | r :: rs => (covers r pc = false ∧ kc_rows own E args s pc h rs) ∨
      (covers r pc = true ∧ r.catchType ≠ 0 ∧ ∃ nm : String, (Cond.classLink own r.catchType nm).before args s = true ∧
        (((Cond.castable E nm).before args s = true ∧ h = r.handlerPc) ∨ (va_Nc E nm s ∧ kc_rows own E args s pc h rs)))
/-- the search of the whole table: it finds h, and leaves warmed tables -/
theorem kc_table {own E : String} {args : Array Value} {e : Env} {s : State} {f : JFrame} {q : Addr} {ce : Cell} {h : Nat} (hpl : e.platform.magicAccessors = ({} : Platform).magicAccessors)
    (hown : s.vm.findClass own = some f.method.cls) (hE : s.vm.findClass E = some ce.cls) (hst : ce.vm = .none) :
    ∀ (rs : List ExceptionTableEntry) (u : State), kc_rows own E args s f.pc h rs → s.WarmedH u.vm → u.heap[q]? = some ce →
      ∃ v : Vm, s.WarmedH v ∧ ∀ (Q : Handler → Pre) (F : CtlPost) (b : Bool) (w : List Action), wp (findHandler.go f q rs) Q F e b w u ↔ Q (.found h) b w (u.setVm v)
  | [], _, hl, _, _ => hl.elim
  | r :: rs, u, .inl ⟨hc, hl⟩, hw, hq => by
    obtain ⟨v, hv, go⟩ := kc_table hpl hown hE hst rs u hl hw hq
    exact ⟨v, hv, fun Q F b w => (Jvm.W.findHandler_go_skip hc).trans (go Q F b w)⟩
  | r :: rs, u, .inr ⟨hc, ht, nm, hlink, hd⟩, hw, hq => by
    obtain ⟨k, hk, hL⟩ := Cond.classLink_spec hown hlink e.platform hpl
    obtain ⟨dk, -, -, -, hdk, -, -, -, -, -, -, hnote⟩ := hL.here
    have hw' : s.WarmedH (u.vm.noted f.method.cls r.catchType (.cls k)) := hw.noted hdk hnote (State.rightAt_cls hL)
    have there : ∀ {n : String} {i : ClassId}, s.vm.findClass n = some i → ∃ kk, (u.vm.noted f.method.cls r.catchType (.cls k)).classes[i]? = some kk := fun hf => by
      obtain ⟨kk, h1⟩ := Vm.classAt_of_findClass hf
      obtain ⟨kk', h2, -⟩ := hw'.alike.2.2 _ _ h1
      exact ⟨kk', h2⟩
    have one : ∀ (Q : Handler → Pre) (F : CtlPost) (b : Bool) (w : List Action), wp (findHandler.go f q (r :: rs)) Q F e b w u ↔
        if s.vm.assignable ce.cls k = true then Q (.found r.handlerPc) b w (u.setVm (u.vm.noted f.method.cls r.catchType (.cls k)))
        else wp (findHandler.go f q rs) Q F e b w (u.setVm (u.vm.noted f.method.cls r.catchType (.cls k))) := fun Q F b w => by
      rw [kc_row hc ht (hw.classLinks hL), Jvm.W.findHandler_go_class (s := u.setVm (u.vm.noted f.method.cls r.catchType (.cls k))) (cell := ce) hc ht (hw.classLinks hL).ready hq (fun z hz => by rw [hst] at hz; cases hz) (there hE) (there hk)]
      show (if (u.vm.noted f.method.cls r.catchType (.cls k)).assignable ce.cls k = true then _ else _) ↔ _
      rw [hw'.alike.assignable]
    rcases hd with ⟨hcast, rfl⟩ | ⟨⟨i, j, hi, hj, hno⟩, hl⟩
    · obtain ⟨i, j, hi, hj, hyes⟩ := Cond.castable_spec hcast
      cases hi.symm.trans hE
      cases hj.symm.trans hk
      exact ⟨_, hw', fun Q F b w => (one Q F b w).trans (by rw [if_pos hyes])⟩
    · cases hi.symm.trans hE
      cases hj.symm.trans hk
      obtain ⟨v, hv, go⟩ := kc_table hpl hown hE hst rs (u.setVm (u.vm.noted f.method.cls r.catchType (.cls k))) hl hw' hq
      exact ⟨v, hv, fun Q F b w => (one Q F b w).trans (by rw [if_neg (by rw [hno]; decide)]; exact go Q F b w)⟩
/-- the machine's step there -/
theorem kc_step {e : Env} {u : State} {f : JFrame} {q : Addr} {below : List Frame} {h : Nat} {v : Vm}
    (hf : ∀ (Q : Handler → Pre) (F : CtlPost) (b : Bool) (w : List Action), wp (findHandler f q) Q F e b w u ↔ Q (.found h) b w (u.setVm v)) :
    (stepThrowing e u q (.java f :: below)).1 = (u.setVm v).setFrames (.java { f with pc := h, stack := [.ref q] } :: below) := by
  rw [stepThrowing, searchFrame, vmDo]
  split <;> rename_i hok <;> obtain ⟨_, hres, -⟩ := Sem.eq_ok_of hok (a := Handler.found h) (s' := u.setVm v) (acts' := []) (by simp [hf])
  · cases hres
    rfl
  · cases hres
variable {p : Program} {l : Launch} {e : Env} {R : Room} {s : State} {m : MethodId} {args : Array Value} {below : List Frame} {meth : Method} {c : Code} {H : Heap} {locs : List Loc} {cells slots : Nat} {Q : State → Prop}
/-- what a callee threw goes on at the handler to which this method's rows lead it -/
theorem kc_catch {own E : String} {ce : Cell} {q : Addr} {pc h : Nat} {ls : Array Slot} {rest : List Value} (hown : s.vm.findClass own = some m.cls) (hrows : kc_rows own E args s pc h c.exceptionTable.toList)
    (hq : H[q]? = some ce) (hst : ce.vm = .none) (hE : s.vm.findClass E = some ce.cls)
    (kk : W p l e R s m args below meth c H locs cells slots Q (F0 m h ls [.ref q])) : vx_W p l e R s m args below meth c H locs cells slots Q (F0 m pc ls rest) q := by
  intro T hT X
  obtain ⟨v, hv, go⟩ := kc_table (e := e) (f := F0 m pc ls rest) (q := q) (by rw [X.admits.platform]) hown hE hst c.exceptionTable.toList ((T.setTop (F0 m pc ls rest)).pushFrame (.throwing q)) hrows X.warmed (by rw [← hT] at hq; exact hq)
  obtain ⟨t, walk, end_⟩ := kk (T.setVm v) hT (X.noted hv)
  refine ⟨t, ?_, end_⟩
  obtain ⟨runs, inside⟩ := X.here.throwing (g := F0 m pc ls rest) q
  refine Steps.head runs inside ?_
  rw [stepThread_throwing (frames_entered X.here.top _), kc_step (fun Q F b w => (Jvm.W.findHandler_eq (meth := meth) (code := c) X.method' X.code).trans (go Q F b w))]
  obtain ⟨top, htop⟩ := Option.isSome_iff_exists.mp X.here.top
  obtain ⟨under, hunder⟩ := State.topJava?_eq_some.mp htop
  rw [State.setTop_of_frames _ (show (T.setVm v).frames = .java top :: under from hunder)] at walk
  have same : (((T.setTop (F0 m pc ls rest)).pushFrame (.throwing q)).setVm v).setFrames (.java (F0 m h ls [.ref q]) :: under) = (T.setVm v).setFrames (.java (F0 m h ls [.ref q]) :: under) := by
    rw [State.setTop_of_frames _ hunder, State.pushFrame]
    show (((T.setVm v).setFrames _).setFrames _).setFrames _ = _
    rw [State.setFrames_setFrames, State.setFrames_setFrames]
  rw [hunder]
  show Steps p.tables e below ((((T.setTop (F0 m pc ls rest)).pushFrame (.throwing q)).setVm v).setFrames (.java (F0 m h ls [.ref q]) :: under)) t
  rw [same]
  exact walk
end CATCH
