/-! ===== the little machine: cells by number, a layout that stays, a store S of ints by (100 * cell + slot) and index ===== -/
abbrev Sx : Type := Nat → Nat → Int32
abbrev Slt : Type := Option (Option Nat)
abbrev Lc : Type := Nat ⊕ (Nat × List Slt)
abbrev Lay : Type := List Lc
abbrev AL : Type := List (Option Value)
abbrev MK : Type := MethodName × ByteArray × Nat × Option FieldType
def xcl : List vw_C := [(RX0, TX0, 6), (RX2, TX2, 2), (RX4, TX4, 6), (RX5, TX5, 7), (RX6, TX6, 8), (RX7, TX7, 11), (RX9, TX9, 4), (RX10, TX10, 41)]
def TT : List Cond := lw_tbl.filter goodWord
def isNest (w : Cond) : Bool := match w with
  | .fieldLinkNest _ _ _ _ _ _ => true
  | .methodLinkNest _ _ _ _ => true
  | _ => false
/-- links to private members of nest mates: they aren't among the words, and go with the world -/
def NN : List Cond := lw_tbl.filter isNest
def NK (U : State) : Prop := ∀ w ∈ NN, va_Nw w U
theorem NK.warm {s U : State} (hW : s.WarmedH U.vm) (h : NK s) : NK U := by
  intro w hw
  have h1 := h w hw
  have h2 := (List.mem_filter.mp hw).2
  cases w <;> first | exact va_Nw.warmF hW h1 | exact va_Nw.warmM hW h1 | cases h2
theorem NK.same {u U : State} (hv : u.vm = U.vm) (h : NK u) : NK U := by
  intro w hw
  have h1 := h w hw
  have h2 := (List.mem_filter.mp hw).2
  cases w <;> first | exact va_Nw.same rfl hv h1 | cases h2
theorem NK.use {s : State} {args : Array Value} {w : Cond} (h : NK s) (hw : w ∈ NN) : w.before args s = true := by
  have h1 := h w hw
  have h2 := (List.mem_filter.mp hw).2
  cases w <;> first | exact va_Nw.use rfl h1 | cases h2
/-- one int of the store changes -/
def sw (S : Sx) (f i : Nat) (v : Int32) : Sx := fun g j => if g = f then (if j = i then v else S g j) else S g j
def cv (ad : List Nat) (v : Value) : Value := match v with
  | .ref k => .ref (ad.getD k 0)
  | w => w
def slv (S : Sx) (f : Nat) (x : Slt) : Value := match x with
  | none => .int (S f 0)
  | some (some k) => .ref k
  | some none => .ref (S f 0).toNatClampNeg
def ce (cA : ClassId) (ad : List Nat) (S : Sx) (b : Nat) (c : Lc) : va_E := match c with
  | .inl n => .inl (cA, n, .inl (S (100 * b)))
  | .inr o => .inr (o.1, o.2.mapIdx (fun j x => cv ad (slv S (100 * b + j) x)))
def cw (cA : ClassId) (ad : List Nat) (lay : Lay) (S : Sx) : va_W := lay.mapIdx (fun b c => (ad.getD b 0, ce cA ad S b c))
theorem cw_get {cA : ClassId} {ad : List Nat} {lay : Lay} {S : Sx} {b : Nat} {c : Lc} (h : lay[b]? = some c) : (cw cA ad lay S)[b]? = some (ad.getD b 0, ce cA ad S b c) := by
  simp [cw, List.getElem?_mapIdx, h]
def okL (lay : Lay) : Bool := lay.all (fun c => match c with | .inl _ => true | .inr o => decide (o.2.length < 100))
theorem ce_other {cA : ClassId} {ad : List Nat} {S : Sx} {b b' j i : Nat} {c : Lc} {v : Int32} (hc : ∀ o, c = .inr o → o.2.length < 100) (hj : j < 100) (hb : b' ≠ b) : ce cA ad (sw S (100 * b + j) i v) b' c = ce cA ad S b' c := by
  cases c with
  | inl n =>
    simp only [ce]
    congr 4
    funext z
    simp only [sw]
    rw [if_neg (by omega)]
  | inr o =>
    simp only [ce]
    congr 2
    apply List.mapIdx_eq_mapIdx_iff.mpr
    intro z hz
    have h1 := hc o rfl
    have e : slv (sw S (100 * b + j) i v) (100 * b' + z) o.2[z] = slv S (100 * b' + z) o.2[z] := by
      unfold slv sw
      rw [if_neg (by omega)]
    rw [e]
theorem cw_set {cA : ClassId} {ad : List Nat} {lay : Lay} {S : Sx} {b j i : Nat} {c : Lc} {v : Int32} {E : va_E} (hok : okL lay = true) (hj : j < 100) (h : lay[b]? = some c) (hE : E = ce cA ad (sw S (100 * b + j) i v) b c) : (cw cA ad lay S).set b (ad.getD b 0, E) = cw cA ad lay (sw S (100 * b + j) i v) := by
  apply List.ext_getElem?
  intro k
  rw [List.getElem?_set]
  have hlen : (cw cA ad lay S).length = lay.length := by simp [cw]
  have hb : b < lay.length := (List.getElem?_eq_some_iff.mp h).1
  by_cases hk : b = k
  · subst hk
    rw [if_pos rfl, if_pos (by rw [hlen]; exact hb), cw_get h, hE]
  · rw [if_neg hk]
    cases hc : lay[k]? with
    | none =>
      have : lay.length ≤ k := by simpa using hc
      simp [cw, List.getElem?_mapIdx, hc]
    | some ck =>
      rw [cw_get hc, cw_get hc, ce_other _ hj (fun e => hk e.symm)]
      intro o ho
      have := List.all_eq_true.mp hok ck (List.mem_of_getElem? hc)
      rw [ho] at this
      simpa using this
/-- locals by place -/
def LR (ad : List Nat) (ls : AL) (nL : Nat) (lsA : Array Slot) : Prop := lsA.size = nL ∧ lv_wf lsA ∧ ∀ (i : Nat) (v : Value), ls[i]? = some (some v) → v.category = 1 ∧ lsA[i]? = some (.val (cv ad v))
theorem cv_cat (ad : List Nat) (v : Value) : (cv ad v).category = v.category := by cases v <;> rfl
def LRl (ad : List Nat) (ls : AL) : List (Nat × Value) := (ls.mapIdx (fun i o => (i, o))).filterMap (fun q => q.2.map (fun v => (q.1, cv ad v)))
theorem LRl_mem {ad : List Nat} {ls : AL} {q : Nat × Value} : q ∈ LRl ad ls ↔ ∃ v, ls[q.1]? = some (some v) ∧ q.2 = cv ad v := by
  unfold LRl
  rw [List.mem_filterMap]
  constructor
  · rintro ⟨⟨i, o⟩, h1, h2⟩
    obtain ⟨j, hj⟩ := List.mem_iff_getElem?.mp h1
    rw [List.getElem?_mapIdx] at hj
    cases ho : ls[j]? with
    | none => rw [ho] at hj; cases hj
    | some o' =>
      rw [ho] at hj
      obtain ⟨rfl, rfl⟩ : j = i ∧ o' = o := by simpa using hj
      cases o' with
      | none => simp at h2
      | some v =>
        obtain rfl : (j, cv ad v) = q := by simpa using h2
        exact ⟨v, ho, rfl⟩
  · rintro ⟨v, h1, h2⟩
    refine ⟨(q.1, some v), ?_, ?_⟩
    · refine List.mem_iff_getElem?.mpr ⟨q.1, ?_⟩
      rw [List.getElem?_mapIdx, h1]
      rfl
    · cases q with
      | mk a b =>
        simp only at h2
        simp [h2]
theorem LR.has {ad : List Nat} {ls : AL} {nL : Nat} {lsA : Array Slot} (h : LR ad ls nL lsA) : lv_has lsA nL (LRl ad ls) := by
  refine ⟨h.1, h.2.1, fun q hq => ?_⟩
  obtain ⟨v, h1, h2⟩ := LRl_mem.mp hq
  rw [h2]
  exact (h.2.2 _ _ h1).2
theorem LR.set {ad : List Nat} {ls : AL} {nL i : Nat} {lsA lsB : Array Slot} {v : Value} (h : LR ad ls nL lsA) (hc : v.category = 1) (hB : lv_has lsB nL ((i, cv ad v) :: (LRl ad ls).filter (fun q => !(q.1 == i) && !(q.1 + 1 == i && q.2.category == 2)))) : LR ad (ls.set i (some v)) nL lsB := by
  refine ⟨hB.1, hB.2.1, fun j w hj => ?_⟩
  rw [List.getElem?_set] at hj
  by_cases hij : i = j
  · subst hij
    rw [if_pos rfl] at hj
    split at hj
    · obtain rfl : v = w := by simpa using hj
      exact ⟨hc, hB.2.2 (i, cv ad v) List.mem_cons_self⟩
    · cases hj
  · rw [if_neg hij] at hj
    have hw := h.2.2 j w hj
    refine ⟨hw.1, hB.2.2 (j, cv ad w) (List.mem_cons_of_mem _ (List.mem_filter.mpr ⟨LRl_mem.mpr ⟨w, hj, rfl⟩, ?_⟩))⟩
    have : ¬ j = i := fun e => hij e.symm
    simp [this, cv_cat, hw.1]
theorem LR.weaken {ad : List Nat} {ls ls' : AL} {nL : Nat} {lsA : Array Slot} (h : LR ad ls nL lsA) (hs : ∀ (i : Nat) (v : Value), ls'[i]? = some (some v) → ls[i]? = some (some v)) : LR ad ls' nL lsA := ⟨h.1, h.2.1, fun i v hi => h.2.2 i v (hs i v hi)⟩
/-- what stands of a method's code and tables while it runs -/
def Cx (k : MK) (p : Program) (s : State) (m : MethodId) (args : Array Value) (meth : Method) (c : Code) : Prop :=
  p.tables.exec = Jvm.exec ∧ c.code = k.2.1 ∧ meth.sig.returnType = k.2.2.2 ∧ c.maxLocals = k.2.2.1 ∧ s.vm.findClass k.1.cls = some m.cls ∧ (∀ w ∈ TT, w.before args s = true) ∧ meth.locks = false ∧ NK s
/-- the world of a layout -/
def Wd (dC : Nat → ClassId) (dI : Nat → Nat → Nat) (cA : ClassId) (ad : List Nat) (A : Nat → Prop) (s : State) (lay : Lay) (S : Sx) (H : Heap) (locs : List Loc) : Prop :=
  va_K (dC, dI) xcl [(cA, .int)] s ∧ va_P (dC, dI) xcl (cw cA ad lay S) H ∧ va_D A (cw cA ad lay S) ∧ va_S A s.heap H locs ∧ ∀ q, s.heap.size ≤ q → A q
def QQ (dC : Nat → ClassId) (dI : Nat → Nat → Nat) (cA : ClassId) (ad : List Nat) (A : Nat → Prop) (lay : Lay) (Q : Option Value → Sx → Prop) : Array Value → State → Outcome → State → Prop := fun _ st o t =>
  (∃ (r : Option Value) (S : Sx), o = .returned (r.map (cv ad)) ∧ Q r S ∧ va_P (dC, dI) xcl (cw cA ad lay S) t.heap ∧ va_K (dC, dI) xcl [(cA, .int)] t ∧ va_D A (cw cA ad lay S)) ∧ va_F A st t
def rmD (d : Nat) : Room := { frames := d, cells := 0, slots := 0, locals := 40 * d }
/-- within method k at pc, with these locals, stack and store: it comes to an end with Q -/
def AJ (d : Nat) (k : MK) (lay : Lay) (pc : Nat) (ls : AL) (st : List Value) (S : Sx) (Q : Option Value → Sx → Prop) : Prop :=
  ∀ (p : Program) (l : Launch) (e : Env) (s : State) (m : MethodId) (args : Array Value) (below : List Frame) (meth : Method) (c : Code) (dC : Nat → ClassId) (dI : Nat → Nat → Nat) (cA : ClassId) (ad : List Nat) (A : Nat → Prop) (H : Heap) (locs : List Loc) (lsA : Array Slot),
    Cx k p s m args meth c → Wd dC dI cA ad A s lay S H locs → LR ad ls k.2.2.1 lsA →
    W p l e (rmD d) s m args below meth c H locs 0 0 (MQ below (QQ dC dI cA ad A lay Q) args s 0 0 A) (F0 m pc lsA (st.map (cv ad)))
def wsK (k : MK) : List Cond := Cond.code k.1 k.2.1 k.2.2.1 k.2.2.2 :: TT
def PP (dC : Nat → ClassId) (dI : Nat → Nat → Nat) (cA : ClassId) (ad : List Nat) (lay : Lay) (S : Sx) (sz : Nat) : State → Prop := fun U => U.heap.size = sz ∧ va_P (dC, dI) xcl (cw cA ad lay S) U.heap ∧ va_K (dC, dI) xcl [(cA, .int)] U ∧ va_D (fun _ => True) (cw cA ad lay S) ∧ NK U
/-- method k, called with av over the layout and the store: it returns with Q -/
def CC (d : Nat) (k : MK) (lay : Lay) (av : List Value) (S : Sx) (Q : Option Value → Sx → Prop) : Prop :=
  ∀ (l : Launch) (dC : Nat → ClassId) (dI : Nat → Nat → Nat) (cA : ClassId) (ad : List Nat) (sz : Nat),
    Met l k.1 (wsK k) (rmD d) (va_Pc (av.map (cv ad)) (PP dC dI cA ad lay S sz)) (QQ dC dI cA ad (va_A (cw cA ad lay S) sz) lay Q) 0 0 (va_A (cw cA ad lay S) sz)
theorem lv_args_mem {ad : List Nat} : ∀ (vs : List Value) (i j : Nat) (v : Value), (∀ w ∈ vs, w.category = 1) → vs[j]? = some v → (i + j, cv ad v) ∈ lv_args i (vs.map (cv ad)) := by
  intro vs
  induction vs with
  | nil => intro i j v _ h; simp at h
  | cons a t ih =>
    intro i j v hc h
    have ha : (cv ad a).category = 1 := by rw [cv_cat]; exact hc a List.mem_cons_self
    simp only [List.map_cons, lv_args]
    rw [if_neg (by omega)]
    cases j with
    | zero =>
      obtain rfl : a = v := by simpa using h
      exact List.mem_cons_self
    | succ j =>
      have := ih (i + 1) j v (fun w hw => hc w (List.mem_cons_of_mem _ hw)) (by simpa using h)
      rw [show i + (j + 1) = i + 1 + j by omega]
      exact List.mem_cons_of_mem _ this
theorem lg_sl_len {ad : List Nat} : ∀ (vs : List Value), (∀ w ∈ vs, w.category = 1) → (lg_sl (vs.map (cv ad))).length = vs.length := by
  intro vs
  induction vs with
  | nil => intro _; rfl
  | cons a t ih =>
    intro hc
    have ha : (cv ad a).category = 1 := by rw [cv_cat]; exact hc a List.mem_cons_self
    have := ih (fun w hw => hc w (List.mem_cons_of_mem _ hw))
    simp only [lg_sl] at this ⊢
    simp only [List.map_cons, List.flatMap_cons, List.length_append, this]
    rw [if_neg (by omega)]
    simp
    omega
theorem cc_intro {d : Nat} {k : MK} {lay : Lay} {av : List Value} {S : Sx} {Q : Option Value → Sx → Prop} (ls : AL) (hy : plainName k.1.cls = true) (hcat : ∀ w ∈ av, w.category = 1) (hlen : av.length ≤ k.2.2.1) (hls : ∀ (i : Nat) (v : Value), ls[i]? = some (some v) → av[i]? = some v)
    (kk : AJ d k lay 0 ls [] S Q) : CC d k lay av S Q := by
  intro l dC dI cA ad sz
  refine Met.ofW (cc := k.2.1) (maxL := k.2.2.1) (ret := k.2.2.2) hy rfl ?_
  intro p e s m args below meth c s₁ B hml hv
  obtain ⟨rfl, hsz, hP, hK, hD0, hN⟩ := hv
  have hts := atoms_spec (ws := wsK k) B.pre
  have hown : s.vm.findClass k.1.cls = some m.cls := findClass_of_methodNamed B.named
  subst hsz
  rw [lg_entry_eq]
  have hl := lv_entry (av.map (cv ad)) (n := k.2.2.1) (by rw [lg_sl_len av hcat]; exact hlen)
  refine kk p l e s m _ below meth c dC dI cA ad _ _ [] _ ⟨B.exec, B.bytes, B.returns, hml, hown, fun w hw => hts w (List.mem_cons_of_mem _ hw), B.notSynchronized, hN⟩ ⟨hK, hP, hD0.self, va_S.rf, fun q hq => Or.inr hq⟩ ⟨hl.1, hl.2.1, fun i v hi => ?_⟩
  have h1 := hls i v hi
  refine ⟨hcat v (List.mem_of_getElem? h1), ?_⟩
  have := hl.2.2 _ (lv_args_mem av 0 i v hcat h1)
  simpa using this
theorem cc_mono {d : Nat} {k : MK} {lay : Lay} {av : List Value} {S : Sx} {Q Q' : Option Value → Sx → Prop} (h : CC d k lay av S Q) (hq : ∀ r S', Q r S' → Q' r S') : CC d k lay av S Q' := by
  intro l dC dI cA ad sz
  have := h l dC dI cA ad sz
  unfold Met at this ⊢
  intro p e ha hc hk s m args below h1 h2 h3 h4
  obtain ⟨kk, o, a1, a2, a3, ⟨⟨r, S', b1, b2, b3⟩, b4⟩, b5⟩ := this p e ha hc hk s m args below h1 h2 h3 h4
  exact ⟨kk, o, a1, a2, a3, ⟨⟨r, S', b1, hq _ _ b2, b3⟩, b4⟩, b5⟩
/-- a field's place: what the tables say of an access -/
def FL (own : String) (idx ci j : Nat) : Prop := ∃ (C : String) (T : u_T) (N : Nat), xcl[ci]? = some (C, T, N) ∧ j < N ∧ (∀ w ∈ u_ws C T N, w ∈ TT) ∧ (Cond.fieldLink own idx (T j).1 (T j).2.1 (T j).2.2.1 ∈ TT ∨ ∃ host, Cond.fieldLinkNest own idx (T j).1 (T j).2.1 (T j).2.2.1 host ∈ NN)
def FP (own : String) (idx ci j : Nat) (ty : FieldType) : Prop := ∃ (C : String) (T : u_T) (N : Nat) (ty0 : Nat → FieldType), xcl[ci]? = some (C, T, N) ∧ j < N ∧ (∀ w ∈ u_ws C T N, w ∈ TT) ∧ Cond.fieldLink own idx (T j).1 (T j).2.1 (T j).2.2.1 ∈ TT ∧ (∀ k, k < N → parseFieldDescriptor (T k).2.2.1 = some (ty0 k)) ∧ (∀ a, a < N → ∀ b, b < N → a ≠ b → (T a).2.1 ≠ (T b).2.1) ∧ (T j).2.2.2 = false ∧ parseFieldDescriptor (T j).2.2.1 = some ty
def MKok (k' : MK) (n : Nat) : Prop := Cond.initialized k'.1.cls ∈ TT ∧ Cond.code k'.1 k'.2.1 k'.2.2.1 k'.2.2.2 ∈ TT ∧ (k'.1.cls ≠ "java/lang/invoke/MethodHandle" ∧ k'.1.cls ≠ "java/lang/invoke/VarHandle" ∧ (parseMethodDescriptor k'.1.desc).map (fun d => d.parameters.length) = some n) ∧ k'.2.2.1 ≤ 21
def CVok (own : String) (idx : Nat) (k' : MK) : Prop := Cond.methodLink own idx k'.1 ∈ TT ∧ Cond.instanceMethod k'.1 ∈ TT ∧ Cond.selects k'.1.cls k'.1 k'.1 ∈ TT
def CSok (own : String) (idx : Nat) (k' : MK) : Prop := (Cond.methodLink own idx k'.1 ∈ TT ∨ ∃ host, Cond.methodLinkNest own idx k'.1 host ∈ NN) ∧ Cond.static k'.1 ∈ TT
