/-! THE CLAIM OUT OF ONE WALK OF THE LAW'S BODY. Your part is whole_start (and what it stands on); all else here is the same for every law, but numbers. -/
def R_law : String := "MarkedRunsLaw"
def lw_P (b : Addr) (xs : List Int32) (args : Array Value) (s : State) : Prop := args = #[.ref b] ∧ s.IntsAt b xs ∧ xs.length ≤ 2560 ∧ (Jvm.Cond.and given_1 narrow_1).before args s = true
def lw_Q (_ : Array Value) (s : State) (o : Outcome) (t : State) : Prop := o = .returned (some (.int 1)) ∧ Framed s o t [] 3142 130104
def lw_Z (below : List Frame) (a : Array Value) (s : State) : State → Prop := fun t => ∃ o, t.status = .running ∧ Ended t below o ∧ lw_Q a s o t
/-- the law's own end, with 1 on the stack, nothing written that was there before, its room as the claim has it -/
theorem lw_ret {p : Program} {l : Launch} {e : Env} {s : State} {m : MethodId} {below : List Frame} {meth : Method} {c : Code} {b : Nat} (hx : p.tables.exec = Jvm.exec) (hb : c.code = code) (hr : meth.sig.returnType = ret) (hlocks : meth.locks = false) {pc : Nat} {H : Heap} {ls : Array Slot} (hdg : decode code pc = .ok (.ireturn, 1)) : W p l e room_1 s m #[Value.ref b] below meth c H [] 3142 130104 (lw_Z below #[Value.ref b] s) (F0 m pc ls [.int 1]) := by
  intro T hT X
  obtain ⟨fs, hret, hrun, hended, hW, hframe⟩ := X.leave (v := some (.int 1)) (hlocks := hlocks) (fun h => by rw [hr] at h; cases h)
  have hmeth' : T.vm.method? m = some meth := X.method'
  refine ⟨T.setFrames fs, ?_, .returned (some (.int 1)), hrun, hended, rfl, ⟨_, rfl⟩, hW, hframe⟩
  jvm_step X.here [X.here.top, hx, hb, hdg, hmeth', hr, ret, narrow_b1]
  (try refine ⟨rfl, ?_⟩); (try refine ⟨rfl, ?_⟩)
  first | (intro acts; rw [hret _ acts rfl rfl rfl]) | rw [hret _ _ rfl rfl rfl]
  exact Steps.refl _
/-- what holds at the law's entry: the machine, the code, the tables' words (any of lw_tbl by 'hts w (by decide +kernel)'), the script of L ints xs at the cell b, what the Statement gives of the start (any of its parts by flat_of_before) -/
def lw_At (p : Program) (s : State) (m : MethodId) (meth : Method) (c : Code) (b L : Nat) (xs : Nat → Int32) : Prop :=
  p.tables.exec = Jvm.exec ∧ c.code = code ∧ meth.sig.returnType = ret ∧ c.maxLocals = 7 ∧ s.vm.findClass R_law = some m.cls ∧ (∀ w ∈ lw_tbl, w.before #[Value.ref b] s = true) ∧ va_X b L xs s s.heap ∧ b < s.heap.size ∧ meth.locks = false ∧ (Jvm.Cond.and given_1 narrow_1).before #[Value.ref b] s = true
/-- the law's own cells: what is made behind its entry -/
abbrev lA (s : State) : Nat → Prop := fun q => s.heap.size ≤ q
/-- the addresses of the two objects' cells and of the array -/
def LF (s : State) (aX aM : List Nat) (o : Nat) : Prop := (∀ i, i < 43 → s.heap.size ≤ aX.getD i 0) ∧ (∀ i, i < 43 → ∀ j, j < 43 → aX.getD i 0 = aX.getD j 0 → i = j) ∧ (∀ i, i < 23 → s.heap.size ≤ aM.getD i 0) ∧ (∀ i, i < 23 → ∀ j, j < 23 → aM.getD i 0 = aM.getD j 0 → i = j) ∧ s.heap.size ≤ o ∧ (∀ i, i < 43 → ∀ j, j < 23 → aX.getD i 0 ≠ aM.getD j 0) ∧ (∀ i, i < 43 → aX.getD i 0 ≠ o) ∧ (∀ i, i < 23 → aM.getD i 0 ≠ o)
def LC (p : Program) (l : Launch) (s : State) (m : MethodId) (meth : Method) (c : Code) (b L : Nat) (xs : Nat → Int32) (dC : Nat → ClassId) (dI : Nat → Nat → Nat) (cA cL : ClassId) (aX aM : List Nat) (o : Nat) : Prop :=
  lw_At p s m meth c b L xs ∧ l.stackTraces = false ∧ va_K (dC, dI) xcl [(cA, .int), (cL, .long)] s ∧ NK s ∧ TS (lA s) s ∧ va_Nc eAI Bundle.nN s ∧ LF s aX aM o ∧ L ≤ 2560
def LI (dC : Nat → ClassId) (dI : Nat → Nat → Nat) (cA cL : ClassId) (aX aM : List Nat) (o : Nat) (s : State) (S M : Sx) (f : Nat → Int64) (H : Heap) (locs : List Loc) : Prop :=
  va_P (dC, dI) xcl (cw cA aX layX S) H ∧ va_P (dC, dI) xcl (cw cA aM layM M) H ∧ va_P (dC, dI) xcl [oE o cL f] H ∧ va_S (lA s) s.heap H locs
theorem cw_D {cA : ClassId} {ad : List Nat} {lay : Lay} {S : Sx} {A : Nat → Prop} (h1 : ∀ i, i < lay.length → A (ad.getD i 0)) (h2 : ∀ i, i < lay.length → ∀ j, j < lay.length → ad.getD i 0 = ad.getD j 0 → i = j) : va_D A (cw cA ad lay S) := by
  refine ⟨fun i j p q hi hj e => ?_, fun k q hk => ?_⟩
  · obtain ⟨a1, a2⟩ := cw_at hi
    obtain ⟨b1, b2⟩ := cw_at hj
    exact h2 i a1 j b1 (by rw [← a2, ← b2]; exact e)
  · obtain ⟨a1, a2⟩ := cw_at hk
    rw [a2]
    exact h1 k a1
/-- cells that lie apart stay as they are -/
theorem cw_keep {D : va_G} {cA : ClassId} {ad : List Nat} {lay : Lay} {S : Sx} {H H1 : Heap} {B : Nat → Prop} (hP : va_P D xcl (cw cA ad lay S) H) (hk : ∀ z : Nat, z < H.size → ¬ B z → H1[z]? = H[z]?) (hB : ∀ i, i < lay.length → ¬ B (ad.getD i 0)) : va_P D xcl (cw cA ad lay S) H1 := by
  refine hP.kept (fun k q hq => hk _ (vx_lt hP hq) ?_)
  obtain ⟨a1, a2⟩ := cw_at hq
  rw [a2]
  exact hB k a1
theorem oE_keep {D : va_G} {cL : ClassId} {o : Nat} {f : Nat → Int64} {H H1 : Heap} {B : Nat → Prop} (hP : va_P D xcl [oE o cL f] H) (hk : ∀ z : Nat, z < H.size → ¬ B z → H1[z]? = H[z]?) (hB : ¬ B o) : va_P D xcl [oE o cL f] H1 := by
  refine hP.kept (fun k q hq => ?_)
  have hl := vx_lt hP hq
  cases k with
  | zero =>
    obtain rfl : oE o cL f = q := by simpa using hq
    exact hk o hl hB
  | succ k => simp at hq
theorem cw_A {cA : ClassId} {ad : List Nat} {lay : Lay} {S : Sx} {sz z : Nat} (h : va_A (cw cA ad lay S) sz z) : (∃ i, i < lay.length ∧ z = ad.getD i 0) ∨ sz ≤ z := by
  rcases h with ⟨k, e, hk⟩ | h
  · obtain ⟨a1, a2⟩ := cw_at hk
    exact Or.inl ⟨k, a1, a2⟩
  · exact Or.inr h
theorem cw_lt {D : va_G} {cA : ClassId} {ad : List Nat} {lay : Lay} {S : Sx} {H : Heap} (hP : va_P D xcl (cw cA ad lay S) H) {i : Nat} (hi : i < lay.length) : ad.getD i 0 < H.size := vx_lt hP (cw_get (List.getElem?_eq_getElem hi))
theorem TT_of {s : State} {args : Array Value} (h : ∀ w ∈ lw_tbl, w.before args s = true) : ∀ w ∈ TT, w.before args s = true := fun w hw => h w (List.mem_filter.mp hw).1
section LAWC
variable {p : Program} {l : Launch} {e : Env} {s : State} {m : MethodId} {below : List Frame} {meth : Method} {c : Code} {b L : Nat} {xs : Nat → Int32} {dC : Nat → ClassId} {dI : Nat → Nat → Nat} {cA cL : ClassId} {aX aM : List Nat} {o : Nat} {S M : Sx} {f : Nat → Int64} {H : Heap} {locs : List Loc} {lsA : Array Slot} {cells slots pc : Nat} {Z : State → Prop} {rest : List Value}
theorem lw_cX {k : MK} {as : List Value} {Q : Option Value → Sx → Prop} {idx n : Nat} (hLC : LC p l s m meth c b L xs dC dI cA cL aX aM o) (hM : CC 12 k layX (.ref 0 :: as) S Q) (F : CVok RL idx k) (G : MKok k n) (hc : k.1.cls = RX9) (hn : as.length = n) (hd : decode code pc = .ok (.invokevirtual idx, 3)) (hr : (rest.map (fun v => v.category)).sum ≤ 8) (hsz : lsA.size = 7) (hI : LI dC dI cA cL aX aM o s S M f H locs) (h1 : cells ≤ 3142) (h2 : slots ≤ 130104)
    (kk : ∀ (r : Option Value) (S' : Sx) (H1 : Heap) (locs1 : List Loc), Q r S' → LI dC dI cA cL aX aM o s S' M f H1 locs1 → W p l e room_1 s m #[.ref b] below meth c H1 locs1 cells slots Z (F0 m (pc + 3) lsA ((r.map (cv aX)).toList ++ rest))) :
    W p l e room_1 s m #[.ref b] below meth c H locs cells slots Z (F0 m pc lsA ((as.map (cv aX)).reverse ++ .ref (aX.getD 0 0) :: rest)) := by
  obtain ⟨⟨hx, hb, hret, hml, hown, hts0, hXs, hbl, hlk, hgv⟩, htr, hK, hN, hTS, hNc, hLF, hL⟩ := hLC
  have hts := TT_of hts0
  have hKi : va_K (dC, dI) xcl [(cA, .int)] s := hK.sub [0] rfl
  have hF : ∀ q, va_A (cw cA aX layX S) H.size q → lA s q := fun q hq => by
    rcases cw_A hq with ⟨i, h1, rfl⟩ | h1
    · exact hLF.1 i h1
    · exact Nat.le_trans hI.2.2.2.1 h1
  have hlo : 8 + (k.2.2.1 + 11) + 40 * 12 ≤ 10826 := by
    have := G.2.2.2
    omega
  refine w_cc (ad := aX) (lay := layX) (S := S) (A := lA s) (va_runV (As := as.map (cv aX)) (b := aX.getD 0 0) (n := n) (C := k.1.cls) ⟨hx, hb, hml, hown, hts⟩ (hM l dC dI cA aX H.size) ⟨callB_of n hts (wsK_good G.2.1) rfl rfl rfl (hts _ G.1) (hts _ F.1) G.2.2.1 ⟨by exact Nat.le_of_ble_eq_true rfl, hlo⟩, hts _ F.2.1, hts _ F.2.2⟩ ⟨PP.blind, by rw [hc]; exact va_recv hKi hI.1 (ci := 6) (q0 := 0) (q := (RX9, TX9, 4)) rfl (cw_get lX_0), fun U hU hw => ⟨rfl, by rw [hU], by rw [hU]; exact hI.1, va_K.moved hw.alike hKi, cw_D (fun _ _ => trivial) hLF.2.1, hN.warm hw⟩⟩ rfl (by rw [List.length_map]; exact hn) hsz rfl (lv_room hr) hd ⟨h1, h2⟩) hI.2.2.2 hF (fun r S' H1 locs1 hQ hP1 hD1 hz hk hS1 => kk r S' H1 locs1 hQ ?_)
  have hap : ∀ z, va_A (cw cA aX layX S) H.size z → (∃ i, i < 43 ∧ z = aX.getD i 0) ∨ H.size ≤ z := fun z hz => cw_A hz
  have ho : va_P (dC, dI) xcl [oE o cL f] H1 := oE_keep hI.2.2.1 hk (fun hz9 => by
    rcases hap _ hz9 with ⟨i, h1, e1⟩ | h1
    · exact hLF.2.2.2.2.2.2.1 i h1 e1.symm
    · exact absurd (vx_lt hI.2.2.1 (k := 0) rfl) (Nat.not_lt.mpr h1))
  have hoth := cw_keep hI.2.1 hk (fun k hk9 hz9 => by
    rcases hap _ hz9 with ⟨i, h1, e1⟩ | h1
    · exact hLF.2.2.2.2.2.1 i h1 k hk9 e1.symm
    · exact absurd (cw_lt hI.2.1 hk9) (Nat.not_lt.mpr h1))
  exact ⟨hP1, hoth, ho, hS1⟩
theorem lw_cM {k : MK} {as : List Value} {Q : Option Value → Sx → Prop} {idx n : Nat} (hLC : LC p l s m meth c b L xs dC dI cA cL aX aM o) (hM : CC 12 k layM (.ref 0 :: as) M Q) (F : CVok RL idx k) (G : MKok k n) (hc : k.1.cls = RX10) (hn : as.length = n) (hd : decode code pc = .ok (.invokevirtual idx, 3)) (hr : (rest.map (fun v => v.category)).sum ≤ 8) (hsz : lsA.size = 7) (hI : LI dC dI cA cL aX aM o s S M f H locs) (h1 : cells ≤ 3142) (h2 : slots ≤ 130104)
    (kk : ∀ (r : Option Value) (M' : Sx) (H1 : Heap) (locs1 : List Loc), Q r M' → LI dC dI cA cL aX aM o s S M' f H1 locs1 → W p l e room_1 s m #[.ref b] below meth c H1 locs1 cells slots Z (F0 m (pc + 3) lsA ((r.map (cv aM)).toList ++ rest))) :
    W p l e room_1 s m #[.ref b] below meth c H locs cells slots Z (F0 m pc lsA ((as.map (cv aM)).reverse ++ .ref (aM.getD 0 0) :: rest)) := by
  obtain ⟨⟨hx, hb, hret, hml, hown, hts0, hXs, hbl, hlk, hgv⟩, htr, hK, hN, hTS, hNc, hLF, hL⟩ := hLC
  have hts := TT_of hts0
  have hKi : va_K (dC, dI) xcl [(cA, .int)] s := hK.sub [0] rfl
  have hF : ∀ q, va_A (cw cA aM layM M) H.size q → lA s q := fun q hq => by
    rcases cw_A hq with ⟨i, h1, rfl⟩ | h1
    · exact hLF.2.2.1 i h1
    · exact Nat.le_trans hI.2.2.2.1 h1
  have hlo : 8 + (k.2.2.1 + 11) + 40 * 12 ≤ 10826 := by
    have := G.2.2.2
    omega
  refine w_cc (ad := aM) (lay := layM) (S := M) (A := lA s) (va_runV (As := as.map (cv aM)) (b := aM.getD 0 0) (n := n) (C := k.1.cls) ⟨hx, hb, hml, hown, hts⟩ (hM l dC dI cA aM H.size) ⟨callB_of n hts (wsK_good G.2.1) rfl rfl rfl (hts _ G.1) (hts _ F.1) G.2.2.1 ⟨by exact Nat.le_of_ble_eq_true rfl, hlo⟩, hts _ F.2.1, hts _ F.2.2⟩ ⟨PP.blind, by rw [hc]; exact va_recv hKi hI.2.1 (ci := 7) (q0 := 0) (q := (RX10, TX10, 41)) rfl (cw_get lM_0), fun U hU hw => ⟨rfl, by rw [hU], by rw [hU]; exact hI.2.1, va_K.moved hw.alike hKi, cw_D (fun _ _ => trivial) hLF.2.2.2.1, hN.warm hw⟩⟩ rfl (by rw [List.length_map]; exact hn) hsz rfl (lv_room hr) hd ⟨h1, h2⟩) hI.2.2.2 hF (fun r M' H1 locs1 hQ hP1 hD1 hz hk hS1 => kk r M' H1 locs1 hQ ?_)
  have hap : ∀ z, va_A (cw cA aM layM M) H.size z → (∃ i, i < 23 ∧ z = aM.getD i 0) ∨ H.size ≤ z := fun z hz => cw_A hz
  have ho : va_P (dC, dI) xcl [oE o cL f] H1 := oE_keep hI.2.2.1 hk (fun hz9 => by
    rcases hap _ hz9 with ⟨i, h1, e1⟩ | h1
    · exact hLF.2.2.2.2.2.2.2 i h1 e1.symm
    · exact absurd (vx_lt hI.2.2.1 (k := 0) rfl) (Nat.not_lt.mpr h1))
  have hoth := cw_keep hI.1 hk (fun k hk9 hz9 => by
    rcases hap _ hz9 with ⟨i, h1, e1⟩ | h1
    · exact hLF.2.2.2.2.2.1 k hk9 i h1 e1
    · exact absurd (cw_lt hI.1 hk9) (Nat.not_lt.mpr h1))
  exact ⟨hoth, hP1, ho, hS1⟩
/-- the law's item, called -/
theorem lw_cI {r i : Int32} {sg so : List Nat} (hLat : LatW S sg so) (hwf : wfR (plS sg S)) (hLC : LC p l s m meth c b L xs dC dI cA cL aX aM o) (hd : decode code pc = .ok (.invokestatic 61, 3)) (hsz : lsA.size = 7) (hI : LI dC dI cA cL aX aM o s S M f H locs) (h1 : cells + 1 ≤ 3142) (h2 : slots + 8 ≤ 130104)
    (kk : ∀ (f' : Nat → Int64) (H1 : Heap) (locs1 : List Loc), (xItK (plS sg S) r i = 0 → f' 0 = (mLoad (plS sg S) r i).toInt64) → LI dC dI cA cL aX aM o s S M f' H1 locs1 → W p l e room_1 s m #[.ref b] below meth c H1 locs1 (cells + 1) (slots + 8) Z (F0 m (pc + 3) lsA [.int (xItK (plS sg S) r i)])) :
    W p l e room_1 s m #[.ref b] below meth c H locs cells slots Z (F0 m pc lsA [.ref o, .int i, .int r, .ref (aX.getD 0 0)]) := by
  obtain ⟨⟨hx, hb, hret, hml, hown, hts0, hXs, hbl, hlk, hgv⟩, htr, hK, hN, hTS, hNc, hLF, hL⟩ := hLC
  have hts := TT_of hts0
  have hPw : va_P (dC, dI) xcl (wsI cA cL aX S o f) H := va_P.app hI.1 hI.2.2.1
  have hap : ∀ z, va_A (wsI cA cL aX S o f) H.size z → (∃ i, i < 43 ∧ z = aX.getD i 0) ∨ z = o ∨ H.size ≤ z := fun z hz => by
    rcases hz with ⟨k, e, hk⟩ | hz
    · by_cases hk3 : k < 43
      · have h9 : (cw cA aX layX S)[k]? = some (z, e) := by
          rw [wsI, List.getElem?_append_left (by rw [cw_len]; exact hk3)] at hk
          exact hk
        exact Or.inl ⟨k, hk3, (cw_at h9).2⟩
      · refine Or.inr (Or.inl ?_)
        rw [wsI, List.getElem?_append_right (by rw [cw_len]; exact Nat.not_lt.mp hk3), cw_len] at hk
        cases hz : k - layX.length with
        | zero => rw [hz] at hk; simp at hk; exact hk.1.symm
        | succ y => rw [hz] at hk; simp at hk
    · exact Or.inr (Or.inr hz)
  have hF : ∀ q, va_A (wsI cA cL aX S o f) H.size q → lA s q := fun q hq => by
    rcases hap q hq with ⟨i, h1, rfl⟩ | rfl | h1
    · exact hLF.1 i h1
    · exact hLF.2.2.2.2.1
    · exact Nat.le_trans hI.2.2.2.1 h1
  have hDw : va_D (fun _ => True) (wsI cA cL aX S o f) := va_D.app (cw_D (fun _ _ => trivial) hLF.2.1) ⟨fun i j p q hi hj _ => by
      cases i <;> cases j <;> simp at hi hj ⊢, fun _ _ _ => trivial⟩ (fun i j p q hi hj e9 => by
      obtain ⟨a1, a2⟩ := cw_at hi
      cases j with
      | zero =>
        obtain rfl : oE o cL f = q := by simpa using hj
        exact hLF.2.2.2.2.2.2.1 i a1 (a2.symm.trans e9)
      | succ j => simp at hj)
  refine va_calli (vx_runSW (As := [.ref (aX.getD 0 0), .int r, .int i, .ref o]) (rest := []) (n := 4) (hh := hhL) ⟨hx, hb, hml, hown, hts⟩ (mL_item hLat hwf r i l htr dC dI cA cL aX o f H.size) ⟨⟨rfl, rfl, by exact Nat.le_of_ble_eq_true rfl, by exact Nat.le_of_ble_eq_true rfl, pay_in hts wsL_good, List.mem_cons_self⟩, hts _ wl_75, hts _ wl_74, ⟨by decide, by decide⟩, fun sig h => ?_, hts _ wl_72, hts _ wl_73⟩ ⟨PL.blind, fun U hU hw => ⟨rfl, by rw [hU], by rw [hU]; exact hPw, va_K.moved hw.alike hK, hDw, hN.warm hw, TS.to hw hF (fun a h1 h2 => by rw [hU]; exact hI.2.2.2.2.1 a h1 h2) hTS, hNc.moved hw.alike⟩⟩ rfl rfl hsz rfl (lv_room (Nat.le_of_ble_eq_true rfl)) hd ⟨h1, h2⟩) hI.2.2.2 (fun q _ h => hF q h) hF (fun k f' t H1 locs1 ht hvm hpost hB hz hk hS1 => ?_)
  · have h9 : (parseMethodDescriptor yL_item.desc).map (fun d => d.parameters.length) = some 4 := by decide +kernel
    rw [h] at h9
    exact (Option.some.inj h9).symm
  · obtain ⟨rfl, hf⟩ := hpost
    have hB : va_P (dC, dI) xcl (wsI cA cL aX S o f') H1 := by subst ht; exact hB
    obtain ⟨hB1, hB2⟩ := wI_P hB
    refine kk f' H1 locs1 hf ⟨hB1, cw_keep hI.2.1 hk (fun k hk9 hz9 => ?_), hB2, hS1⟩
    rcases hap _ hz9 with ⟨i, h1, e1⟩ | e1 | h1
    · exact hLF.2.2.2.2.2.1 i h1 k hk9 e1.symm
    · exact hLF.2.2.2.2.2.2.2 k hk9 e1
    · exact absurd (cw_lt hI.2.1 hk9) (Nat.not_lt.mpr h1)
end LAWC
