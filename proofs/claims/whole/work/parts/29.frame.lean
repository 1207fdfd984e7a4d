/-! ===== a layout within a larger one ===== -/
def rnV (sg : List Nat) (v : Value) : Value := match v with
  | .ref k => .ref (sg.getD k 0)
  | w => w
def rnS (sg : List Nat) (x : Slt) : Slt := match x with
  | some (some k) => some (some (sg.getD k 0))
  | y => y
def rnC (sg : List Nat) (c : Lc) : Lc := match c with
  | .inl n => .inl n
  | .inr o => .inr (o.1, o.2.map (rnS sg))
def plS (sg : List Nat) (S : Sx) : Sx := fun f i => S (100 * sg.getD (f / 100) 0 + f % 100) i
def inv (sg : List Nat) (b : Nat) : Option Nat := (List.range sg.length).find? (fun k => sg.getD k 0 == b)
def psS (sg : List Nat) (S S1 : Sx) : Sx := fun f i => match inv sg (f / 100) with
  | some k => S1 (100 * k + f % 100) i
  | none => S f i
def noDyn (lay : Lay) : Bool := lay.all (fun c => match c with | .inl _ => true | .inr o => o.2.all (fun x => match x with | some none => false | some (some k) => decide (k < lay.length) | none => true) && decide (o.2.length < 100))
def emb (lay big : Lay) (sg : List Nat) : Bool := (sg.length == lay.length) && noDyn lay && okL big && (List.range lay.length).all (fun k => decide (big[sg.getD k 0]? = (lay[k]?).map (rnC sg))) && va_nd sg
theorem inv_some {sg : List Nat} {b k : Nat} (h : inv sg b = some k) : k < sg.length ∧ sg.getD k 0 = b := by
  have h1 := List.find?_some h
  have h2 := List.mem_of_find?_eq_some h
  exact ⟨List.mem_range.mp h2, by simpa using h1⟩
theorem inv_none {sg : List Nat} {b : Nat} (h : inv sg b = none) : ∀ k, k < sg.length → sg.getD k 0 ≠ b := by
  intro k hk e
  have := List.find?_eq_none.mp h k (List.mem_range.mpr hk)
  exact this (by rw [e]; simp)
theorem nd_inj {sg : List Nat} (hn : va_nd sg = true) {i j : Nat} (hi : i < sg.length) (hj : j < sg.length) (e : sg.getD i 0 = sg.getD j 0) : i = j := by
  have e1 : sg[i]? = some (sg.getD i 0) := by simp [List.getD, hi]
  have e2 : sg[j]? = some (sg.getD j 0) := by simp [List.getD, hj]
  exact va_nd_inj sg hn i j _ e1 (by rw [e]; exact e2)
theorem inv_at {sg : List Nat} (hn : va_nd sg = true) {k : Nat} (hk : k < sg.length) : inv sg (sg.getD k 0) = some k := by
  cases h : inv sg (sg.getD k 0) with
  | none => exact absurd rfl (inv_none h k hk)
  | some j =>
    obtain ⟨h1, h2⟩ := inv_some h
    exact congrArg some (nd_inj hn h1 hk h2)
section FRAME
variable {lay big : Lay} {sg : List Nat} {cA : ClassId} {ad : List Nat} {S S1 : Sx}
def adS (sg ad : List Nat) : List Nat := sg.map (fun k => ad.getD k 0)
theorem adS_get {k : Nat} (hk : k < sg.length) : (adS sg ad).getD k 0 = ad.getD (sg.getD k 0) 0 := by
  simp [adS, List.getD, hk]
/-- a cell of the small layout is one of the large -/
theorem ce_emb {k : Nat} {c : Lc} (hn : noDyn lay = true) (hc : lay[k]? = some c) (hl : sg.length = lay.length) (X Y : Sx) (hXY : ∀ j, j < 100 → ∀ i, X (100 * k + j) i = Y (100 * sg.getD k 0 + j) i) : ce cA (adS sg ad) X k c = ce cA ad Y (sg.getD k 0) (rnC sg c) := by
  have hcn := List.all_eq_true.mp hn c (List.mem_of_getElem? hc)
  cases c with
  | inl n =>
    simp only [ce, rnC]
    congr 4
    funext i
    exact hXY 0 (by omega) i
  | inr o =>
    simp only [ce, rnC]
    congr 2
    rw [Bool.and_eq_true] at hcn
    have hlen : o.2.length < 100 := by simpa using hcn.2
    apply List.ext_getElem?
    intro j
    rw [List.getElem?_mapIdx, List.getElem?_mapIdx, List.getElem?_map]
    cases hx : o.2[j]? with
    | none => rfl
    | some x =>
      have hj : j < o.2.length := (List.getElem?_eq_some_iff.mp hx).1
      have hxn := List.all_eq_true.mp hcn.1 x (List.mem_of_getElem? hx)
      show some (cv (adS sg ad) (slv X (100 * k + j) x)) = some (cv ad (slv Y (100 * sg.getD k 0 + j) (rnS sg x)))
      congr 1
      match x, hxn with
      | none, _ => simp only [slv, rnS, cv]; rw [hXY j (by omega) 0]
      | some (some r), hr =>
        have hr : r < lay.length := by simpa using hr
        simp only [slv, rnS, cv]
        rw [adS_get (by omega)]
theorem plS_at {k j i : Nat} (hj : j < 100) : plS sg S (100 * k + j) i = S (100 * sg.getD k 0 + j) i := by
  unfold plS
  rw [show (100 * k + j) / 100 = k by omega, show (100 * k + j) % 100 = j by omega]
theorem psS_at {k j i : Nat} (hn : va_nd sg = true) (hk : k < sg.length) (hj : j < 100) : psS sg S S1 (100 * sg.getD k 0 + j) i = S1 (100 * k + j) i := by
  unfold psS
  rw [show (100 * sg.getD k 0 + j) / 100 = sg.getD k 0 by omega, show (100 * sg.getD k 0 + j) % 100 = j by omega, inv_at hn hk]
theorem psS_no {b j i : Nat} (hb : inv sg b = none) (hj : j < 100) : psS sg S S1 (100 * b + j) i = S (100 * b + j) i := by
  unfold psS
  rw [show (100 * b + j) / 100 = b by omega, hb]
theorem emb_spec (h : emb lay big sg = true) : sg.length = lay.length ∧ noDyn lay = true ∧ okL big = true ∧ (∀ k, k < lay.length → big[sg.getD k 0]? = (lay[k]?).map (rnC sg)) ∧ va_nd sg = true := by
  simp only [emb, Bool.and_eq_true] at h
  obtain ⟨⟨⟨⟨h1, h2⟩, h3⟩, h4⟩, h5⟩ := h
  refine ⟨by simpa using h1, h2, h3, fun k hk => ?_, h5⟩
  have := List.all_eq_true.mp h4 k (List.mem_range.mpr hk)
  exact of_decide_eq_true this
theorem cw_emb (h : emb lay big sg = true) {X Y : Sx} (hXY : ∀ k, k < lay.length → ∀ j, j < 100 → ∀ i, X (100 * k + j) i = Y (100 * sg.getD k 0 + j) i) {k : Nat} {q : Nat × va_E} (hq : (cw cA (adS sg ad) lay X)[k]? = some q) : (cw cA ad big Y)[sg.getD k 0]? = some q := by
  obtain ⟨h1, h2, h3, h4, h5⟩ := emb_spec h
  cases hc : lay[k]? with
  | none => simp [cw, List.getElem?_mapIdx, hc] at hq
  | some c =>
    have hk : k < lay.length := (List.getElem?_eq_some_iff.mp hc).1
    rw [cw_get hc] at hq
    have hb : big[sg.getD k 0]? = some (rnC sg c) := by rw [h4 k hk, hc]; rfl
    rw [cw_get hb, ← hq, adS_get (by omega), ce_emb h2 hc h1 X Y (hXY k hk)]
theorem cw_addr {A : Nat → Prop} {X Y : Sx} (h : va_D A (cw cA ad big X)) : va_D A (cw cA ad big Y) := by
  have key : ∀ (k : Nat) (q : Nat × va_E), (cw cA ad big Y)[k]? = some q → ∃ q', (cw cA ad big X)[k]? = some q' ∧ q'.1 = q.1 := by
    intro k q hq
    cases hc : big[k]? with
    | none => simp [cw, List.getElem?_mapIdx, hc] at hq
    | some c =>
      rw [cw_get hc] at hq
      exact ⟨_, cw_get hc, by injection hq with e; rw [← e]⟩
  refine ⟨fun i j p q hi hj e => ?_, fun k q hk => ?_⟩
  · obtain ⟨p', a1, a2⟩ := key i p hi
    obtain ⟨q', b1, b2⟩ := key j q hj
    exact h.1 i j p' q' a1 b1 (by rw [a2, b2]; exact e)
  · obtain ⟨q', b1, b2⟩ := key k q hk
    rw [← b2]
    exact h.2 k q' b1
theorem cc_frame {d : Nat} {k : MK} {av av' : List Value} {Q : Option Value → Sx → Prop} (h : emb lay big sg = true) (hav : av.map (rnV sg) = av') (hr : ∀ v ∈ av, ∀ r, v = .ref r → r < sg.length)
    (hC : CC d k lay av (plS sg S) (fun r S1 => (∀ v, r = some v → ∃ x, v = .int x) ∧ Q r (psS sg S S1))) : CC d k big av' S Q := by
  obtain ⟨h1, h2, h3, h4, h5⟩ := emb_spec h
  intro l dC dI cA ad sz
  have hM := hC l dC dI cA (adS sg ad) sz
  have hsub : ∀ (j : Nat) (q : Nat × va_E), (cw cA (adS sg ad) lay (plS sg S))[j]? = some q → (cw cA ad big S)[sg.getD j 0]? = some q := fun j q hq => cw_emb h (fun k _ j hj i => plS_at hj) hq
  have hAA : ∀ q, va_A (cw cA (adS sg ad) lay (plS sg S)) sz q → va_A (cw cA ad big S) sz q := by
    rintro q (⟨j, e, hj⟩ | hq)
    · exact Or.inl ⟨_, e, hsub j _ hj⟩
    · exact Or.inr hq
  unfold Met at hM ⊢
  intro p e ha hc hk s m args below g1 g2 g3 g4
  obtain ⟨ea, hsz, hP, hK, hD, hN⟩ := g3
  have hlenc : ∀ X, (cw cA (adS sg ad) lay X).length = lay.length := fun X => by simp [cw]
  have hpre : va_Pc (av.map (cv (adS sg ad))) (PP dC dI cA (adS sg ad) lay (plS sg S) sz) args s := by
    refine ⟨?_, hsz, hP.by _ hsub, hK, hD.by _ hsub (fun i j hi hj e => ?_), hN⟩
    · rw [ea, ← hav, List.map_map]
      congr 1
      apply List.map_congr_left
      intro v hv
      cases v with
      | ref r =>
        have := hr _ hv r rfl
        simp only [Function.comp, rnV, cv]
        rw [adS_get this]
      | _ => rfl
    · rw [hlenc] at hi hj
      exact nd_inj h5 (by omega) (by omega) e
  obtain ⟨kk, o, a1, a2, a3, ⟨⟨r, S1, b1, b2, b3, b4, b5⟩, b6⟩, L, b7, b8⟩ := hM p e ha hc hk s m args below g1 g2 hpre g4
  refine ⟨kk, o, a1, a2, a3, ⟨⟨r, psS sg S S1, ?_, b2.2, ?_, b4, ?_⟩, b6.1, fun q hq hn => b6.2 q hq (fun z => hn (hAA q z))⟩, L, b7, fun q hq => hAA _ (b8 q hq)⟩
  · rw [b1]
    cases r with
    | none => rfl
    | some v =>
      obtain ⟨x, rfl⟩ := b2.1 v rfl
      rfl
  · intro b q hb
    cases hc : big[b]? with
    | none => simp [cw, List.getElem?_mapIdx, hc] at hb
    | some c =>
      cases hi : inv sg b with
      | some k =>
        obtain ⟨i1, i2⟩ := inv_some hi
        have hkl : k < lay.length := by omega
        obtain ⟨c0, hc0⟩ : ∃ c0, lay[k]? = some c0 := ⟨lay[k], by simp [hkl]⟩
        have hq : (cw cA (adS sg ad) lay S1)[k]? = some q := by
          have := cw_emb (cA := cA) (ad := ad) h (X := S1) (Y := psS sg S S1) (fun k hk j hj i => (psS_at h5 (by omega) hj).symm) (cw_get (ad := adS sg ad) hc0)
          rw [i2, hb] at this
          rw [cw_get hc0, this]
        exact b3 k q hq
      | none =>
        rw [cw_get hc] at hb
        have hlt : ∀ o, c = .inr o → o.2.length < 100 := by
          intro o ho
          have := List.all_eq_true.mp h3 c (List.mem_of_getElem? hc)
          rw [ho] at this
          simpa using this
        have hce : ce cA ad (psS sg S S1) b c = ce cA ad S b c := by
          cases c with
          | inl n =>
            simp only [ce]
            congr 4
            funext i
            exact psS_no (j := 0) hi (by omega)
          | inr o =>
            simp only [ce]
            congr 2
            apply List.mapIdx_eq_mapIdx_iff.mpr
            intro z hz
            have hl := hlt o rfl
            have e9 : slv (psS sg S S1) (100 * b + z) o.2[z] = slv S (100 * b + z) o.2[z] := by
              unfold slv
              rw [psS_no hi (by omega)]
            rw [e9]
        have hold : (cw cA ad big S)[b]? = some q := by rw [cw_get hc, ← hce]; exact hb
        have hat := hP b q hold
        refine hat.kept (b6.2 q.1 hat.lt ?_)
        rintro (⟨j, e', hj⟩ | hq)
        · have hj2 := hsub j _ hj
          have := hD.1 _ _ _ _ hj2 hold rfl
          have hjl : j < lay.length := by
            have := (List.getElem?_eq_some_iff.mp hj).1
            rw [hlenc] at this
            exact this
          exact inv_none hi j (by omega) this
        · have := hat.lt
          omega
  · exact cw_addr (hD.self)
end FRAME
