def Core (T : Sx) (k n : Nat) (fr : Nat → Nat) (rz : Option Nat) (wk : Nat → Nat) (bu re sb sr u w : Nat) (S M : Sx) : Prop :=
  PV T k ∧ cProg T S M ∧ cMem u w S M ∧ cMon bu re sb sr S M ∧ cLim bu re sb sr u w ∧ cLock S M ∧ cLog S M ∧ cKind S M ∧ cMeth (cN T fr n + 1) S M ∧ cBy rz S M ∧ cStk T k fr rz wk n S M ∧ (∀ r, rz = some r → r < n) ∧ cN T fr n + 1 ≤ 8
def RunSt (T : Sx) (k n : Nat) (fr : Nat → Nat) (rz : Option Nat) (wk : Nat → Nat) (bu re sb sr u w : Nat) (S M : Sx) : Prop :=
  Core T k n fr rz wk bu re sb sr u w S M ∧ S 1105 0 = nI (n + 1) ∧ M 30 0 = nI (n + 1) ∧ S 1200 n = nI (fr n) ∧ M 1600 n = nI (fr n) ∧ S 1300 n = 0 ∧ M 1700 n = 0 ∧ M 37 0 = -1 ∧ fr n < k ∧ n + ht T (fr n) ≤ 16 * (cN T fr n + 1)
def RetSt (T : Sx) (k n : Nat) (fr : Nat → Nat) (rz : Option Nat) (wk : Nat → Nat) (bu re sb sr u w : Nat) (e : Int32) (S M : Sx) : Prop :=
  Core T k n fr rz wk bu re sb sr u w S M ∧ S 1105 0 = nI n ∧ M 30 0 = nI n ∧ S 8 0 = e ∧ M 37 0 = e ∧ (e = 0 ∨ e = 1 ∨ e = 2 ∨ e = 3) ∧ (e = 3 → rz = none)
/-- one turn of the reference's loop -/
def MS (M M' : Sx) : Prop := ∀ (d : Nat) (Q : Option Value → Sx → Prop), Q none M' → (M 37 0 = -1 → CC (d + 5) kX10_begin layM [.ref 0] M Q) ∧ (¬ M 37 0 = -1 → CC (d + 5) kX10_tell layM [.ref 0] M Q)
def MR : Nat → Sx → Sx → Prop
  | 0, M, M' => M = M'
  | n + 1, M, M' => ∃ M1, ¬ M 30 0 ≤ 0 ∧ MS M M1 ∧ MR n M1 M'
def CR : Nat → Sx → Sx → Prop
  | 0, S, S' => S = S'
  | n + 1, S, S' => fEmpty S = false ∧ CR n (rStep S) S'
theorem MR.tr {a b : Nat} : ∀ {M M1 M2 : Sx}, MR a M M1 → MR b M1 M2 → MR (a + b) M M2 := by
  induction a with
  | zero => intro M M1 M2 h h2; rw [Nat.zero_add]; rw [MR] at h; subst h; exact h2
  | succ a ih =>
    intro M M1 M2 h h2
    obtain ⟨X, h3, h4, h5⟩ := h
    rw [Nat.succ_add]
    exact ⟨X, h3, h4, ih h5 h2⟩
theorem CR.tr {a b : Nat} : ∀ {S S1 S2 : Sx}, CR a S S1 → CR b S1 S2 → CR (a + b) S S2 := by
  induction a with
  | zero => intro M M1 M2 h h2; rw [Nat.zero_add]; rw [CR] at h; subst h; exact h2
  | succ a ih =>
    intro M M1 M2 h h2
    obtain ⟨h3, h5⟩ := h
    rw [Nat.succ_add]
    exact ⟨h3, ih h5 h2⟩
def VV : Nat := 196610
/-- a state from which both runs go on, at most P steps worth -/
def Nx (T : Sx) (k P : Nat) (S M : Sx) : Prop :=
  (∃ (n : Nat) (fr : Nat → Nat) (rz : Option Nat) (wk : Nat → Nat) (bu re sb sr u w : Nat), RunSt T k n fr rz wk bu re sb sr u w S M ∧ VV * (bu + re) + sW wk n + w3 (ht T (fr n)) ≤ P) ∨
  (∃ (n : Nat) (fr : Nat → Nat) (rz : Option Nat) (wk : Nat → Nat) (bu re sb sr u w : Nat) (e : Int32), RetSt T k n fr rz wk bu re sb sr u w e S M ∧ VV * (bu + re) + sW wk n ≤ P)
def Go (T : Sx) (k P : Nat) (S M : Sx) : Prop := ∃ (a b : Nat) (S1 M1 : Sx) (P1 : Nat), CR a S S1 ∧ MR b M M1 ∧ Nx T k P1 S1 M1 ∧ P1 + a ≤ P ∧ 1 ≤ a
theorem Go.one {T S S1 M M1 : Sx} {k n m P P1 : Nat} (hd : S 1105 0 = nI (n + 1)) (hnb : n < 1000) (h : rStep S = S1) (hh : M 30 0 = nI (m + 1)) (hmb : m < 1000) (hm : MS M M1) (hN : Nx T k P1 S1 M1) (hp : P1 + 1 ≤ P) : Go T k P S M :=
  ⟨1, 1, S1, M1, P1, ⟨by rw [fEmpty, hd]; simpa using nI_ne0 (n := n + 1) (by omega) (by omega), h⟩, ⟨M1, by rw [hh]; exact nI_nle (by omega) (by omega), hm, rfl⟩, hN, hp, Nat.le_refl 1⟩
theorem Go.two {T S S1 M M1 M2 : Sx} {k n m m2 P P1 : Nat} (hd : S 1105 0 = nI (n + 1)) (hnb : n < 1000) (h : rStep S = S1) (hh : M 30 0 = nI (m + 1)) (hmb : m < 1000) (hm : MS M M1) (hh2 : M1 30 0 = nI (m2 + 1)) (hmb2 : m2 < 1000) (hm2 : MS M1 M2) (hN : Nx T k P1 S1 M2) (hp : P1 + 1 ≤ P) : Go T k P S M :=
  ⟨1, 2, S1, M2, P1, ⟨by rw [fEmpty, hd]; simpa using nI_ne0 (n := n + 1) (by omega) (by omega), h⟩, ⟨M1, by rw [hh]; exact nI_nle (by omega) (by omega), hm, M2, by rw [hh2]; exact nI_nle (by omega) (by omega), hm2, rfl⟩, hN, hp, Nat.le_refl 1⟩
theorem MS.beg {M M' : Sx} (h0 : M 37 0 = -1) (h : ∀ (d : Nat) (Q : Option Value → Sx → Prop), Q none M' → CC (d + 5) kX10_begin layM [.ref 0] M Q) : MS M M' := fun d Q hQ => ⟨fun _ => h d Q hQ, fun c => absurd h0 c⟩
theorem MS.tel {M M' : Sx} (h0 : ¬ M 37 0 = -1) (h : ∀ (d : Nat) (Q : Option Value → Sx → Prop), Q none M' → CC (d + 4) kX10_tell layM [.ref 0] M Q) : MS M M' := fun d Q hQ => ⟨fun c => absurd c h0, fun _ => h (d + 1) Q hQ⟩
section STEP
variable {T S M : Sx} {k n : Nat} {fr : Nat → Nat} {rz : Option Nat} {wk : Nat → Nat} {bu re sb sr u w : Nat}
theorem w3_pos {h : Nat} (hh : 1 ≤ h) : 3 ≤ w3 h := by
  cases h with
  | zero => omega
  | succ h => simp only [w3]; omega
theorem w3_mono {a b : Nat} (h : a ≤ b) : w3 a ≤ w3 b := by
  induction b generalizing a with
  | zero => obtain rfl : a = 0 := by omega
            exact Nat.le_refl _
  | succ b ih =>
    cases a with
    | zero => simp [w3]
    | succ a => have := ih (a := a) (by omega); simp only [w3]; omega
/-- what a step knows of the statement on top -/
theorem RunSt.top (h : RunSt T k n fr rz wk bu re sb sr u w S M) : n < 128 ∧ fr n < 120 ∧ 1 ≤ ht T (fr n) ∧ ht T (fr n) ≤ 16 ∧ SV T (fr n) ∧ n + ht T (fr n) ≤ 128 ∧ k ≤ 120 := by
  obtain ⟨⟨⟨p1, p2, p3, p4⟩, -, -, -, -, -, -, -, -, -, -, -, c8⟩, -, -, -, -, -, -, -, h1, h2⟩ := h
  obtain ⟨q1, q2, q3⟩ := p3 _ h1
  exact ⟨by omega, by omega, q1, q2, q3, by omega, p2⟩
theorem RunSt.step (h : RunSt T k n fr rz wk bu re sb sr u w S M) : rStep S = rBegin S (nI (fr n)) := by
  have hn := h.top.1
  obtain ⟨-, hd, -, hs, -, hg, -⟩ := h
  rw [rStep, fGet_e hd (by omega), fGet_e hd (by omega), hs, if_pos hg]
theorem RunSt.of (h : RunSt T k n fr rz wk bu re sb sr u w S M) : (∀ z, gOf S 1800 z (nI (fr n)) = T 0 (fr n)) ∧ (∀ z, gOf S 1900 z (nI (fr n)) = T 1 (fr n)) ∧ (∀ z, gOf S 2000 z (nI (fr n)) = T 2 (fr n)) ∧ (∀ z, gOf S 2100 z (nI (fr n)) = T 3 (fr n)) ∧ M 100 (fr n) = T 0 (fr n) ∧ M 200 (fr n) = T 1 (fr n) ∧ M 300 (fr n) = T 2 (fr n) ∧ M 400 (fr n) = T 3 (fr n) := by
  obtain ⟨-, t2, -, -, -, -, t3⟩ := h.top
  obtain ⟨⟨⟨p1, p2, p3, p4⟩, ⟨g1, g2, g3⟩, -⟩, -, -, -, -, -, -, -, h1, -⟩ := h
  obtain ⟨e1, e2, e3, e4, e5, e6, e7, e8⟩ := g1 _ t2
  have hk : S 1706 0 = nI k := g3.1.trans p1
  exact ⟨fun z => by rw [gOf_e hk h1 p2, e1], fun z => by rw [gOf_e hk h1 p2, e2], fun z => by rw [gOf_e hk h1 p2, e3], fun z => by rw [gOf_e hk h1 p2, e4], e5, e6, e7, e8⟩
/-- a statement without parts is done: memory or kind may have changed -/
theorem leaf_out {S1 M1 : Sx} {e : Int32} (h : RunSt T k n fr rz wk bu re sb sr u w S M) (hS : rStep S = S1) (hM : MS M M1) (dS : Df [8, 9, 10, 1105, 200, 105, 500, 400, 300] S S1) (dM : Df [30, 37, 27, 28, 700, 23, 800, 1200] M M1)
    (hd : S1 1105 0 = nI n) (hh : M1 30 0 = nI n) (he : S1 8 0 = e) (hme : M1 37 0 = e) (hee : e = 0 ∨ e = 1 ∨ e = 2) (hmem : cMem u w S1 M1) (hkind : cKind S1 M1) :
    Go T k (VV * (bu + re) + sW wk n + w3 (ht T (fr n))) S M := by
  have ht := h.top
  have hd0 := h.2.1
  have hh0 := h.2.2.1
  obtain ⟨c1, c2, c3, c4, c5, c6, c7, c8, c9, c10, c11, c12, c13⟩ := h.1
  have hp := w3_pos ht.2.2.1
  refine Go.one hd0 (by omega) hS hh0 (by omega) hM (Or.inr ⟨n, fr, rz, wk, bu, re, sb, sr, u, w, e, ⟨⟨c1, c2.cg dS dM rfl rfl, hmem, c4.cg dS dM rfl rfl, c5, c6.cg dS dM rfl rfl, c7.cg dS dM rfl rfl, hkind, c9.cg dS dM rfl rfl, c10.cg dS dM rfl rfl, c11.cg (StE.df dS rfl) (StE.df dM rfl), c12, c13⟩, hd, hh, he, hme, ?_, ?_⟩, Nat.le_refl _⟩) (by omega)
  · rcases hee with rfl | rfl | rfl <;> simp
  · rintro rfl
    rcases hee with h | h | h <;> exact absurd h (by decide)
/-- a statement without parts throws -/
theorem throw_out {kd x : Int32} (h : RunSt T k n fr rz wk bu re sb sr u w S M) (hS : rStep S = fClose (rRaise (sw S 8 0 0) kd x)) (hM : MS M (gThrow M n kd x)) (hkx : kd = 5 ∨ x = 0 := by first | exact Or.inr rfl | exact Or.inl rfl) : Go T k (VV * (bu + re) + sW wk n + w3 (ht T (fr n))) S M := by
  have ht := h.top
  have hd0 := h.2.1
  have e1 : fClose (rRaise (sw S 8 0 0) kd x) = sw (rRaise (sw S 8 0 0) kd x) 1105 0 (nI n) := fClose_e (by rw [df_rRaise.at 1105 0 rfl, sw_ne (by decide)]; exact hd0) (by omega)
  rw [e1] at hS
  have dS : Df [8, 9, 10, 1105, 200, 105, 500, 400, 300] S (sw (rRaise (sw S 8 0 0) kd x) 1105 0 (nI n)) := (((Df.rf.to 8 0 0).tr df_rRaise).to 1105 0 _).mono rfl
  have dM : Df [30, 37, 27, 28, 700, 23, 800, 1200] M (gThrow M n kd x) := df_gThrow.mono rfl
  refine leaf_out (e := 2) h hS hM dS dM (by rw [sw_eq]) ?_ ?_ ?_ (Or.inr (Or.inr rfl)) (h.1.2.2.1.cg (((Df.rf.to 8 0 0).tr df_rRaise).to 1105 0 _) df_gThrow rfl rfl) ⟨?_, ?_, hkx⟩
  · rfl
  · rfl
  · rfl
  · rfl
  · rfl
end STEP
