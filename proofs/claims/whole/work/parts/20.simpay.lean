section PAY
variable {T S M : Sx} {k n : Nat} {fr : Nat → Nat} {rz : Option Nat} {wk : Nat → Nat} {bu re sb sr u w : Nat}
def hasN (rz : Option Nat) (bu re : Nat) : Nat := match rz with
  | none => bu
  | some _ => re
theorem cN_le (T : Sx) (fr : Nat → Nat) (n : Nat) : cN T fr n ≤ n := by
  induction n with
  | zero => exact Nat.le_refl _
  | succ n ih => rw [cN_succ]; split <;> omega
theorem cN_mono (T : Sx) (fr : Nat → Nat) {a b : Nat} (h : a ≤ b) : cN T fr a ≤ cN T fr b := by
  induction b with
  | zero => obtain rfl : a = 0 := by omega
            exact Nat.le_refl _
  | succ b ih =>
    by_cases e : a = b + 1
    · subst e; exact Nat.le_refl _
    · have := ih (by omega)
      rw [cN_succ]
      omega
theorem inb_of {x : Int32} {b : Nat} (h : inb x (nI b) = true) (hb : b < 2000000000) : ∃ j : Nat, j < b ∧ x = nI j := by
  have hi := inb_iff.mp h
  rw [nI_toInt (n := b) (by omega)] at hi
  refine ⟨x.toInt.toNat, by omega, ?_⟩
  apply Int32.toInt_inj.mp
  rw [nI_toInt (n := x.toInt.toNat) (by omega)]
  omega
theorem pay_facts (hm : cMon bu re sb sr S M) (hb : cBy rz S M) (hrn : ∀ r, rz = some r → ¬ M 38 0 = -1) (hl : bu + sb ≤ 160) (hl2 : re + sr ≤ 40) {m p : Int32} {mk q : Nat} (em : m = nI mk) (hmk : mk < 5) (ep : p = nI q) (hq : q < 2000000000) :
    (q ≤ hasN rz bu re → pOk S m p = true ∧ gPayB M p = true ∧ ∃ bu' re' sb' sr' : Nat, cMon bu' re' sb' sr' (pPay S m p) (gPayS M m p) ∧ bu' + re' + q = bu + re ∧ bu' + sb' = bu + sb ∧ re' + sr' = re + sr ∧ sb' + sr' = sb + sr + q) ∧
    (¬ q ≤ hasN rz bu re → pOk S m p = false ∧ gPayB M p = false ∧ pPay S m p = S ∧ (rz = none → gPayS M m p = sw M 37 0 3) ∧ (∀ r, rz = some r → gPayS M m p = gEnd M)) := by
  subst em; subst ep
  obtain ⟨a1, a2, a3, a4, a5, a6, a7, a8, a9⟩ := hm
  have hin : inb (nI mk) 5 = true := inb_nI (b := 5) hmk (by omega)
  cases rz with
  | none =>
    obtain ⟨b1, b2⟩ := hb
    constructor
    · intro hle
      have hle : q ≤ bu := hle
      have e1 : pHas S = nI bu := by rw [pHas, if_pos b1, a1]
      have hok : pOk S (nI mk) (nI q) = true := by rw [pOk, e1, if_neg (by rw [i_lt (by omega) (by omega)]; omega), hin]
      have hgb : gPayB M (nI q) = true := by rw [gPayB, if_pos b2, a2]; simpa using (i_le (by omega) (by omega)).mpr hle
      refine ⟨hok, hgb, bu - q, re, sb + q, sr, ?_, by omega, by omega, by omega, by omega⟩
      rw [pPay, if_pos hok, pUpd, if_pos b1, gPayS, if_pos b2, if_pos (by rw [a2]; exact (i_le (by omega) (by omega)).mpr hle), cl mk, a1, a2, a5, a6, pk_sub hle, nI_add]
      refine ⟨rfl, rfl, a3, a4, rfl, rfl, a7, a8, fun i hi => ?_⟩
      by_cases e : i = mk
      · subst e
        rw [sw_eq, sw_ne (by decide), sw_ne (by decide), sw_eq, a9 i hi]
      · rw [sw_ix e, sw_ne (by decide), sw_ne (by decide), sw_ne (by decide), sw_ne (by decide), sw_ix e]
        exact a9 i hi
    · intro hle
      have hle : ¬ q ≤ bu := hle
      have e1 : pHas S = nI bu := by rw [pHas, if_pos b1, a1]
      have hok : pOk S (nI mk) (nI q) = false := by rw [pOk, e1, if_pos ((i_lt (by omega) (by omega)).mpr (by omega))]
      have hno : ¬ nI q ≤ M 16 0 := by rw [a2, i_le (by omega) (by omega)]; exact hle
      refine ⟨hok, by rw [gPayB, if_pos b2]; simpa using hno, by rw [pPay, hok]; rfl, fun _ => by rw [gPayS, if_pos b2, if_neg hno], fun r hr => by cases hr⟩
  | some r =>
    obtain ⟨b1, b2⟩ := hb
    have c1 : ¬ S 607 0 = 0 := by rw [b1]; decide
    have c2 : ¬ M 38 0 = -1 := hrn r rfl
    constructor
    · intro hle
      have hle : q ≤ re := hle
      have e1 : pHas S = nI re := by rw [pHas, if_neg c1, a3]
      have hok : pOk S (nI mk) (nI q) = true := by rw [pOk, e1, if_neg (by rw [i_lt (by omega) (by omega)]; omega), hin]
      have hgb : gPayB M (nI q) = true := by rw [gPayB, if_neg c2, a4]; simpa using (i_le (by omega) (by omega)).mpr hle
      refine ⟨hok, hgb, bu, re - q, sb, sr + q, ?_, by omega, by omega, by omega, by omega⟩
      rw [pPay, if_pos hok, pUpd, if_neg c1, gPayS, if_neg c2, if_pos (by rw [a4]; exact (i_le (by omega) (by omega)).mpr hle), cl mk, a3, a4, a7, a8, pk_sub hle, nI_add]
      refine ⟨a1, a2, rfl, rfl, a5, a6, rfl, rfl, fun i hi => ?_⟩
      by_cases e : i = mk
      · subst e
        rw [sw_eq, sw_ne (by decide), sw_ne (by decide), sw_eq, a9 i hi]
      · rw [sw_ix e, sw_ne (by decide), sw_ne (by decide), sw_ne (by decide), sw_ne (by decide), sw_ix e]
        exact a9 i hi
    · intro hle
      have hle : ¬ q ≤ re := hle
      have e1 : pHas S = nI re := by rw [pHas, if_neg c1, a3]
      have hok : pOk S (nI mk) (nI q) = false := by rw [pOk, e1, if_pos ((i_lt (by omega) (by omega)).mpr (by omega))]
      have hno : ¬ nI q ≤ M 17 0 := by rw [a4, i_le (by omega) (by omega)]; exact hle
      refine ⟨hok, by rw [gPayB, if_neg c2]; simpa using hno, by rw [pPay, hok]; rfl, (fun hr => by cases hr), fun r' _ => by rw [gPayS, if_neg c2, if_neg hno]⟩
theorem Core.rn (h : Core T k n fr rz wk bu re sb sr u w S M) : ∀ r, rz = some r → ¬ M 38 0 = -1 := by
  intro r hr
  obtain ⟨⟨p1, p2, p3, p4⟩, -, -, -, -, -, -, -, -, c10, c11, c12, c13⟩ := h
  have h1 := c12 r hr
  subst hr
  have hf := c11 r h1
  have := hf.2.2.2.1
  have hb : r < 2000000000 := by
    have hn := cN_le T fr r
    have := (p3 _ hf.2.2.1).1
    have h8 : cN T fr r ≤ cN T fr n := cN_mono T fr (by omega)
    omega
  rw [c10.2]
  exact nI_ne_m1 hb
/-- what is left of the common state when a mark is paid -/
theorem Core.pay (h : Core T k n fr rz wk bu re sb sr u w S M) {m p : Int32} {mk q : Nat} (em : m = nI mk) (hmk : mk < 5) (ep : p = nI q) (hq : q < 2000000000) (hle : q ≤ hasN rz bu re) :
    pOk S m p = true ∧ gPayB M p = true ∧ ∃ bu' re' sb' sr' : Nat, Core T k n fr rz wk bu' re' sb' sr' u w (pPay S m p) (gPayS M m p) ∧ bu' + re' + q = bu + re ∧ bu' + sb' = bu + sb ∧ re' + sr' = re + sr ∧ sb' + sr' = sb + sr + q := by
  obtain ⟨c1, c2, c3, c4, c5, c6, c7, c8, c9, c10, c11, c12, c13⟩ := h
  obtain ⟨l1, l2, l3, l4⟩ := c5
  obtain ⟨p1, p2, bu', re', sb', sr', p3, p4, p5, p6, p7⟩ := (pay_facts c4 c10 (Core.rn ⟨c1, c2, c3, c4, ⟨l1, l2, l3, l4⟩, c6, c7, c8, c9, c10, c11, c12, c13⟩) l1 l2 em hmk ep hq).1 hle
  have dS := df_pPay (S := S) (m := m) (p := p)
  have dM := df_gPay (k := m) p2
  exact ⟨p1, p2, bu', re', sb', sr', ⟨c1, c2.cg dS dM rfl rfl, c3.cg dS dM rfl rfl, p3, ⟨by omega, by omega, by omega, by omega⟩, c6.cg dS dM rfl rfl, c7.cg dS dM rfl rfl, c8.cg dS dM rfl rfl, c9.cg dS dM rfl rfl, c10.cg dS dM rfl rfl, c11.cg (StE.df dS rfl) (StE.df dM rfl), c12, c13⟩, p4, p5, p6, p7⟩
theorem Core.nopay (h : Core T k n fr rz wk bu re sb sr u w S M) {m p : Int32} {mk q : Nat} (em : m = nI mk) (hmk : mk < 5) (ep : p = nI q) (hq : q < 2000000000) (hle : ¬ q ≤ hasN rz bu re) :
    pOk S m p = false ∧ gPayB M p = false ∧ pPay S m p = S ∧ (rz = none → gPayS M m p = sw M 37 0 3) ∧ (∀ r, rz = some r → gPayS M m p = gEnd M) := (pay_facts h.2.2.2.1 h.2.2.2.2.2.2.2.2.2.1 h.rn h.2.2.2.2.1.1 h.2.2.2.2.1.2.1 em hmk ep hq).2 hle
theorem Core.frok (h : Core T k n fr rz wk bu re sb sr u w S M) {s i : Nat} (hs : s < k) (hi : M 1600 i = nI s) : FrOk M i := by
  obtain ⟨⟨p1, p2, p3, p4⟩, ⟨g1, g2, g3⟩, -⟩ := h
  obtain ⟨e1, e2, e3, e4, e5, e6, e7, e8⟩ := g1 s (by omega)
  refine ⟨s, hi, by omega, fun c => ?_⟩
  rw [e5] at c
  obtain ⟨a, ea, hab⟩ : inN 4 (T 1 s) := by
    rcases (p3 s hs).2.2 with q | q | q | q | q | q | q | q | q | q | q | q | q | q | q | q | q | q
    all_goals first | exact q.2.1 | (exfalso; rw [c] at q; revert q; decide) | (exfalso; have q1 := q.1; rw [c] at q1; revert q1; decide)
  rw [e6, ea]
  exact vp_in_nI hab (by omega)
theorem RunSt.dr (h : RunSt T k n fr rz wk bu re sb sr u w S M) : DrOk M := by
  have ht := h.top
  obtain ⟨hc, -, hh, -, hs, -, -, -, hk, -⟩ := id h
  obtain ⟨-, -, -, -, -, -, -, -, -, c10, c11, c12, -⟩ := id hc
  cases rz with
  | none => exact Or.inl c10.2
  | some r =>
    have hr := c12 r rfl
    refine Or.inr ⟨r, n + 1 - r, c10.2, by rw [hh]; congr 1; omega, by omega, fun i h1 h2 => ?_⟩
    by_cases e : i = n
    · subst e; exact hc.frok hk hs
    · have hf := c11 i (by omega)
      exact hc.frok hf.2.2.1 hf.2.1
theorem Core.dr (h : Core T k (n + 1) fr rz wk bu re sb sr u w S M) (hh : M 30 0 = nI (n + 1)) : DrOk M := by
  have ht := h.top
  obtain ⟨-, -, -, -, -, -, -, -, -, c10, c11, c12, -⟩ := id h
  cases rz with
  | none => exact Or.inl c10.2
  | some r =>
    have hr := c12 r rfl
    refine Or.inr ⟨r, n + 1 - r, c10.2, by rw [hh]; congr 1; omega, by omega, fun i h1 h2 => ?_⟩
    have hf := c11 i (by omega)
    exact h.frok hf.2.2.1 hf.2.1
theorem sW_ge (h : cStk T k fr rz wk n S M) {r : Nat} (hr : r ≤ n) : sW wk r + (n - r) ≤ sW wk n := by
  induction n with
  | zero => obtain rfl : r = 0 := by omega
            simp
  | succ m ih =>
    by_cases e : r = m + 1
    · subst e; simp
    · have h1 := ih h.pop (by omega)
      have h2 := (h m (by omega)).2.2.2.2.2.2.1
      simp only [sW]
      omega
theorem drain_out {r P : Nat} {S1 : Sx} (h1 : Core T k n fr (some r) wk bu re sb sr u w S1 (sw M 30 0 (nI n))) (hnb : n < 1000) (hd1 : S1 1105 0 = nI n) (he : S1 8 0 = 3) (hS : fEmpty S = false) (hstep : rStep S = S1) (hM30 : ¬ M 30 0 ≤ 0) (hM : MS M (gEnd M)) (h38 : M 38 0 = nI r) (h30 : M 30 0 = nI (n + 1)) (hlv : gLeave (sw M 30 0 (nI n)) n (M 1600 n).toNatClampNeg = sw M 30 0 (nI n)) (hp : VV * (bu + re) + sW wk n + 1 ≤ P) : Go T k P S M := by
  obtain ⟨-, -, -, -, -, -, -, -, -, c10, c11, c12, -⟩ := id h1
  have hr := c12 r rfl
  obtain ⟨t, rfl⟩ : ∃ t, n = r + t + 1 := ⟨n - r - 1, by omega⟩
  obtain ⟨S2, a1, a2⟩ := drain t h1 hd1 he
  have hg : gEnd M = sw (sw (gDrain r (t + 1) (sw M 30 0 (nI (r + t + 1)))) 38 0 (-1)) 37 0 3 := by
    rw [gEnd, h38, h30, cl r, cl (r + t + 1 + 1), show r + t + 1 + 1 - r = t + 1 + 1 by omega]
    have e : gDrain r (t + 1 + 1) M = gDrain r (t + 1) (gLeave (sw M 30 0 (nI (r + (t + 1)))) (r + (t + 1)) (M 1600 (r + (t + 1))).toNatClampNeg) := rfl
    rw [e]
    have e2 : gLeave (sw M 30 0 (nI (r + (t + 1)))) (r + (t + 1)) (M 1600 (r + (t + 1))).toNatClampNeg = sw M 30 0 (nI (r + t + 1)) := hlv
    rw [e2]
  rw [hg] at hM
  have hw := sW_ge c11 (r := r) (by omega)
  refine ⟨1 + (t + 1), 1, S2, _, VV * (bu + re) + sW wk r, CR.tr (a := 1) ⟨hS, rfl⟩ (by rw [hstep]; exact a1), ⟨_, hM30, hM, rfl⟩, Or.inr ⟨r, fr, none, wk, bu, re, sb, sr, u, w, 3, a2, Nat.le_refl _⟩, by omega, by omega⟩
end PAY
