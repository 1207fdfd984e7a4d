section DRAIN
variable {T S M : Sx} {k n : Nat} {fr : Nat → Nat} {rz : Option Nat} {wk : Nat → Nat} {bu re sb sr u w : Nat}
/-- the statement on top of those under way -/
theorem Core.top (h : Core T k (n + 1) fr rz wk bu re sb sr u w S M) : n < 128 ∧ fr n < 120 ∧ fr n < k ∧ k ≤ 120 ∧ 1 ≤ ht T (fr n) ∧ ht T (fr n) ≤ 16 ∧ SV T (fr n) ∧ n + ht T (fr n) ≤ 128 ∧ cFr T k fr rz wk S M n := by
  obtain ⟨⟨p1, p2, p3, p4⟩, -, -, -, -, -, -, -, -, -, c11, -, c8⟩ := h
  have hf := c11 n (by omega)
  obtain ⟨q1, q2, q3⟩ := p3 _ hf.2.2.1
  have h4 := hf.2.2.2.1
  simp only [cN] at c8
  exact ⟨by omega, by have := hf.2.2.1; omega, hf.2.2.1, p2, q1, q2, q3, by omega, hf⟩
theorem Core.of (h : Core T k (n + 1) fr rz wk bu re sb sr u w S M) : (∀ z, gOf S 1800 z (nI (fr n)) = T 0 (fr n)) ∧ (∀ z, gOf S 1900 z (nI (fr n)) = T 1 (fr n)) ∧ (∀ z, gOf S 2000 z (nI (fr n)) = T 2 (fr n)) ∧ (∀ z, gOf S 2100 z (nI (fr n)) = T 3 (fr n)) ∧ M 100 (fr n) = T 0 (fr n) ∧ M 200 (fr n) = T 1 (fr n) ∧ M 300 (fr n) = T 2 (fr n) ∧ M 400 (fr n) = T 3 (fr n) := by
  obtain ⟨-, t2, h1, -⟩ := h.top
  obtain ⟨⟨p1, p2, p3, p4⟩, ⟨g1, g2, g3⟩, -⟩ := h
  obtain ⟨e1, e2, e3, e4, e5, e6, e7, e8⟩ := g1 _ t2
  have hk : S 1706 0 = nI k := g3.1.trans p1
  exact ⟨fun z => by rw [gOf_e hk h1 p2, e1], fun z => by rw [gOf_e hk h1 p2, e2], fun z => by rw [gOf_e hk h1 p2, e3], fun z => by rw [gOf_e hk h1 p2, e4], e5, e6, e7, e8⟩
theorem cSg.nz {s i : Nat} (h : cSg T s rz S M i) : ¬ S 1300 i = 0 := by
  rcases h with ⟨h, -⟩ | ⟨h, -⟩ | ⟨h, -⟩ <;> rw [h] <;> decide
theorem Core.step (h : Core T k (n + 1) fr rz wk bu re sb sr u w S M) (hd : S 1105 0 = nI (n + 1)) : rStep S = rGoOn S (nI (fr n)) := by
  have ht := h.top
  have hf := ht.2.2.2.2.2.2.2.2
  rw [rStep, fGet_e hd (by omega), fGet_e hd (by omega), if_neg hf.2.2.2.2.2.1.nz, hf.1]
theorem cN_succ (T : Sx) (fr : Nat → Nat) (n : Nat) : cN T fr (n + 1) = cN T fr n + (if T 0 (fr n) = 15 then 1 else 0) := rfl
theorem cStk.pop (h : cStk T k fr rz wk (n + 1) S M) : cStk T k fr rz wk n S M := fun i hi => h i (by omega)
theorem fEmpty_f {m : Nat} (hd : S 1105 0 = nI (m + 1)) (hm : m < 1000) : fEmpty S = false := by rw [fEmpty, hd]; simpa using nI_ne0 (n := m + 1) (by omega) (by omega)
theorem gLeave_no {i s : Nat} (h1 : ¬ M 100 s = 20) (h2 : ¬ M 100 s = 15) : gLeave M i s = M := by rw [gLeave, gLv1, if_neg h1, gLv2, if_neg h2]
/-- the topmost part ends, nothing of the common state changed but what is given -/
theorem Core.down {S1 M1 : Sx} (h : Core T k (n + 1) fr rz wk bu re sb sr u w S M) (hrz : rz ≠ some n) (dS : Df [8, 1105] S S1) (dM : Df [30, 37] M M1) (h15 : ¬ T 0 (fr n) = 15) : Core T k n fr rz wk bu re sb sr u w S1 M1 := by
  obtain ⟨c1, c2, c3, c4, c5, c6, c7, c8, c9, c10, c11, c12, c13⟩ := h
  rw [cN_succ, if_neg h15, Nat.add_zero] at c9 c13
  exact ⟨c1, c2.cg dS dM rfl rfl, c3.cg dS dM rfl rfl, c4.cg dS dM rfl rfl, c5, c6.cg dS dM rfl rfl, c7.cg dS dM rfl rfl, c8.cg dS dM rfl rfl, c9.cg dS dM rfl rfl, c10.cg dS dM rfl rfl, c11.pop.cg (StE.df dS rfl) (StE.df dM rfl), fun r hr => by
    have := c12 r hr
    rcases Nat.lt_or_ge r n with h | h
    · exact h
    · exact absurd (by rw [hr]; congr 1; omega) hrz, c13⟩
/-- one part ends in a run that is stopped within the reserve -/
theorem drain_step {r : Nat} (h : Core T k (n + 1) fr (some r) wk bu re sb sr u w S M) (hr : r < n) (hd : S 1105 0 = nI (n + 1)) (he : S 8 0 = 3) :
    Core T k n fr (some r) wk bu re sb sr u w (rStep S) (gLeave (sw M 30 0 (nI n)) n (fr n)) ∧ rStep S 1105 0 = nI n ∧ rStep S 8 0 = 3 := by
  have ht := h.top
  obtain ⟨o1, o2, o3, o4, o5, o6, o7, o8⟩ := h.of
  have hf := ht.2.2.2.2.2.2.2.2
  have hstep := h.step hd
  have hby : pBy S = true := by
    have hb : S 607 0 = 1 := h.2.2.2.2.2.2.2.2.2.1.1
    simp [pBy, hb]
  have hnr : (some r : Option Nat) ≠ some n := fun e => by injection e; omega
  have hg : fGet S 1300 0 = S 1300 n := fGet_e hd (by omega)
  have hcl : fClose S = sw S 1105 0 (nI n) := fClose_e hd (by omega)
  have hno : ¬ T 0 (fr n) = 15 → ¬ T 0 (fr n) = 20 → rStep S = fClose S ∨ rStep S = rEnd S 3 → Core T k n fr (some r) wk bu re sb sr u w (rStep S) (gLeave (sw M 30 0 (nI n)) n (fr n)) ∧ rStep S 1105 0 = nI n ∧ rStep S 8 0 = 3 := by
    intro a15 a20 hs
    rw [gLeave_no (by rw [sw_ne (by decide), o5]; exact a20) (by rw [sw_ne (by decide), o5]; exact a15)]
    rcases hs with hs | hs
    · rw [hs, hcl]
      exact ⟨h.down hnr ((Df.rf.to 1105 0 _).mono rfl) ((Df.rf.to 30 0 _).mono rfl) a15, sw_eq, by rw [sw_ne (by decide)]; exact he⟩
    · rw [hs, rEnd, fClose_e (n := n) (by rw [sw_ne (by decide)]; exact hd) (by omega)]
      exact ⟨h.down hnr (((Df.rf.to 8 0 _).to 1105 0 _).mono rfl) ((Df.rf.to 30 0 _).mono rfl) a15, sw_eq, by rw [sw_ne (by decide), sw_eq]⟩
  have n0 : ¬ (3 : Int32) = 0 := by decide
  have n1 : ¬ (3 : Int32) = 1 := by decide
  have n2 : ¬ (3 : Int32) = 2 := by decide
  rcases hf.2.2.2.2.1 with c | c | c | c | c | c | c
  · refine hno (by rw [c]; decide) (by rw [c]; decide) (Or.inl ?_)
    rw [hstep, rGoOn, o1, c, if_pos rfl, rBoth, he, if_neg n0, ite_self]
  · refine hno (by rw [c]; decide) (by rw [c]; decide) (Or.inl ?_)
    rw [hstep, rGoOn, o1, c, if_neg (by decide), if_neg (by decide), if_neg (by decide), if_neg (by decide), if_neg (by decide), if_neg (by decide)]
  · refine hno (by rw [c]; decide) (by rw [c]; decide) (Or.inl ?_)
    rw [hstep, rGoOn, o1, c, if_neg (by decide), if_pos rfl, rLoop, he, if_neg n0]
  · -- CALL
    obtain ⟨c1, c2, c3, c4, c5, c6, c7, c8, c9, c10, c11, c12, c13⟩ := id h
    have hs : rStep S = sw (sw (sw S 6 0 (S 6 0 - 1)) 8 0 3) 1105 0 (nI n) := by
      rw [hstep, rGoOn, o1, c, if_neg (by decide), if_neg (by decide), if_pos rfl, he, if_neg n1, rEnd, fClose_e (n := n) (by rw [sw_ne (by decide), sw_ne (by decide)]; exact hd) (by omega)]
    have hph : M 1700 n = 1 := by
      rcases hf.2.2.2.2.2.1 with ⟨-, q, -⟩ | ⟨-, -, -, q⟩ | ⟨-, -, q, -⟩
      · exact q
      · rcases q with q | q | ⟨q, -⟩ <;> rw [c] at q <;> exact absurd q (by decide)
      · rw [c] at q; exact absurd q (by decide)
    have hl : gLeave (sw M 30 0 (nI n)) n (fr n) = sw (sw M 30 0 (nI n)) 36 0 (M 36 0 - 1) := by
      rw [gLeave, gLv1, if_neg (by rw [sw_ne (by decide), o5, c]; decide), gLv2, if_pos (by rw [sw_ne (by decide), o5, c]), if_pos (by rw [sw_ne (by decide)]; exact hph), sw_ne (by decide)]
    rw [hs, hl]
    have dS : Df [1105, 8, 6] S (sw (sw (sw S 6 0 (S 6 0 - 1)) 8 0 3) 1105 0 (nI n)) := ((Df.rf.to 6 0 _).to 8 0 _).to 1105 0 _
    have dM : Df [36, 30] M (sw (sw M 30 0 (nI n)) 36 0 (M 36 0 - 1)) := (Df.rf.to 30 0 _).to 36 0 _
    rw [cN_succ, if_pos c] at c9 c13
    refine ⟨⟨c1, c2.cg dS dM rfl rfl, c3.cg dS dM rfl rfl, c4.cg dS dM rfl rfl, c5, c6.cg dS dM rfl rfl, c7.cg dS dM rfl rfl, c8.cg dS dM rfl rfl, ⟨?_, ?_, c9.2.2⟩, c10.cg dS dM rfl rfl, c11.pop.cg (StE.df dS rfl) (StE.df dM rfl), fun r' hr' => by injection hr'; omega, by omega⟩, sw_eq, by rw [sw_ne (by decide), sw_eq]⟩
    · rw [sw_ne (by decide), sw_ne (by decide), sw_eq, c9.1, nI_pred]
    · rw [sw_eq, c9.2.1, nI_pred]
  · refine hno (by rw [c]; decide) (by rw [c]; decide) (Or.inl ?_)
    rw [hstep, rGoOn, o1, c, if_neg (by decide), if_neg (by decide), if_neg (by decide), if_pos rfl, rTry, he, if_neg n2]
  · have a15 : ¬ T 0 (fr n) = 15 := by rw [c]; decide
    have a20 : ¬ T 0 (fr n) = 20 := by rw [c]; decide
    rcases hf.2.2.2.2.2.1 with ⟨q, -⟩ | ⟨q, -⟩ | ⟨-, -, -, q⟩
    · refine hno a15 a20 (Or.inr ?_)
      have g1 : lpA S = S := by rw [lpA, if_pos he]
      have g2 : lpOk S = false := by rw [lpOk, if_pos he]
      rw [hstep, rGoOn, o1, c, if_neg (by decide), if_neg (by decide), if_neg (by decide), if_neg (by decide), if_pos rfl, hg, q, if_pos rfl, rBeginLast, lpG, lpS, g1, g2, hby]
      rfl
    · refine hno a15 a20 (Or.inl ?_)
      rw [hstep, rGoOn, o1, c, if_neg (by decide), if_neg (by decide), if_neg (by decide), if_neg (by decide), if_pos rfl, hg, q, if_neg (by decide), rEndLast, hg, q, if_neg (by decide), he, if_neg n0]
    · exact absurd q hnr
  · -- GUARD
    have hsv := ht.2.2.2.2.2.2.1
    obtain ⟨c1, c2, c3, c4, c5, c6, c7, c8, c9, c10, c11, c12, c13⟩ := id h
    obtain ⟨a, ea, hab⟩ : inN 4 (T 1 (fr n)) := by
      rcases hsv with q | q | q | q | q | q | q | q | q | q | q | q | q | q | q | q | q | q
      all_goals first | exact q.2.1 | (exfalso; rw [c] at q; revert q; decide) | (exfalso; have q1 := q.1; rw [c] at q1; revert q1; decide)
    have hs : rStep S = sw (sw S 1000 a (S 1000 a - 1)) 1105 0 (nI n) := by
      rw [hstep, rGoOn, o1, o2, c, if_neg (by decide), if_neg (by decide), if_neg (by decide), if_neg (by decide), if_neg (by decide), if_pos rfl, ea, lFree, if_pos (show inb (nI a) 4 = true from inb_nI (b := 4) hab (by omega)), cl a, fClose_e (n := n) (by rw [sw_ne (by decide)]; exact hd) (by omega)]
    have hph : M 1700 n = 1 := by
      rcases hf.2.2.2.2.2.1 with ⟨-, q, -⟩ | ⟨-, -, -, q⟩ | ⟨-, -, q, -⟩
      · exact q
      · rcases q with q | q | ⟨q, -⟩ <;> rw [c] at q <;> exact absurd q (by decide)
      · rw [c] at q; exact absurd q (by decide)
    have hl : gLeave (sw M 30 0 (nI n)) n (fr n) = sw (sw M 30 0 (nI n)) 900 a (M 900 a - 1) := by
      rw [gLeave, gLv1, if_pos (by rw [sw_ne (by decide), o5, c]), if_pos (by rw [sw_ne (by decide)]; exact hph), sw_ne (by decide), o6, ea, cl a, sw_ne (by decide), gLv2, if_neg (by rw [sw_ne (by decide), sw_ne (by decide), o5, c]; decide)]
    rw [hs, hl]
    have dS : Df [1105, 1000] S (sw (sw S 1000 a (S 1000 a - 1)) 1105 0 (nI n)) := (Df.rf.to 1000 a _).to 1105 0 _
    have dM : Df [900, 30] M (sw (sw M 30 0 (nI n)) 900 a (M 900 a - 1)) := (Df.rf.to 30 0 _).to 900 a _
    rw [cN_succ, if_neg (by rw [c]; decide), Nat.add_zero] at c9 c13
    refine ⟨⟨c1, c2.cg dS dM rfl rfl, c3.cg dS dM rfl rfl, c4.cg dS dM rfl rfl, c5, ⟨fun i hi => ?_, c6.2⟩, c7.cg dS dM rfl rfl, c8.cg dS dM rfl rfl, c9.cg dS dM rfl rfl, c10.cg dS dM rfl rfl, c11.pop.cg (StE.df dS rfl) (StE.df dM rfl), fun r' hr' => by injection hr'; omega, c13⟩, sw_eq, by rw [sw_ne (by decide), sw_ne (by decide)]; exact he⟩
    by_cases e : i = a
    · subst e
      rw [sw_ne (by decide), sw_eq, sw_eq, c6.1 i hi]
    · rw [sw_ne (by decide), sw_ix e, sw_ix e, sw_ne (by decide)]
      exact c6.1 i hi
theorem cStk.none {r : Nat} (h : cStk T k fr (some r) wk r S M) : cStk T k fr none wk r S M := fun i hi => by
  obtain ⟨a1, a2, a3, a4, a5, a6, a7⟩ := h i hi
  refine ⟨a1, a2, a3, a4, a5, ?_, a7⟩
  rcases a6 with ⟨x1, x2, -⟩ | ⟨x1, x2, -, x3⟩ | ⟨-, -, -, x⟩
  · exact Or.inl ⟨x1, x2, by simp⟩
  · exact Or.inr (Or.inl ⟨x1, x2, by simp, x3⟩)
  · injection x; omega
/-- a run that is stopped within the reserve comes to the last part that the reserve did -/
theorem drain {r : Nat} : ∀ (t : Nat) {S M : Sx}, Core T k (r + t + 1) fr (some r) wk bu re sb sr u w S M → S 1105 0 = nI (r + t + 1) → S 8 0 = 3 →
    ∃ S1, CR (t + 1) S S1 ∧ RetSt T k r fr none wk bu re sb sr u w 3 S1 (sw (sw (gDrain r (t + 1) M) 38 0 (-1)) 37 0 3) := by
  intro t
  induction t with
  | zero =>
    intro S M h hd he
    have h : Core T k (r + 1) fr (some r) wk bu re sb sr u w S M := h
    have ht := h.top
    obtain ⟨o1, o2, o3, o4, o5, o6, o7, o8⟩ := h.of
    have hf := ht.2.2.2.2.2.2.2.2
    have hd : S 1105 0 = nI (r + 1) := hd
    have hstep := h.step hd
    have hg : fGet S 1300 0 = S 1300 r := fGet_e hd (by omega)
    obtain ⟨q, -, c, -⟩ : S 1300 r = 3 ∧ M 1700 r = 2 ∧ T 0 (fr r) = 19 ∧ (some r : Option Nat) = some r := by
      rcases hf.2.2.2.2.2.1 with ⟨-, -, q⟩ | ⟨-, -, q, -⟩ | q
      · exact absurd rfl q
      · exact absurd rfl q
      · exact q
    have hs : rStep S = sw (sw (sw S 607 0 0) 8 0 3) 1105 0 (nI r) := by
      rw [hstep, rGoOn, o1, c, if_neg (by decide), if_neg (by decide), if_neg (by decide), if_neg (by decide), if_pos rfl, hg, q, if_neg (by decide), rEndLast, hg, q, if_pos rfl, fClose_e (n := r) (by rw [sw_ne (by decide), sw_ne (by decide)]; exact hd) (by omega)]
    obtain ⟨c1, c2, c3, c4, c5, c6, c7, c8, c9, c10, c11, c12, c13⟩ := id h
    have hgd : gDrain r (0 + 1) M = sw M 30 0 (nI r) := by
      show gLeave (sw M 30 0 (nI r)) r (M 1600 r).toNatClampNeg = _
      rw [hf.2.1, cl (fr r), gLeave_no (by rw [sw_ne (by decide), o5, c]; decide) (by rw [sw_ne (by decide), o5, c]; decide)]
    rw [hgd]
    have dS : Df [1105, 8, 607] S (sw (sw (sw S 607 0 0) 8 0 3) 1105 0 (nI r)) := ((Df.rf.to 607 0 _).to 8 0 _).to 1105 0 _
    have dM : Df [37, 38, 30] M (sw (sw (sw M 30 0 (nI r)) 38 0 (-1)) 37 0 3) := ((Df.rf.to 30 0 _).to 38 0 _).to 37 0 _
    rw [cN_succ, if_neg (by rw [c]; decide), Nat.add_zero] at c9 c13
    refine ⟨_, ⟨fEmpty_f hd (by omega), rfl⟩, ?_⟩
    rw [hs]
    exact ⟨⟨c1, c2.cg dS dM rfl rfl, c3.cg dS dM rfl rfl, c4.cg dS dM rfl rfl, c5, c6.cg dS dM rfl rfl, c7.cg dS dM rfl rfl, c8.cg dS dM rfl rfl, c9.cg dS dM rfl rfl, ⟨rfl, rfl⟩, (c11.pop.none).cg (StE.df dS rfl) (StE.df dM rfl), (fun r hr => by cases hr), c13⟩, rfl, rfl, rfl, rfl, by simp, fun _ => rfl⟩
  | succ t ih =>
    intro S M h hd he
    have h : Core T k (r + (t + 1) + 1) fr (some r) wk bu re sb sr u w S M := h
    have ht := h.top
    obtain ⟨g1, g2, g3⟩ := drain_step h (by omega) hd he
    obtain ⟨S1, a1, a2⟩ := ih (S := rStep S) g1 g2 g3
    refine ⟨S1, ⟨fEmpty_f hd (by omega), a1⟩, ?_⟩
    have hf := ht.2.2.2.2.2.2.2.2
    have e : gDrain r (t + 1 + 1) M = gDrain r (t + 1) (gLeave (sw M 30 0 (nI (r + (t + 1)))) (r + (t + 1)) (fr (r + (t + 1)))) := by
      show gDrain r (t + 1) (gLeave (sw M 30 0 (nI (r + (t + 1)))) (r + (t + 1)) (M 1600 (r + (t + 1))).toNatClampNeg) = _
      rw [hf.2.1, cl (fr (r + (t + 1)))]
    rw [e]
    exact a2
end DRAIN
