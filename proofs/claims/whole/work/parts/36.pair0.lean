theorem cx_told {d : Nat} {S : Sx} {Q : Option Value → Sx → Prop} {sg so : List Nat} {w : Int32} (hL : LatW S sg so) (hw : wfR (plS sg S)) (hQ : Q (some (.int (rTell (plS sg S) w))) (S)) : CC (d + 12) kX9_told layX [.ref 0, .int w] S Q := by
  rcases hL with ⟨rfl, rfl, h1, h2⟩ | ⟨rfl, rfl, h1, h2⟩
  · exact sp_X9_told_A h1 h2 hw hQ
  · exact sp_X9_told_B h1 h2 hw hQ
theorem cx_marks {d : Nat} {S : Sx} {Q : Option Value → Sx → Prop} {sg so : List Nat} {m : Int32} (hL : LatW S sg so) (hw : wfR (plS sg S)) (hQ : Q (some (.int (if inb m 5 then pMarks (plS sg S) m else -2))) (S)) : CC (d + 12) kX9_marks layX [.ref 0, .int m] S Q := by
  rcases hL with ⟨rfl, rfl, h1, h2⟩ | ⟨rfl, rfl, h1, h2⟩
  · exact sp_X9_marks_A h1 h2 hw hQ
  · exact sp_X9_marks_B h1 h2 hw hQ
theorem cx_began {d : Nat} {S : Sx} {Q : Option Value → Sx → Prop} {sg so : List Nat} {k : Int32} (hL : LatW S sg so) (hw : wfR (plS sg S)) (hQ : Q (some (.int (if 0 ≤ k then pBegun (plS sg S) k else -2))) (S)) : CC (d + 12) kX9_began layX [.ref 0, .int k] S Q := by
  rcases hL with ⟨rfl, rfl, h1, h2⟩ | ⟨rfl, rfl, h1, h2⟩
  · exact sp_X9_began_A h1 h2 hw hQ
  · exact sp_X9_began_B h1 h2 hw hQ
theorem cx_variable {d : Nat} {S : Sx} {Q : Option Value → Sx → Prop} {sg so : List Nat} {x : Int32} (hL : LatW S sg so) (hw : wfR (plS sg S)) (hQ : Q (some (.int (mRead (plS sg S) x))) (S)) : CC (d + 12) kX9_variable layX [.ref 0, .int x] S Q := by
  rcases hL with ⟨rfl, rfl, h1, h2⟩ | ⟨rfl, rfl, h1, h2⟩
  · exact sp_X9_variable_A h1 h2 hw hQ
  · exact sp_X9_variable_B h1 h2 hw hQ
theorem cx_size {d : Nat} {S : Sx} {Q : Option Value → Sx → Prop} {sg so : List Nat} {r : Int32} (hL : LatW S sg so) (hw : wfR (plS sg S)) (hQ : Q (some (.int (if inb r 4 then mLen (plS sg S) r else -2))) (S)) : CC (d + 12) kX9_size layX [.ref 0, .int r] S Q := by
  rcases hL with ⟨rfl, rfl, h1, h2⟩ | ⟨rfl, rfl, h1, h2⟩
  · exact sp_X9_size_A h1 h2 hw hQ
  · exact sp_X9_size_B h1 h2 hw hQ
theorem cx_drop {d : Nat} {S : Sx} {Q : Option Value → Sx → Prop} {sg so : List Nat} (hL : LatW S sg so) (hw : wfR (plS sg S)) (hQ : Q (some (.int (if gCan (plS sg S) then imax 0 ((plS sg S) 1706 0 - 1) else -2))) (if gCan (plS sg S) then psS sg S (gLose (plS sg S)) else S)) : CC (d + 12) kX9_drop layX [.ref 0] S Q := by
  rcases hL with ⟨rfl, rfl, h1, h2⟩ | ⟨rfl, rfl, h1, h2⟩
  · exact sp_X9_drop_A h1 h2 hw hQ
  · exact sp_X9_drop_B h1 h2 hw hQ
theorem cx_make {d : Nat} {S : Sx} {Q : Option Value → Sx → Prop} {sg so : List Nat} {t a b c : Int32} (hL : LatW S sg so) (hw : wfR (plS sg S)) (hQ : Q (some (.int (if gTakes (plS sg S) t a b c then (if gFull (plS sg S) then -3 else (plS sg S) 1706 0 + 1 - 1) else -2))) (if gTakes (plS sg S) t a b c then (if gFull (plS sg S) then S else psS sg S (gAdd (plS sg S) t a b c)) else S)) : CC (d + 12) kX9_make layX [.ref 0, .int t, .int a, .int b, .int c] S Q := by
  rcases hL with ⟨rfl, rfl, h1, h2⟩ | ⟨rfl, rfl, h1, h2⟩
  · exact sp_X9_make_A h1 h2 hw hQ
  · exact sp_X9_make_B h1 h2 hw hQ
theorem cx_body {d : Nat} {S : Sx} {Q : Option Value → Sx → Prop} {sg so : List Nat} {m s : Int32} (hL : LatW S sg so) (hw : wfR (plS sg S)) (hQ : Q (some (.int (if inb m 8 then (if s = -1 then 1 else if inb s ((plS sg S) 1706 0) then 1 else -2) else -2))) (if inb m 8 then (if s = -1 then psS sg S (gSetBody (plS sg S) m s) else if inb s ((plS sg S) 1706 0) then psS sg S (gSetBody (plS sg S) m s) else S) else S)) : CC (d + 12) kX9_body layX [.ref 0, .int m, .int s] S Q := by
  rcases hL with ⟨rfl, rfl, h1, h2⟩ | ⟨rfl, rfl, h1, h2⟩
  · exact sp_X9_body_A h1 h2 hw hQ
  · exact sp_X9_body_B h1 h2 hw hQ
theorem cx_count {d : Nat} {S : Sx} {Q : Option Value → Sx → Prop} {sg so : List Nat} {w : Int32} (hL : LatW S sg so) (hw : wfR (plS sg S)) (hQ : Q (some (.int (if w = 4 then (plS sg S) 1706 0 else if w = 5 then gBodF (plS sg S) 8 0 0 else if inb w 4 then S 100 w.toNatClampNeg else -2))) (S)) : CC (d + 12) kX9_count layX [.ref 0, .int w] S Q := by
  rcases hL with ⟨rfl, rfl, h1, h2⟩ | ⟨rfl, rfl, h1, h2⟩
  · exact sp_X9_count_A h1 h2 hw hQ
  · exact sp_X9_count_B h1 h2 hw hQ
section PAIR0
variable {X S M : Sx} {sg so : List Nat} {k : Nat}
theorem inb_lt {x : Int32} {n : Int32} {b : Nat} (hn : n.toInt = b) (h : inb x n = true) : x.toNatClampNeg < b := Nat.lt_of_not_le (fun q => (vin hn h) (Or.inr q))
theorem inb_eq {x : Int32} {n : Int32} (h : inb x n = true) : x = nI x.toNatClampNeg := by
  have h1 := inb_iff.mp h
  apply Int32.toInt_inj.mp
  have e : (x.toNatClampNeg : Int) = x.toInt := Int.toNat_of_nonneg h1.1
  have hlt : x.toInt < 2147483648 := Int32.toInt_lt x
  rw [nI_toInt (by omega)]
  exact e.symm
theorem inb_ex {x : Int32} {n : Nat} (hn : n < 2000000000) (h : inb x (nI n) = true) : ∃ v : Nat, x = nI v ∧ v < n := ⟨x.toNatClampNeg, inb_eq h, inb_lt (nI_toInt (by omega)) h⟩
theorem obs_row (h : Obs X M) {r : Nat} (hr : r < 4) : (M 800 r = -1 ∧ X 400 r = -1) ∨ ∃ x len at_ : Nat, M 800 r = nI x ∧ x < 200 ∧ M 1000 x = nI len ∧ M 1100 x = nI at_ ∧ X 400 r = nI len ∧ X 300 r = nI at_ ∧ at_ + len ≤ 800 ∧ ∀ i, i < len → X 500 (at_ + i) = M 1200 (at_ + i) := by
  obtain ⟨bu, re, sb, sr, u, w, ⟨m1, m2, m3, m4, m5, m6, m7, m8⟩, -, ⟨l1, l2, l3, l4⟩, -⟩ := h
  rcases m6 r hr with q | ⟨x, len, at_, q1, q2, q3, q4, q5, q6, q7⟩
  · exact Or.inl q
  · exact Or.inr ⟨x, len, at_, q1, by omega, q3, q4, q5, q6, by omega, fun i hi => m7 _ (by omega)⟩
theorem obs_rowOk (h : Obs X M) : gRowOk M := fun r hr => by
  rcases obs_row h hr with q | ⟨x, len, at_, q1, q2, q3, q4, q5, q6, q7, -⟩
  · exact Or.inl q.1
  · exact Or.inr ⟨x, len, at_, q1, by omega, q3, q4, by omega⟩
theorem told_eq (h : Obs X M) (w : Int32) : rTell X w = gTold M w := by
  obtain ⟨bu, re, sb, sr, u, v, c1, c2, c3, c4, c5, c6, c7, c8, c9⟩ := h
  have e1 : (if X 5 0 = 2 then X 9 0 else 0) = M 27 0 := c8
  have e2 : (if X 5 0 = 2 then X 10 0 else 0) = M 28 0 := c9
  rw [c7] at e1 e2
  have e4 : X 605 0 = M 18 0 := c2.2.2.2.2.1.trans c2.2.2.2.2.2.1.symm
  have e5 : X 606 0 = M 19 0 := c2.2.2.2.2.2.2.1.trans c2.2.2.2.2.2.2.2.1.symm
  have e8 : lSum X = M 900 0 + M 900 1 + M 900 2 + M 900 3 := by
    rw [lSum, c4.1 0 (by omega), c4.1 1 (by omega), c4.1 2 (by omega), c4.1 3 (by omega), Int32.zero_add]
  simp only [rTell, gTold, e1, e2, c7, c1.2.1, e4, e5, c6, c4.2, e8]
theorem size_eq (h : Obs X M) (r : Int32) : (if inb r 4 then mLen X r else -2) = gSize M r := by
  unfold gSize mLen
  by_cases q : inb r 4 = true
  · have hr : r.toNatClampNeg < 4 := inb_lt (by decide) q
    simp only [q, ↓reduceIte]
    rcases obs_row h hr with ⟨a1, a2⟩ | ⟨x, len, at_, q1, q2, q3, q4, q5, q6, q7, -⟩
    · rw [if_pos a1, a2]
    · rw [if_neg (by rw [q1]; exact nI_neM (by omega)), q1, cl x, q3, q5]
  · simp only [q, ↓reduceIte, Bool.false_eq_true]
/-- how item ends: 0, or what it throws -/
def xItK (X : Sx) (r i : Int32) : Int32 := if inb r 4 then (if mLen X r = -1 then 1 else if inb i (mLen X r) then 0 else 2) else 2
theorem item_eq (h : Obs X M) (r i : Int32) : gItK M r i = xItK X r i ∧ (xItK X r i = 0 → gItV M r i = mLoad X r i) := by
  unfold gItK xItK gItV mLoad
  by_cases q : inb r 4 = true
  · have hr : r.toNatClampNeg < 4 := inb_lt (by decide) q
    have hl : mLen X r = X 400 r.toNatClampNeg := by rw [mLen, if_pos q]
    simp only [q, ↓reduceIte, hl]
    rcases obs_row h hr with ⟨a1, a2⟩ | ⟨x, len, at_, q1, q2, q3, q4, q5, q6, q7, q8⟩
    · rw [if_pos a1, if_pos a2]
      exact ⟨rfl, fun z => absurd z (by decide)⟩
    · have n1 : ¬ nI x = -1 := nI_neM (by omega)
      have n2 : ¬ nI len = -1 := nI_neM (by omega)
      rw [q1, q5, if_neg n1, if_neg n1, if_neg n2, cl x, q3, q4, q6]
      refine ⟨rfl, fun z => ?_⟩
      by_cases z1 : inb i (nI len) = true
      · rw [if_pos z1, if_pos z1]
        obtain ⟨v, rfl, hv⟩ := inb_ex (by omega) z1
        rw [nI_add, cl (at_ + v)]
        exact (q8 v hv).symm
      · rw [if_neg z1] at z
        exact absurd z (by decide)
  · simp only [q, Bool.false_eq_true, ↓reduceIte]
    exact ⟨trivial, fun z => absurd z (by decide)⟩
theorem bod_eq (h : ∀ m, m < 8 → X 2300 m = M 600 m) : ∀ (t i : Nat) (x : Int32), i + t = 8 → gBodF X t i x = gBodF (mP M) t i x := by
  intro t
  induction t with
  | zero => intro i x _; rfl
  | succ t ih =>
    intro i x hi
    rw [bod_s, gBodF, h i (by omega)]
    exact ih (i + 1) _ (by omega)
theorem can_eq (h : ∀ m, m < 8 → X 2300 m = M 600 m) (h1 : X 1706 0 = M 1 0) : ∀ (t i : Nat), i + t = 8 → gCanF X t i = gCanF (mP M) t i := by
  intro t
  induction t with
  | zero => intro i _; rfl
  | succ t ih =>
    intro i hi
    rw [can_s, gCanF, h i (by omega), h1, ih (i + 1) (by omega)]
theorem RelC.many (h : RelC sg so k S M) : plS sg S 1706 0 = nI k ∧ k ≤ 120 ∧ M 1 0 = nI k := ⟨h.pv.1, h.pv.2.1, h.prog.2.2.symm.trans h.pv.1⟩
theorem pair_told (h : Rel S M) (w : Int32) : Pair kX9_told kX10_told [.int w] S M := by
  obtain ⟨sg, so, k, h⟩ := h
  exact Pair.of (fun d Q hQ => cx_told h.lat h.wf hQ) (fun d Q hQ => sp_X10_told (by rw [← told_eq h.obs]; exact hQ _ ⟨sg, so, k, h.m0 df0⟩))
theorem pair_marks (h : Rel S M) (w : Int32) : Pair kX9_marks kX10_marks [.int w] S M := by
  obtain ⟨sg, so, k, h⟩ := h
  refine Pair.of (fun d Q hQ => cx_marks h.lat h.wf hQ) (fun d Q hQ => sp_X10_marks ?_)
  have e : (if inb w 5 then pMarks (plS sg S) w else -2) = (if inb w 5 then M 1300 w.toNatClampNeg else -2) := ?_
  · rw [← e]; exact hQ _ ⟨sg, so, k, h.m0 df0⟩
  · by_cases q : inb w 5 = true
    · obtain ⟨bu, re, sb, sr, u, v, c1, c2, -⟩ := h.obs
      simp only [q, ↓reduceIte, pMarks]
      exact c2.2.2.2.2.2.2.2.2 _ (inb_lt (by decide) q)
    · simp only [q, Bool.false_eq_true, ↓reduceIte]
theorem pair_variable (h : Rel S M) (w : Int32) : Pair kX9_variable kX10_variable [.int w] S M := by
  obtain ⟨sg, so, k, h⟩ := h
  refine Pair.of (fun d Q hQ => cx_variable h.lat h.wf hQ) (fun d Q hQ => sp_X10_variable ?_)
  have e : mRead (plS sg S) w = (if inb w 8 then M 700 w.toNatClampNeg else 0) := ?_
  · rw [← e]; exact hQ _ ⟨sg, so, k, h.m0 df0⟩
  · unfold mRead
    by_cases q : inb w 8 = true
    · obtain ⟨bu, re, sb, sr, u, v, c1, -⟩ := h.obs
      simp only [q, ↓reduceIte]
      exact c1.1 _ (inb_lt (by decide) q)
    · simp only [q, Bool.false_eq_true, ↓reduceIte]
theorem pair_size (h : Rel S M) (w : Int32) : Pair kX9_size kX10_size [.int w] S M := by
  obtain ⟨sg, so, k, h⟩ := h
  exact Pair.of (fun d Q hQ => cx_size h.lat h.wf hQ) (fun d Q hQ => sp_X10_size (obs_rowOk h.obs) (by rw [← size_eq h.obs]; exact hQ _ ⟨sg, so, k, h.m0 df0⟩))
theorem pair_began (h : Rel S M) (w : Int32) : Pair kX9_began kX10_began [.int w] S M := by
  obtain ⟨sg, so, k, h⟩ := h
  obtain ⟨bu, re, sb, sr, u, v, c1, c2, c3, c4, ⟨g, g1, g2, g3, g4⟩, -⟩ := id h.obs
  refine Pair.of (fun d Q hQ => cx_began h.lat h.wf hQ) (fun d Q hQ => sp_X10_began g3 g1 ?_)
  have e : (if 0 ≤ w then pBegun (plS sg S) w else -2) = (if 0 ≤ w then (if nI g ≤ w then -1 else M 1400 w.toNatClampNeg) else -2) := ?_
  · rw [← e]; exact hQ _ ⟨sg, so, k, h.m0 df0⟩
  · by_cases q : 0 ≤ w
    · rw [if_pos q, if_pos q, pBegun, g2]
      by_cases z : nI g ≤ w
      · rw [if_pos z, if_neg (by rw [inb_ge z]; decide)]
      · have hi : inb w (nI g) = true := inb_in (Int32.not_lt.mpr q) z
        rw [if_neg z, if_pos hi]
        exact g4 _ (inb_lt (nI_toInt (by omega)) hi)
    · rw [if_neg q, if_neg q]
theorem pair_count (h : Rel S M) (w : Int32) : Pair kX9_count kX10_count [.int w] S M := by
  obtain ⟨sg, so, k, h⟩ := h
  refine Pair.of (fun d Q hQ => cx_count h.lat h.wf hQ) (fun d Q hQ => sp_X10_count ?_)
  have e : (if w = 4 then (plS sg S) 1706 0 else if w = 5 then gBodF (plS sg S) 8 0 0 else if inb w 4 then S 100 w.toNatClampNeg else -2) = gCountM M w := ?_
  · rw [← e]; exact hQ _ ⟨sg, so, k, h.m0 df0⟩
  · unfold gCountM
    by_cases q4 : w = 4
    · subst q4
      rw [if_pos rfl, if_neg (by decide), if_pos (by decide), if_pos rfl]
      exact h.prog.2.2
    · rw [if_neg q4]
      by_cases q5 : w = 5
      · subst q5
        rw [if_pos rfl, if_neg (by decide), if_pos (by decide), if_neg (by decide), if_pos rfl]
        exact bod_eq h.prog.2.1 8 0 0 rfl
      · rw [if_neg q5]
        by_cases q : inb w 4 = true
        · have h1 := inb_iff.mp q
          have e0 : (0 : Int32).toInt = 0 := rfl
          have e3 : (3 : Int32).toInt = 3 := rfl
          have e4 : (4 : Int32).toInt = 4 := rfl
          rw [if_pos q, if_neg (by rw [i32_lt]; omega), if_neg (by rw [i32_lt]; omega)]
          exact h.cnt _ (inb_lt (by decide) q)
        · rw [if_neg q]
          by_cases z : w < 0
          · rw [if_pos z]
          · rw [if_neg z]
            by_cases z3 : 3 < w
            · rw [if_pos z3, if_neg q4, if_neg q5]
            · refine absurd (inb_in z ?_) q
              rw [i32_le]
              rw [i32_lt] at z3
              have e3 : (3 : Int32).toInt = 3 := rfl
              have e4 : (4 : Int32).toInt = 4 := rfl
              omega
end PAIR0
