theorem ob_eq {cA : ClassId} {ad : List Nat} {S : Sx} {b ci i a a' : Nat} {sl : List Slt} {fs : List Value} {w : va_W} (h1 : w[i]? = some (a, .inr (ci, fs))) (h2 : a = a') (hn : sl.length = fs.length) (h : ∀ (j : Nat) (x : Slt), sl[j]? = some x → fs[j]? = some (cv ad (slv S (100 * b + j) x))) : w[i]? = some (a', ce cA ad S b (.inr (ci, sl))) := by
  subst h2
  rw [h1]
  have e : sl.mapIdx (fun j x => cv ad (slv S (100 * b + j) x)) = fs := by
    apply List.ext_getElem?
    intro j
    rw [List.getElem?_mapIdx]
    cases hj : sl[j]? with
    | none =>
      have : sl.length ≤ j := by simpa using hj
      rw [List.getElem?_eq_none (by omega)]
      rfl
    | some x =>
      rw [h j x hj]
      rfl
  show some (a, Sum.inr (ci, fs)) = some (a, Sum.inr (ci, sl.mapIdx (fun j x => cv ad (slv S (100 * b + j) x))))
  rw [e]
def S0 : Sx := fun f i => if f = 2 then 9 else if f = 3 then 26 else if f = 800 then (fil (fun _ => fun _ => 0) 0 8 ((-1)) 0) i else if f = 905 then (-1) else if f = 1300 then (fil (fun _ => fun _ => 0) 0 4 ((-1)) 0) i else if f = 2605 then (-1) else if f = 3000 then (fil (fun _ => fun _ => 0) 0 4 ((-1)) 0) i else 0
def aX (h0 : Nat) (u : Nat → Nat) : List Nat := [h0, u 8, u 1, u 2, u 3, u 4, u 5, u 6, u 7, u 9, u 10, u 11, u 12, u 14, u 13, u 15, u 16, u 17, u 18, u 19, u 20, u 21, u 22, u 23, u 24, u 25, u 26, u 27, u 28, u 29, u 31, u 30, u 32, u 33, u 34, u 35, u 36, u 37, u 38, u 39, u 40, u 41, u 42]
def pX : List Nat := [0, 8, 1, 2, 3, 4, 5, 6, 7, 9, 10, 11, 12, 14, 13, 15, 16, 17, 18, 19, 20, 21, 22, 23, 24, 25, 26, 27, 28, 29, 31, 30, 32, 33, 34, 35, 36, 37, 38, 39, 40, 41, 42]
theorem pX_inj : ∀ i, i < 43 → ∀ j, j < 43 → pX.getD i 0 = pX.getD j 0 → i = j := by decide +kernel
set_option maxRecDepth 100000 in
set_option maxHeartbeats 4000000 in
theorem bX (cA : ClassId) (h0 : Nat) (u : Nat → Nat) : ∀ (k : Nat) (c : Lc), layX[k]? = some c → (B_X9_init cA h0 u)[pX.getD k 0]? = some ((aX h0 u).getD k 0, ce cA (aX h0 u) S0 k c) := by
  intro k c hc
  have h1 : k < 43 := (List.getElem?_eq_some_iff.mp hc).1
  rcases (show k = 0 ∨ k = 1 ∨ k = 2 ∨ k = 3 ∨ k = 4 ∨ k = 5 ∨ k = 6 ∨ k = 7 ∨ k = 8 ∨ k = 9 ∨ k = 10 ∨ k = 11 ∨ k = 12 ∨ k = 13 ∨ k = 14 ∨ k = 15 ∨ k = 16 ∨ k = 17 ∨ k = 18 ∨ k = 19 ∨ k = 20 ∨ k = 21 ∨ k = 22 ∨ k = 23 ∨ k = 24 ∨ k = 25 ∨ k = 26 ∨ k = 27 ∨ k = 28 ∨ k = 29 ∨ k = 30 ∨ k = 31 ∨ k = 32 ∨ k = 33 ∨ k = 34 ∨ k = 35 ∨ k = 36 ∨ k = 37 ∨ k = 38 ∨ k = 39 ∨ k = 40 ∨ k = 41 ∨ k = 42 by omega) with rfl | rfl | rfl | rfl | rfl | rfl | rfl | rfl | rfl | rfl | rfl | rfl | rfl | rfl | rfl | rfl | rfl | rfl | rfl | rfl | rfl | rfl | rfl | rfl | rfl | rfl | rfl | rfl | rfl | rfl | rfl | rfl | rfl | rfl | rfl | rfl | rfl | rfl | rfl | rfl | rfl | rfl | rfl
  · cases hc
    refine ob_eq rfl rfl rfl (fun j x hj => ?_)
    have h2 : j < 4 := (List.getElem?_eq_some_iff.mp hj).1
    rcases (show j = 0 ∨ j = 1 ∨ j = 2 ∨ j = 3 by omega) with rfl | rfl | rfl | rfl <;> (cases hj; rfl)
  · cases hc; rfl
  · cases hc
    refine ob_eq rfl rfl rfl (fun j x hj => ?_)
    have h2 : j < 7 := (List.getElem?_eq_some_iff.mp hj).1
    rcases (show j = 0 ∨ j = 1 ∨ j = 2 ∨ j = 3 ∨ j = 4 ∨ j = 5 ∨ j = 6 by omega) with rfl | rfl | rfl | rfl | rfl | rfl | rfl <;> (cases hj; rfl)
  · cases hc; rfl
  · cases hc; rfl
  · cases hc; rfl
  · cases hc; rfl
  · cases hc; rfl
  · cases hc; rfl
  · cases hc
    refine ob_eq rfl rfl rfl (fun j x hj => ?_)
    have h2 : j < 11 := (List.getElem?_eq_some_iff.mp hj).1
    rcases (show j = 0 ∨ j = 1 ∨ j = 2 ∨ j = 3 ∨ j = 4 ∨ j = 5 ∨ j = 6 ∨ j = 7 ∨ j = 8 ∨ j = 9 ∨ j = 10 by omega) with rfl | rfl | rfl | rfl | rfl | rfl | rfl | rfl | rfl | rfl | rfl <;> (cases hj; rfl)
  · cases hc
    refine ob_eq rfl rfl rfl (fun j x hj => ?_)
    have h2 : j < 6 := (List.getElem?_eq_some_iff.mp hj).1
    rcases (show j = 0 ∨ j = 1 ∨ j = 2 ∨ j = 3 ∨ j = 4 ∨ j = 5 by omega) with rfl | rfl | rfl | rfl | rfl | rfl <;> (cases hj; rfl)
  · cases hc; rfl
  · cases hc; rfl
  · cases hc; rfl
  · cases hc; rfl
  · cases hc
    refine ob_eq rfl rfl rfl (fun j x hj => ?_)
    have h2 : j < 8 := (List.getElem?_eq_some_iff.mp hj).1
    rcases (show j = 0 ∨ j = 1 ∨ j = 2 ∨ j = 3 ∨ j = 4 ∨ j = 5 ∨ j = 6 ∨ j = 7 by omega) with rfl | rfl | rfl | rfl | rfl | rfl | rfl | rfl <;> (cases hj; rfl)
  · cases hc; rfl
  · cases hc; rfl
  · cases hc
    refine ob_eq rfl rfl rfl (fun j x hj => ?_)
    have h2 : j < 2 := (List.getElem?_eq_some_iff.mp hj).1
    rcases (show j = 0 ∨ j = 1 by omega) with rfl | rfl <;> (cases hj; rfl)
  · cases hc; rfl
  · cases hc
    refine ob_eq rfl rfl rfl (fun j x hj => ?_)
    have h2 : j < 6 := (List.getElem?_eq_some_iff.mp hj).1
    rcases (show j = 0 ∨ j = 1 ∨ j = 2 ∨ j = 3 ∨ j = 4 ∨ j = 5 by omega) with rfl | rfl | rfl | rfl | rfl | rfl <;> (cases hj; rfl)
  · cases hc; rfl
  · cases hc; rfl
  · cases hc; rfl
  · cases hc; rfl
  · cases hc; rfl
  · cases hc
    refine ob_eq rfl rfl rfl (fun j x hj => ?_)
    have h2 : j < 11 := (List.getElem?_eq_some_iff.mp hj).1
    rcases (show j = 0 ∨ j = 1 ∨ j = 2 ∨ j = 3 ∨ j = 4 ∨ j = 5 ∨ j = 6 ∨ j = 7 ∨ j = 8 ∨ j = 9 ∨ j = 10 by omega) with rfl | rfl | rfl | rfl | rfl | rfl | rfl | rfl | rfl | rfl | rfl <;> (cases hj; rfl)
  · cases hc
    refine ob_eq rfl rfl rfl (fun j x hj => ?_)
    have h2 : j < 6 := (List.getElem?_eq_some_iff.mp hj).1
    rcases (show j = 0 ∨ j = 1 ∨ j = 2 ∨ j = 3 ∨ j = 4 ∨ j = 5 by omega) with rfl | rfl | rfl | rfl | rfl | rfl <;> (cases hj; rfl)
  · cases hc; rfl
  · cases hc; rfl
  · cases hc; rfl
  · cases hc; rfl
  · cases hc
    refine ob_eq rfl rfl rfl (fun j x hj => ?_)
    have h2 : j < 8 := (List.getElem?_eq_some_iff.mp hj).1
    rcases (show j = 0 ∨ j = 1 ∨ j = 2 ∨ j = 3 ∨ j = 4 ∨ j = 5 ∨ j = 6 ∨ j = 7 by omega) with rfl | rfl | rfl | rfl | rfl | rfl | rfl | rfl <;> (cases hj; rfl)
  · cases hc; rfl
  · cases hc; rfl
  · cases hc
    refine ob_eq rfl rfl rfl (fun j x hj => ?_)
    have h2 : j < 2 := (List.getElem?_eq_some_iff.mp hj).1
    rcases (show j = 0 ∨ j = 1 by omega) with rfl | rfl <;> (cases hj; rfl)
  · cases hc; rfl
  · cases hc
    refine ob_eq rfl rfl rfl (fun j x hj => ?_)
    have h2 : j < 6 := (List.getElem?_eq_some_iff.mp hj).1
    rcases (show j = 0 ∨ j = 1 ∨ j = 2 ∨ j = 3 ∨ j = 4 ∨ j = 5 by omega) with rfl | rfl | rfl | rfl | rfl | rfl <;> (cases hj; rfl)
  · cases hc; rfl
  · cases hc; rfl
  · cases hc; rfl
  · cases hc; rfl
  · cases hc; rfl
def M0 : Sx := fun f i => if f = 26 then (-1) else if f = 600 then (upd (upd (upd (upd (upd (upd (upd (upd (fun _ => 0) 0 ((-1))) 1 ((-1))) 2 ((-1))) 3 ((-1))) 4 ((-1))) 5 ((-1))) 6 ((-1))) 7 ((-1))) i else if f = 800 then (upd (upd (upd (upd (fun _ => 0) 0 ((-1))) 1 ((-1))) 2 ((-1))) 3 ((-1))) i else 0
def aM (h0 : Nat) (u : Nat → Nat) : List Nat := [h0, u 1, u 2, u 3, u 4, u 5, u 6, u 7, u 8, u 9, u 10, u 11, u 12, u 13, u 14, u 15, u 16, u 17, u 18, u 19, u 20, u 21, u 22]
def pM : List Nat := [0, 1, 2, 3, 4, 5, 6, 7, 8, 9, 10, 11, 12, 13, 14, 15, 16, 17, 18, 19, 20, 21, 22]
theorem pM_inj : ∀ i, i < 23 → ∀ j, j < 23 → pM.getD i 0 = pM.getD j 0 → i = j := by decide +kernel
set_option maxRecDepth 100000 in
set_option maxHeartbeats 4000000 in
theorem bM (cA : ClassId) (h0 : Nat) (u : Nat → Nat) : ∀ (k : Nat) (c : Lc), layM[k]? = some c → (B_X10_init cA h0 u)[pM.getD k 0]? = some ((aM h0 u).getD k 0, ce cA (aM h0 u) M0 k c) := by
  intro k c hc
  have h1 : k < 23 := (List.getElem?_eq_some_iff.mp hc).1
  rcases (show k = 0 ∨ k = 1 ∨ k = 2 ∨ k = 3 ∨ k = 4 ∨ k = 5 ∨ k = 6 ∨ k = 7 ∨ k = 8 ∨ k = 9 ∨ k = 10 ∨ k = 11 ∨ k = 12 ∨ k = 13 ∨ k = 14 ∨ k = 15 ∨ k = 16 ∨ k = 17 ∨ k = 18 ∨ k = 19 ∨ k = 20 ∨ k = 21 ∨ k = 22 by omega) with rfl | rfl | rfl | rfl | rfl | rfl | rfl | rfl | rfl | rfl | rfl | rfl | rfl | rfl | rfl | rfl | rfl | rfl | rfl | rfl | rfl | rfl | rfl
  · cases hc
    refine ob_eq rfl rfl rfl (fun j x hj => ?_)
    have h2 : j < 41 := (List.getElem?_eq_some_iff.mp hj).1
    rcases (show j = 0 ∨ j = 1 ∨ j = 2 ∨ j = 3 ∨ j = 4 ∨ j = 5 ∨ j = 6 ∨ j = 7 ∨ j = 8 ∨ j = 9 ∨ j = 10 ∨ j = 11 ∨ j = 12 ∨ j = 13 ∨ j = 14 ∨ j = 15 ∨ j = 16 ∨ j = 17 ∨ j = 18 ∨ j = 19 ∨ j = 20 ∨ j = 21 ∨ j = 22 ∨ j = 23 ∨ j = 24 ∨ j = 25 ∨ j = 26 ∨ j = 27 ∨ j = 28 ∨ j = 29 ∨ j = 30 ∨ j = 31 ∨ j = 32 ∨ j = 33 ∨ j = 34 ∨ j = 35 ∨ j = 36 ∨ j = 37 ∨ j = 38 ∨ j = 39 ∨ j = 40 by omega) with rfl | rfl | rfl | rfl | rfl | rfl | rfl | rfl | rfl | rfl | rfl | rfl | rfl | rfl | rfl | rfl | rfl | rfl | rfl | rfl | rfl | rfl | rfl | rfl | rfl | rfl | rfl | rfl | rfl | rfl | rfl | rfl | rfl | rfl | rfl | rfl | rfl | rfl | rfl | rfl | rfl <;> (cases hj; rfl)
  · cases hc; rfl
  · cases hc; rfl
  · cases hc; rfl
  · cases hc; rfl
  · cases hc; rfl
  · cases hc; rfl
  · cases hc; rfl
  · cases hc; rfl
  · cases hc; rfl
  · cases hc; rfl
  · cases hc; rfl
  · cases hc; rfl
  · cases hc; rfl
  · cases hc; rfl
  · cases hc; rfl
  · cases hc; rfl
  · cases hc; rfl
  · cases hc; rfl
  · cases hc; rfl
  · cases hc; rfl
  · cases hc; rfl
  · cases hc; rfl
set_option maxRecDepth 100000 in
theorem rel0 : Rel S0 M0 := by
  refine ⟨sgA, sgB, 0, Or.inl ⟨rfl, rfl, rfl, rfl⟩, by unfold wfR; decide +kernel, by unfold wfR; decide +kernel, ⟨fun s hs => ⟨rfl, rfl, rfl, rfl, rfl⟩, by decide +kernel, rfl⟩, ⟨rfl, by decide, fun s hs => absurd hs (Nat.not_lt_zero _), fun m hm => Or.inl ?_⟩, ?_, by decide +kernel⟩
  · have h : ∀ m, m < 8 → pT (plS sgA S0) 5 m = -1 := by decide +kernel
    exact h m hm
  · refine ⟨0, 0, 0, 0, 0, 0, ⟨by decide +kernel, rfl, rfl, rfl, rfl, fun r hr => Or.inl ?_, fun i hi => absurd hi (Nat.not_lt_zero _), fun i _ _ => rfl⟩, ⟨rfl, rfl, rfl, rfl, rfl, rfl, rfl, rfl, by decide +kernel⟩, by unfold cLim; decide, ⟨by decide +kernel, rfl⟩, ⟨0, by decide, rfl, rfl, fun i hi => absurd hi (Nat.not_lt_zero _)⟩, rfl, rfl, by decide +kernel, by decide +kernel⟩
    have h : ∀ r, r < 4 → M0 800 r = -1 ∧ plS sgA S0 400 r = -1 := by decide +kernel
    exact h r hr
