section PAIR1
variable {X S M T L : Sx} {sg so : List Nat} {k : Nat}
theorem SV.tr {T T' : Sx} {s : Nat} (h : SV T s) (h1 : ∀ f, f < 4 → T' f s = T f s) (hh : ∀ v, v ≤ s → ht T' v = ht T v) : SV T' s := by
  have e0 := h1 0 (by omega)
  have e1 := h1 1 (by omega)
  have e2 := h1 2 (by omega)
  have e3 := h1 3 (by omega)
  have hK : ∀ x, Kid T' s x = Kid T s x := fun x => propext ⟨fun ⟨v, q1, q2, q3⟩ => ⟨v, q1, q2, by rw [← hh v (by omega), ← hh s (by omega)]; exact q3⟩, fun ⟨v, q1, q2, q3⟩ => ⟨v, q1, q2, by rw [hh v (by omega), hh s (by omega)]; exact q3⟩⟩
  simpa only [SV, hK, e0, e1, e2, e3] using h
theorem imax_nI {p q : Nat} (hp : p < 1000) (hq : q < 1000) : imax (nI p) (nI q) = nI (max p q) := by
  unfold imax
  by_cases h : p < q
  · rw [if_pos (nI_lt h (by omega)), Nat.max_eq_right (by omega)]
  · rw [if_neg (Int32.not_lt.mpr (nI_le (by omega) (by omega))), Nat.max_eq_left (by omega)]
theorem ht_nI {x : Int32} {n : Nat} (h : x.toNatClampNeg = n) (hn : 1 ≤ n) : x = nI n := by
  apply Int32.toInt_inj.mp
  have e : x.toNatClampNeg = x.toInt.toNat := rfl
  have hlt : x.toInt < 2147483648 := Int32.toInt_lt x
  rw [nI_toInt (by omega)]
  omega
theorem gt16 {n : Nat} (hn : n < 1000) (h : ¬ (16 : Int32) < nI n) : n ≤ 16 := by
  rcases Nat.lt_or_ge 16 n with q | q
  · exact absurd (nI_lt (a := 16) q (by omega)) h
  · exact q
/-- the height of a new statement of two parts -/
theorem kid2 {h x y : Int32} (hk : L 1706 0 = nI k) (hk2 : k < 120) (hx : inb x (nI k) = true) (hy : inb y (nI k) = true) (hL : ∀ v, v < k → (L 2200 v).toNatClampNeg = ht T v ∧ 1 ≤ ht T v ∧ ht T v ≤ 16) (hT : ht T k = h.toNatClampNeg) (hh : h = 1 + imax (hOf L x) (hOf L y)) (h16 : ¬ 16 < h) : Kid T k x ∧ Kid T k y ∧ 1 ≤ ht T k ∧ ht T k ≤ 16 := by
  obtain ⟨v, rfl, hv⟩ := inb_ex (by omega) hx
  obtain ⟨w, rfl, hw⟩ := inb_ex (by omega) hy
  obtain ⟨a1, a2, a3⟩ := hL v hv
  obtain ⟨b1, b2, b3⟩ := hL w hw
  have e1 : hOf L (nI v) = nI (ht T v) := by
    rw [hOf, gOf, hk, if_pos hx, cl v]
    exact ht_nI a1 a2
  have e2 : hOf L (nI w) = nI (ht T w) := by
    rw [hOf, gOf, hk, if_pos hy, cl w]
    exact ht_nI b1 b2
  rw [e1, e2, imax_nI (by omega) (by omega), show (1 : Int32) = nI 1 by decide, nI_add] at hh
  rw [hh] at h16 hT
  rw [cl (1 + max (ht T v) (ht T w))] at hT
  have h17 := gt16 (by omega) h16
  exact ⟨⟨v, rfl, hv, by omega⟩, ⟨w, rfl, hw, by omega⟩, by omega, by omega⟩
theorem inN_of {x : Int32} {n : Nat} (hn : n < 2000000000) (h : inb x (nI n) = true) : inN n x := inb_ex hn h
theorem oneOf {t : Int32} (h1 : ¬ t < 0) (h2 : ¬ 21 < t) : ∃ n : Nat, t = nI n ∧ n < 22 := by
  rw [i32_lt] at h1 h2
  have e0 : (0 : Int32).toInt = 0 := rfl
  have e21 : (21 : Int32).toInt = 21 := rfl
  have e : t.toNatClampNeg = t.toInt.toNat := rfl
  refine ⟨t.toNatClampNeg, ?_, by omega⟩
  apply Int32.toInt_inj.mp
  rw [nI_toInt (by omega)]
  omega
/-- a statement that the program takes is as its sort has it -/
theorem SV_new {t a b c : Int32} (hk : L 1706 0 = nI k) (hk2 : k < 120) (e0 : T 0 k = t) (e1 : T 1 k = a) (e2 : T 2 k = b) (e3 : T 3 k = c) (e4 : ht T k = (hWith L t a b c).toNatClampNeg) (hL : ∀ v, v < k → (L 2200 v).toNatClampNeg = ht T v ∧ 1 ≤ ht T v ∧ ht T v ≤ 16) (hT : gTakes L t a b c = true) : 1 ≤ ht T k ∧ ht T k ≤ 16 ∧ SV T k := by
  obtain ⟨hf, h16, q0, q21⟩ := takes_1 hT
  obtain ⟨n, hn, hn22⟩ := oneOf q0 q21
  have E4 : (4 : Int32) = nI 4 := by decide
  have E8 : (8 : Int32) = nI 8 := by decide
  unfold SV
  rw [e0, e1, e2, e3]
  rcases (show n = 0 ∨ n = 1 ∨ n = 2 ∨ n = 3 ∨ n = 4 ∨ n = 5 ∨ n = 6 ∨ n = 7 ∨ n = 8 ∨ n = 9 ∨ n = 10 ∨ n = 11 ∨ n = 12 ∨ n = 13 ∨ n = 14 ∨ n = 15 ∨ n = 16 ∨ n = 17 ∨ n = 18 ∨ n = 19 ∨ n = 20 ∨ n = 21 by omega) with rfl | rfl | rfl | rfl | rfl | rfl | rfl | rfl | rfl | rfl | rfl | rfl | rfl | rfl | rfl | rfl | rfl | rfl | rfl | rfl | rfl | rfl
  · obtain rfl : t = 0 := hn
    simp (decide := true) only [oFit, ↓reduceIte, Bool.and_eq_true, hk, E4, E8] at hf
    have e9 : ht T k = 1 := e4.trans rfl
    exact ⟨by omega, by omega, Or.inl ⟨rfl, inN_of (by decide) hf⟩⟩
  · obtain rfl : t = 1 := hn
    simp (decide := true) only [oFit, ↓reduceIte, Bool.and_eq_true, hk, E4, E8] at hf
    have e9 : ht T k = 1 := e4.trans rfl
    exact ⟨by omega, by omega, Or.inr (Or.inl ⟨by decide, inN_of (by decide) hf.1.1, inN_of (by decide) hf.1.2, inN_of (by decide) hf.2⟩)⟩
  · obtain rfl : t = 2 := hn
    simp (decide := true) only [oFit, ↓reduceIte, Bool.and_eq_true, hk, E4, E8] at hf
    have e9 : ht T k = 1 := e4.trans rfl
    exact ⟨by omega, by omega, Or.inr (Or.inl ⟨by decide, inN_of (by decide) hf.1.1, inN_of (by decide) hf.1.2, inN_of (by decide) hf.2⟩)⟩
  · obtain rfl : t = 3 := hn
    simp (decide := true) only [oFit, ↓reduceIte, Bool.and_eq_true, hk, E4, E8] at hf
    have e9 : ht T k = 1 := e4.trans rfl
    exact ⟨by omega, by omega, Or.inr (Or.inl ⟨by decide, inN_of (by decide) hf.1.1, inN_of (by decide) hf.1.2, inN_of (by decide) hf.2⟩)⟩
  · obtain rfl : t = 4 := hn
    simp (decide := true) only [oFit, ↓reduceIte, Bool.and_eq_true, hk, E4, E8] at hf
    have e9 : ht T k = 1 := e4.trans rfl
    exact ⟨by omega, by omega, Or.inr (Or.inl ⟨by decide, inN_of (by decide) hf.1.1, inN_of (by decide) hf.1.2, inN_of (by decide) hf.2⟩)⟩
  · obtain rfl : t = 5 := hn
    simp (decide := true) only [oFit, ↓reduceIte, Bool.and_eq_true, hk, E4, E8] at hf
    have e9 : ht T k = 1 := e4.trans rfl
    exact ⟨by omega, by omega, Or.inr (Or.inl ⟨by decide, inN_of (by decide) hf.1.1, inN_of (by decide) hf.1.2, inN_of (by decide) hf.2⟩)⟩
  · obtain rfl : t = 6 := hn
    simp (decide := true) only [oFit, ↓reduceIte, Bool.and_eq_true, hk, E4, E8] at hf
    have e9 : ht T k = 1 := e4.trans rfl
    exact ⟨by omega, by omega, Or.inr (Or.inr (Or.inl ⟨rfl, inN_of (by decide) hf.1, inN_of (by decide) hf.2⟩))⟩
  · obtain rfl : t = 7 := hn
    simp (decide := true) only [oFit, ↓reduceIte, Bool.and_eq_true, hk, E4, E8] at hf
    have e9 : ht T k = 1 := e4.trans rfl
    exact ⟨by omega, by omega, Or.inr (Or.inr (Or.inr (Or.inl ⟨rfl, inN_of (by decide) hf.1.1, inN_of (by decide) hf.1.2, inN_of (by decide) hf.2⟩)))⟩
  · obtain rfl : t = 8 := hn
    simp (decide := true) only [oFit, ↓reduceIte, Bool.and_eq_true, hk, E4, E8] at hf
    have e9 : ht T k = 1 := e4.trans rfl
    exact ⟨by omega, by omega, Or.inr (Or.inr (Or.inr (Or.inr (Or.inl ⟨rfl, inN_of (by decide) hf.1.1, inN_of (by decide) hf.1.2, inN_of (by decide) hf.2⟩))))⟩
  · obtain rfl : t = 9 := hn
    simp (decide := true) only [oFit, ↓reduceIte, Bool.and_eq_true, hk, E4, E8] at hf
    have e9 : ht T k = 1 := e4.trans rfl
    exact ⟨by omega, by omega, Or.inr (Or.inr (Or.inr (Or.inr (Or.inr (Or.inl ⟨rfl, inN_of (by decide) hf.1, inN_of (by decide) hf.2⟩)))))⟩
  · obtain rfl : t = 10 := hn
    simp (decide := true) only [oFit, ↓reduceIte, Bool.and_eq_true, hk, E4, E8] at hf
    have e9 : ht T k = 1 := e4.trans rfl
    exact ⟨by omega, by omega, Or.inr (Or.inr (Or.inr (Or.inr (Or.inr (Or.inr (Or.inl ⟨rfl, inN_of (by decide) hf⟩))))))⟩
  · obtain rfl : t = 11 := hn
    simp (decide := true) only [oFit, ↓reduceIte, Bool.and_eq_true, hk, E4, E8] at hf
    have e9 : ht T k = 1 := e4.trans rfl
    exact ⟨by omega, by omega, Or.inr (Or.inr (Or.inr (Or.inr (Or.inr (Or.inr (Or.inr (Or.inl ⟨rfl, inN_of (by decide) hf.1, inN_of (by decide) hf.2⟩)))))))⟩
  · obtain rfl : t = 12 := hn
    simp (decide := true) only [oFit, ↓reduceIte, Bool.and_eq_true, hk, E4, E8] at hf
    obtain ⟨k1, k2, k3, k4⟩ := kid2 (L := L) hk hk2 hf.1 hf.2 hL e4 rfl h16
    exact ⟨k3, k4, Or.inr (Or.inr (Or.inr (Or.inr (Or.inr (Or.inr (Or.inr (Or.inr (Or.inl ⟨rfl, k1, k2⟩))))))))⟩
  · obtain rfl : t = 13 := hn
    simp (decide := true) only [oFit, ↓reduceIte, Bool.and_eq_true, hk, E4, E8] at hf
    obtain ⟨k1, k2, k3, k4⟩ := kid2 (L := L) hk hk2 hf.1.2 hf.2 hL e4 rfl h16
    exact ⟨k3, k4, Or.inr (Or.inr (Or.inr (Or.inr (Or.inr (Or.inr (Or.inr (Or.inr (Or.inr (Or.inl ⟨rfl, inN_of (by decide) hf.1.1, k1, k2⟩)))))))))⟩
  · obtain rfl : t = 14 := hn
    simp (decide := true) only [oFit, ↓reduceIte, Bool.and_eq_true, hk, E4, E8] at hf
    obtain ⟨k1, k2, k3, k4⟩ := kid2 (L := L) hk hk2 hf.2 hf.2 hL e4 (by rw [imax_self]; rfl) h16
    exact ⟨k3, k4, Or.inr (Or.inr (Or.inr (Or.inr (Or.inr (Or.inr (Or.inr (Or.inr (Or.inr (Or.inr (Or.inl ⟨rfl, inN_of (by decide) hf.1, k1⟩))))))))))⟩
  · obtain rfl : t = 15 := hn
    simp (decide := true) only [oFit, ↓reduceIte, Bool.and_eq_true, hk, E4, E8] at hf
    have e9 : ht T k = 1 := e4.trans rfl
    exact ⟨by omega, by omega, Or.inr (Or.inr (Or.inr (Or.inr (Or.inr (Or.inr (Or.inr (Or.inr (Or.inr (Or.inr (Or.inr (Or.inl ⟨rfl, inN_of (by decide) hf⟩)))))))))))⟩
  · obtain rfl : t = 16 := hn
    simp (decide := true) only [oFit, ↓reduceIte, Bool.and_eq_true, hk, E4, E8] at hf
    have e9 : ht T k = 1 := e4.trans rfl
    exact ⟨by omega, by omega, Or.inr (Or.inr (Or.inr (Or.inr (Or.inr (Or.inr (Or.inr (Or.inr (Or.inr (Or.inr (Or.inr (Or.inr (Or.inl ⟨rfl, inN_of (by decide) hf⟩))))))))))))⟩
  · obtain rfl : t = 17 := hn
    simp (decide := true) only [oFit, ↓reduceIte, Bool.and_eq_true, hk, E4, E8] at hf
    have e9 : ht T k = 1 := e4.trans rfl
    exact ⟨by omega, by omega, Or.inr (Or.inr (Or.inr (Or.inr (Or.inr (Or.inr (Or.inr (Or.inr (Or.inr (Or.inr (Or.inr (Or.inr (Or.inr (Or.inl ⟨rfl, inN_of (by decide) hf⟩)))))))))))))⟩
  · obtain rfl : t = 18 := hn
    simp (decide := true) only [oFit, ↓reduceIte, Bool.and_eq_true, hk, E4, E8] at hf
    obtain ⟨k1, k2, k3, k4⟩ := kid2 (L := L) hk hk2 hf.1.1 hf.2 hL e4 rfl h16
    exact ⟨k3, k4, Or.inr (Or.inr (Or.inr (Or.inr (Or.inr (Or.inr (Or.inr (Or.inr (Or.inr (Or.inr (Or.inr (Or.inr (Or.inr (Or.inr (Or.inl ⟨rfl, k1, k2⟩))))))))))))))⟩
  · obtain rfl : t = 19 := hn
    simp (decide := true) only [oFit, ↓reduceIte, Bool.and_eq_true, hk, E4, E8] at hf
    obtain ⟨k1, k2, k3, k4⟩ := kid2 (L := L) hk hk2 hf.1 hf.2 hL e4 rfl h16
    exact ⟨k3, k4, Or.inr (Or.inr (Or.inr (Or.inr (Or.inr (Or.inr (Or.inr (Or.inr (Or.inr (Or.inr (Or.inr (Or.inr (Or.inr (Or.inr (Or.inr (Or.inl ⟨rfl, k1, k2⟩)))))))))))))))⟩
  · obtain rfl : t = 20 := hn
    simp (decide := true) only [oFit, ↓reduceIte, Bool.and_eq_true, hk, E4, E8] at hf
    obtain ⟨k1, k2, k3, k4⟩ := kid2 (L := L) hk hk2 hf.2 hf.2 hL e4 (by rw [imax_self]; rfl) h16
    exact ⟨k3, k4, Or.inr (Or.inr (Or.inr (Or.inr (Or.inr (Or.inr (Or.inr (Or.inr (Or.inr (Or.inr (Or.inr (Or.inr (Or.inr (Or.inr (Or.inr (Or.inr (Or.inl ⟨rfl, inN_of (by decide) hf.1, k1⟩))))))))))))))))⟩
  · obtain rfl : t = 21 := hn
    simp (decide := true) only [oFit, ↓reduceIte, Bool.and_eq_true, hk, E4, E8] at hf
    have e9 : ht T k = 1 := e4.trans rfl
    exact ⟨by omega, by omega, Or.inr (Or.inr (Or.inr (Or.inr (Or.inr (Or.inr (Or.inr (Or.inr (Or.inr (Or.inr (Or.inr (Or.inr (Or.inr (Or.inr (Or.inr (Or.inr (Or.inr (⟨rfl, inN_of (by decide) hf⟩)))))))))))))))))⟩
theorem takes_eq (h : ProgEq X M) (hk : M 1 0 = nI k) (hk2 : k ≤ 120) (t a b c : Int32) : gTakes X t a b c = gTakes (mP M) t a b c := by
  have e1 : X 1706 0 = mP M 1706 0 := h.2.2
  have hO : ∀ s, hOf X s = hOf (mP M) s := fun s => by
    rw [hOf, hOf, gOf, gOf, e1]
    by_cases q : inb s (mP M 1706 0) = true
    · rw [if_pos q, if_pos q]
      have : inb s (nI k) = true := by rw [← hk]; exact q
      have hs := inb_lt (nI_toInt (by omega)) this
      exact (h.1 _ (by omega)).2.2.2.2
    · rw [if_neg q, if_neg q]
  have h1 : oFit X t a b c = oFit (mP M) t a b c := by
    unfold oFit
    rw [e1]
  have h2 : hWith X t a b c = hWith (mP M) t a b c := by
    unfold hWith
    rw [hO a, hO b, hO c]
  unfold gTakes
  rw [h1, h2]
theorem full_iff (hk : L 1706 0 = nI k) (hk2 : k ≤ 120) : gFull L = decide (k = 120) := by
  unfold gFull
  rw [hk]
  rcases (show k < 120 ∨ k = 120 by omega) with q | rfl
  · have h1 : nI k < 120 := nI_lt (b := 120) q (by omega)
    simp only [h1, not_true_eq_false, decide_false]
    exact (decide_eq_false (by omega)).symm
  · decide
theorem hWith_add {t a b c : Int32} : hWith (gAdd4 L t a b c) t a b c = hWith L t a b c := rfl
theorem gAdd_e {t a b c : Int32} (hk : L 1706 0 = nI k) (hk2 : k < 120) : gAdd L t a b c = sw (sw (sw (sw (sw (sw L 1800 k t) 1900 k a) 2000 k b) 2100 k c) 2200 k (hWith L t a b c)) 1706 0 (nI (k + 1)) := by
  rw [gAdd, hWith_add, gAdd4, hk, cl k, nI_1]
theorem PV_add {t a b c : Int32} (hv : PV (pT L) k) (hk2 : k < 120) (hT : gTakes L t a b c = true) : PV (pT (gAdd L t a b c)) (k + 1) := by
  have hk : L 1706 0 = nI k := hv.1
  obtain ⟨-, -, h3, h4⟩ := hv
  rw [gAdd_e hk hk2]
  have hlow : ∀ f, f < 5 → ∀ s, s < k → pT (sw (sw (sw (sw (sw (sw L 1800 k t) 1900 k a) 2000 k b) 2100 k c) 2200 k (hWith L t a b c)) 1706 0 (nI (k + 1))) f s = pT L f s := by
    intro f hf s hs
    have hne : s ≠ k := by omega
    rcases (show f = 0 ∨ f = 1 ∨ f = 2 ∨ f = 3 ∨ f = 4 by omega) with rfl | rfl | rfl | rfl | rfl
    · show sw L 1800 k t 1800 s = L 1800 s
      exact sw_ix hne
    · show sw (sw L 1800 k t) 1900 k a 1900 s = L 1900 s
      rw [sw_ix hne]; rfl
    · show sw (sw (sw L 1800 k t) 1900 k a) 2000 k b 2000 s = L 2000 s
      rw [sw_ix hne]; rfl
    · show sw (sw (sw (sw L 1800 k t) 1900 k a) 2000 k b) 2100 k c 2100 s = L 2100 s
      rw [sw_ix hne]; rfl
    · show sw (sw (sw (sw (sw L 1800 k t) 1900 k a) 2000 k b) 2100 k c) 2200 k (hWith L t a b c) 2200 s = L 2200 s
      rw [sw_ix hne]; rfl
  have hht : ∀ v, v < k → ht (pT (sw (sw (sw (sw (sw (sw L 1800 k t) 1900 k a) 2000 k b) 2100 k c) 2200 k (hWith L t a b c)) 1706 0 (nI (k + 1)))) v = ht (pT L) v := fun v hv => by unfold ht; rw [hlow 4 (by omega) v hv]
  have f0 : pT (sw (sw (sw (sw (sw (sw L 1800 k t) 1900 k a) 2000 k b) 2100 k c) 2200 k (hWith L t a b c)) 1706 0 (nI (k + 1))) 0 k = t := by
    show sw L 1800 k t 1800 k = t
    exact sw_eq
  have f1 : pT (sw (sw (sw (sw (sw (sw L 1800 k t) 1900 k a) 2000 k b) 2100 k c) 2200 k (hWith L t a b c)) 1706 0 (nI (k + 1))) 1 k = a := by
    show sw (sw L 1800 k t) 1900 k a 1900 k = a
    exact sw_eq
  have f2 : pT (sw (sw (sw (sw (sw (sw L 1800 k t) 1900 k a) 2000 k b) 2100 k c) 2200 k (hWith L t a b c)) 1706 0 (nI (k + 1))) 2 k = b := by
    show sw (sw (sw L 1800 k t) 1900 k a) 2000 k b 2000 k = b
    exact sw_eq
  have f3 : pT (sw (sw (sw (sw (sw (sw L 1800 k t) 1900 k a) 2000 k b) 2100 k c) 2200 k (hWith L t a b c)) 1706 0 (nI (k + 1))) 3 k = c := by
    show sw (sw (sw (sw L 1800 k t) 1900 k a) 2000 k b) 2100 k c 2100 k = c
    exact sw_eq
  have f4 : ht (pT (sw (sw (sw (sw (sw (sw L 1800 k t) 1900 k a) 2000 k b) 2100 k c) 2200 k (hWith L t a b c)) 1706 0 (nI (k + 1)))) k = (hWith L t a b c).toNatClampNeg := by
    show (sw (sw (sw (sw (sw L 1800 k t) 1900 k a) 2000 k b) 2100 k c) 2200 k (hWith L t a b c) 2200 k).toNatClampNeg = _
    rw [sw_eq]
  have f5 : ∀ m, pT (sw (sw (sw (sw (sw (sw L 1800 k t) 1900 k a) 2000 k b) 2100 k c) 2200 k (hWith L t a b c)) 1706 0 (nI (k + 1))) 5 m = pT L 5 m := fun m => rfl
  have f6 : pT (sw (sw (sw (sw (sw (sw L 1800 k t) 1900 k a) 2000 k b) 2100 k c) 2200 k (hWith L t a b c)) 1706 0 (nI (k + 1))) 6 0 = nI (k + 1) := rfl
  generalize pT (sw (sw (sw (sw (sw (sw L 1800 k t) 1900 k a) 2000 k b) 2100 k c) 2200 k (hWith L t a b c)) 1706 0 (nI (k + 1))) = T at *
  refine ⟨f6, by omega, fun s hs => ?_, fun m hm => ?_⟩
  · rcases (show s < k ∨ s = k by omega) with q | rfl
    · obtain ⟨b1, b2, b3⟩ := h3 s q
      exact ⟨by rw [hht s q]; exact b1, by rw [hht s q]; exact b2, b3.tr (fun f hf => hlow f (by omega) s q) (fun v hv => hht v (by omega))⟩
    · exact SV_new hk hk2 f0 f1 f2 f3 f4 (fun v hv => ⟨by rw [hht v hv]; rfl, by rw [hht v hv]; exact (h3 v hv).1, by rw [hht v hv]; exact (h3 v hv).2.1⟩) hT
  · rw [f5 m]
    rcases h4 m hm with q | ⟨v, q1, q2⟩
    · exact Or.inl q
    · exact Or.inr ⟨v, q1, by omega⟩
theorem pair_make (h : Rel S M) (t a b c : Int32) : Pair kX9_make kX10_make [.int t, .int a, .int b, .int c] S M := by
  obtain ⟨sg, so, k, h⟩ := h
  obtain ⟨k1, k2, k3⟩ := h.many
  have hte := takes_eq h.prog k3 k2 t a b c
  refine Pair.of (fun d Q hQ => cx_make h.lat h.wf hQ) (fun d Q hQ => ?_)
  cases hT : gTakes (plS sg S) t a b c with
  | false =>
    simp only [hT, Bool.false_eq_true, ↓reduceIte] at hQ
    exact sp_X10_make_no k3 k2 (hte ▸ hT) (hQ _ ⟨sg, so, k, h.m0 df0⟩)
  | true =>
    simp only [hT, ↓reduceIte, full_iff k1 k2] at hQ
    rcases (show k < 120 ∨ k = 120 by omega) with q | rfl
    · rw [if_neg (by simp; omega), if_neg (by simp; omega), k1, nI_1, nI_pred] at hQ
      refine sp_X10_make k3 q (hte ▸ hT) (hQ _ ⟨sg, so, k + 1, h.up (wf_gAdd h.wf (by rw [full_iff k1 k2]; simp; omega)) ?_ (PV_add h.pv q hT) ?_ ?_⟩)
      · have hW : hWith (mP M) t a b c = hWith (plS sg S) t a b c := by
          have hO : ∀ s, hOf (plS sg S) s = hOf (mP M) s := fun s => by
            have e1 : plS sg S 1706 0 = mP M 1706 0 := h.prog.2.2
            rw [hOf, hOf, gOf, gOf, e1]
            by_cases z : inb s (mP M 1706 0) = true
            · rw [if_pos z, if_pos z]
              have : inb s (nI k) = true := by rw [← k3]; exact z
              have hs := inb_lt (nI_toInt (by omega)) this
              exact (h.prog.1 _ (by omega)).2.2.2.2
            · rw [if_neg z, if_neg z]
          unfold hWith
          rw [hO a, hO b, hO c]
        rw [gAdd_e k1 q, gAddM, gAdd4M, hW]
        obtain ⟨p1, p2, p3⟩ := h.prog
        generalize plS sg S = L at *
        refine ⟨fun s hs => ?_, fun m hm => p2 m hm, rfl⟩
        obtain ⟨a1, a2, a3, a4, a5⟩ := p1 s hs
        simp (decide := true) only [sw_ne, ne_eq, not_false_eq_true, Nat.reduceEqDiff]
        by_cases z : s = k
        · subst z
          simp only [sw_eq, and_self]
        · simp only [sw_ix z]
          simp (decide := true) only [sw_ne, ne_eq, not_false_eq_true, Nat.reduceEqDiff]
          exact ⟨a1, a2, a3, a4, a5⟩
      · rw [gAdd_e k1 q, gAddM, gAdd4M]
        have dX : Df [1706, 2200, 2100, 2000, 1900, 1800] (plS sg S) (sw (sw (sw (sw (sw (sw (plS sg S) 1800 k t) 1900 k a) 2000 k b) 2100 k c) 2200 k (hWith (plS sg S) t a b c)) 1706 0 (nI (k + 1))) := (((((Df.rf.to _ _ _).to _ _ _).to _ _ _).to _ _ _).to _ _ _).to _ _ _
        have dM : Df [1, 500, 400, 300, 200, 100, 0] M (sw (sw (sw (sw (sw (sw (sw M 0 0 0) 100 k t) 200 k a) 300 k b) 400 k c) 500 k (hWith (mP M) t a b c)) 1 0 (nI (k + 1))) := ((((((Df.rf.to _ _ _).to _ _ _).to _ _ _).to _ _ _).to _ _ _).to _ _ _).to _ _ _
        exact (h.obs.dfx dX rfl).df dM rfl
      · exact fun i hi => h.cnt i hi
    · simp only [decide_true, ↓reduceIte] at hQ
      exact sp_X10_make_full k3 (hte ▸ hT) (hQ _ ⟨sg, so, 120, h.m0 df0⟩)
theorem lose_e (hk : L 1706 0 = nI (k + 1)) (hk2 : k < 120) : gLose L = sw L 1706 0 (nI k) := by
  rw [gLose, hk, nI_pred, show (0 : Int32) = nI 0 by decide, imax_nI (by omega) (by omega), Nat.max_eq_right (by omega)]
theorem can_body : ∀ (t i : Nat), gCanF L t i = true → ∀ m, i ≤ m → m < i + t → ¬ L 2300 m = L 1706 0 - 1 := by
  intro t
  induction t with
  | zero => intro i _ m h1 h2; omega
  | succ t ih =>
    intro i h m h1 h2
    rw [gCanF] at h
    by_cases q : L 2300 i = L 1706 0 - 1
    · rw [if_pos q] at h; cases h
    · rw [if_neg q] at h
      rcases (show m = i ∨ i + 1 ≤ m by omega) with rfl | z
      · exact q
      · exact ih (i + 1) h m z (by omega)
theorem pair_drop (h : Rel S M) : Pair kX9_drop kX10_drop [] S M := by
  obtain ⟨sg, so, k, h⟩ := h
  obtain ⟨k1, k2, k3⟩ := h.many
  have hce := can_eq h.prog.2.1 h.prog.2.2 8 0 rfl
  refine Pair.of (fun d Q hQ => cx_drop h.lat h.wf hQ) (fun d Q hQ => ?_)
  rcases (show k = 0 ∨ ∃ j, k = j + 1 from by cases k with | zero => exact Or.inl rfl | succ j => exact Or.inr ⟨j, rfl⟩) with rfl | ⟨j, rfl⟩
  · have hc : gCan (plS sg S) = false := by rw [gCan, k1, if_pos (by decide)]
    simp only [hc, Bool.false_eq_true, ↓reduceIte] at hQ
    exact sp_X10_drop_no k3 k2 (Or.inl rfl) (hQ _ ⟨sg, so, 0, h.m0 df0⟩)
  · have hg : gCan (plS sg S) = gCanF (plS sg S) 8 0 := by rw [gCan, k1, if_neg (fun z => by have := congrArg Int32.toNatClampNeg z; rw [cl (j + 1)] at this; exact absurd this (by simp))]
    cases hc : gCanF (plS sg S) 8 0 with
    | false =>
      rw [hc] at hg hce
      simp only [hg, Bool.false_eq_true, ↓reduceIte] at hQ
      exact sp_X10_drop_no k3 k2 (Or.inr hce.symm) (hQ _ ⟨sg, so, j + 1, h.m0 df0⟩)
    | true =>
      rw [hc] at hg hce
      simp only [hg, ↓reduceIte, lose_e k1 (by omega : j < 120)] at hQ
      rw [k1, nI_pred, show (0 : Int32) = nI 0 by decide, imax_nI (by omega) (by omega), Nat.max_eq_right (by omega)] at hQ
      have hb := can_body 8 0 hc
      refine sp_X10_drop k3 k2 hce.symm (hQ _ ⟨sg, so, j, h.up ?_ ⟨h.prog.1, h.prog.2.1, rfl⟩ ?_ ((h.obs.dfx (Df.rf.to 1706 0 _) rfl).df ((Df.rf.to 0 0 0).to 1 0 _) rfl) (fun i hi => h.cnt i hi)⟩)
      · rw [← lose_e k1 (by omega : j < 120)]
        exact wf_gLose h.wf
      · obtain ⟨v1, v2, v3, v4⟩ := h.pv
        refine ⟨rfl, by omega, fun s hs => v3 s (by omega), fun m hm => ?_⟩
        rcases v4 m hm with z | ⟨v, z1, z2⟩
        · exact Or.inl z
        · refine Or.inr ⟨v, z1, ?_⟩
          rcases (show v < j ∨ v = j by omega) with y | rfl
          · exact y
          · exact absurd (by rw [k1, nI_pred]; exact z1) (hb m (by omega) (by omega))
theorem pair_body (h : Rel S M) (m s : Int32) : Pair kX9_body kX10_body [.int m, .int s] S M := by
  obtain ⟨sg, so, k, h⟩ := h
  obtain ⟨k1, k2, k3⟩ := h.many
  refine Pair.of (fun d Q hQ => cx_body h.lat h.wf hQ) (fun d Q hQ => ?_)
  refine sp_X10_body ?_
  rw [k1] at hQ
  rw [k3]
  have hset : inb m 8 = true → (s = -1 ∨ inb s (nI k) = true) → RelC sg so k (psS sg S (gSetBody (plS sg S) m s)) (gBodyM M m s) := by
    intro hm hs
    have hm8 : m.toNatClampNeg < 8 := inb_lt (by decide) hm
    refine h.up (wf_gSetBody h.wf) ?_ ?_ ?_ ?_
    · rw [gSetBody, if_pos hm, gBodyM]
      refine ⟨h.prog.1, fun i hi => ?_, h.prog.2.2⟩
      by_cases q : i = m.toNatClampNeg
      · subst q; rw [sw_eq, sw_eq]
      · rw [sw_ix q, sw_ix q]; exact h.prog.2.1 i hi
    · rw [gSetBody, if_pos hm]
      obtain ⟨v1, v2, v3, v4⟩ := h.pv
      refine ⟨v1, v2, fun j hj => v3 j hj, fun i hi => ?_⟩
      show sw (plS sg S) 2300 m.toNatClampNeg s 2300 i = -1 ∨ inN k (sw (plS sg S) 2300 m.toNatClampNeg s 2300 i)
      by_cases q : i = m.toNatClampNeg
      · subst q
        rw [sw_eq]
        rcases hs with z | z
        · exact Or.inl z
        · exact Or.inr (inb_ex (by omega) z)
      · rw [sw_ix q]
        exact v4 i hi
    · rw [gSetBody, if_pos hm, gBodyM]
      exact (h.obs.dfx (Df.rf.to 2300 _ _) rfl).df ((Df.rf.to 0 0 0).to 600 _ _) rfl
    · exact fun i hi => h.cnt i hi
  by_cases q8 : inb m 8 = true
  · simp only [q8, ↓reduceIte] at hQ ⊢
    by_cases q1 : s = -1
    · simp only [q1, ↓reduceIte] at hQ ⊢
      refine hQ _ ⟨sg, so, k, ?_⟩
      have := hset q8 (Or.inl q1)
      rw [q1] at this
      exact this
    · simp only [q1, ↓reduceIte] at hQ ⊢
      by_cases q2 : inb s (nI k) = true
      · simp only [q2, ↓reduceIte] at hQ ⊢
        exact hQ _ ⟨sg, so, k, hset q8 (Or.inr q2)⟩
      · simp only [q2, Bool.false_eq_true, ↓reduceIte] at hQ ⊢
        exact hQ _ ⟨sg, so, k, h.m0 df0⟩
  · simp only [q8, Bool.false_eq_true, ↓reduceIte] at hQ ⊢
    exact hQ _ ⟨sg, so, k, h.m0 df0⟩
end PAIR1
