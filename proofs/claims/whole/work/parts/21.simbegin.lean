section BEGIN
variable {T S M : Sx} {k n : Nat} {fr : Nat → Nat} {rz : Option Nat} {wk : Nat → Nat} {bu re sb sr u w : Nat}
theorem ml_at {S0 : Sx} {b : Nat} {i : Int32} (hb : b < 4) : mLoad S0 (nI b) i = if inb i (S0 400 b) then S0 500 (S0 300 b + i).toNatClampNeg else 0 := by rw [mLoad, mLen_e hb, cl b]
theorem run_7 (h : RunSt T k n fr rz wk bu re sb sr u w S M) (hv : T 0 (fr n) = 7) (ha : inN 8 (T 1 (fr n))) (hb : inN 4 (T 2 (fr n))) (hc : inN 8 (T 3 (fr n))) : Go T k (VV * (bu + re) + sW wk n + w3 (ht T (fr n))) S M := by
  obtain ⟨a, ea, hab⟩ := ha
  obtain ⟨b, eb, hbb⟩ := hb
  obtain ⟨c, ec, hcb⟩ := hc
  obtain ⟨-, -, -, -, o5, o6, o7, o8⟩ := h.of
  have ht := h.top
  obtain ⟨-, -, hh, -, hs, -, -, h37, -, -⟩ := id h
  have hl := h.leaf hv (by decide)
  rw [ea, eb, ec] at hl
  have hl : rStep S = fClose (rRow (sw S 8 0 0) 7 (nI a) (nI b) (nI c)) := hl
  rw [rRow, if_neg (by decide), if_pos rfl, h.var hcb] at hl
  obtain ⟨hr, hu, hw, -⟩ := h.row hbb
  have e4 : mLen (sw S 8 0 0) (nI b) = S 400 b := by rw [mLen_e hbb, sw_ne (by decide)]
  rcases hr with ⟨r1, r2⟩ | ⟨x, len, at_, r1, r2, r3, r4, r5, r6, r7⟩
  · have q1 : rReachB (sw S 8 0 0) (nI b) (M 700 c) = false := by rw [rReachB, e4, if_pos r2]
    have q2 : gHasB M b (M 700 c) = false := by rw [gHasB, if_pos r1]
    refine throw_out (kd := 1) (x := 0) h ?_ (MS.beg h37 fun d Q hQ => sp_X10_begin_7 hh (by omega) hs ht.2.1 (o5.trans hv) (o6.trans ea) hab (o7.trans eb) hbb (o8.trans ec) hcb h37 (fun c => absurd r1 c) (fun c => by rw [q2] at c; cases c) (by rw [q2, gHasS, if_pos r1]; exact hQ))
    rw [hl, q1, rReach, e4, if_pos r2]
    rfl
  · have n1 : ¬ S 400 b = -1 := by rw [r5]; exact nI_ne_m1 (by omega)
    have n2 : ¬ M 800 b = -1 := by rw [r1]; exact nI_ne_m1 (by omega)
    have q1 : rReachB (sw S 8 0 0) (nI b) (M 700 c) = inb (M 700 c) (nI len) := by rw [rReachB, e4, if_neg n1, r5]
    have q2 : gHasB M b (M 700 c) = inb (M 700 c) (nI len) := by rw [gHasB, if_neg n2, r1, cl x, r3]
    have hx : ¬ M 800 b = -1 → vp_in (M 800 b) 300 := fun _ => by rw [r1]; exact vp_in_nI (by omega) (by omega)
    cases hin : inb (M 700 c) (nI len) with
    | true =>
      obtain ⟨j, hj, ej⟩ := inb_of hin (by omega)
      have hcell : gHasB M b (M 700 c) = true → vp_in (M 1100 (M 800 b).toNatClampNeg + M 700 c) 1400 := fun _ => by rw [r1, cl x, r4, ej, nI_add]; exact vp_in_nI (by omega) (by omega)
      have hm7 := h.1.2.2.1.2.2.2.2.2.2.1 (at_ + j) (by omega)
      refine write_out (a := a) (v := M 1200 (at_ + j)) h hab ?_ (MS.beg h37 fun d Q hQ => sp_X10_begin_7 hh (by omega) hs ht.2.1 (o5.trans hv) (o6.trans ea) hab (o7.trans eb) hbb (o8.trans ec) hcb h37 hx hcell (by rw [q2, hin, if_pos rfl, r1, cl x, r4, ej, nI_add, cl (at_ + j)]; exact hQ))
      have e5 : rReach (sw S 8 0 0) (nI b) (M 700 c) = sw S 8 0 0 := by rw [rReach, e4, if_neg n1, r5, hin]; rfl
      rw [hl, q1, hin, if_pos rfl, e5, h.var hcb, ml_at hbb, sw_ne (by decide), r5, hin, if_pos rfl, sw_ne (by decide), sw_ne (by decide), r6, ej, nI_add, cl (at_ + j), hm7]
    | false =>
      refine throw_out (kd := 2) (x := 0) h ?_ (MS.beg h37 fun d Q hQ => sp_X10_begin_7 hh (by omega) hs ht.2.1 (o5.trans hv) (o6.trans ea) hab (o7.trans eb) hbb (o8.trans ec) hcb h37 hx (fun c => by rw [q2, hin] at c; cases c) (by rw [q2, hin, gHasS, if_neg n2, r1, cl x, r3, hin]; exact hQ))
      rw [hl, q1, hin, rReach, e4, if_neg n1, r5, hin]
      rfl
theorem run_8 (h : RunSt T k n fr rz wk bu re sb sr u w S M) (hv : T 0 (fr n) = 8) (ha : inN 4 (T 1 (fr n))) (hb : inN 8 (T 2 (fr n))) (hc : inN 8 (T 3 (fr n))) : Go T k (VV * (bu + re) + sW wk n + w3 (ht T (fr n))) S M := by
  obtain ⟨a, ea, hab⟩ := ha
  obtain ⟨b, eb, hbb⟩ := hb
  obtain ⟨c, ec, hcb⟩ := hc
  obtain ⟨-, -, -, -, o5, o6, o7, o8⟩ := h.of
  have ht := h.top
  obtain ⟨-, -, hh, -, hs, -, -, h37, -, -⟩ := id h
  have hl := h.leaf hv (by decide)
  rw [ea, eb, ec] at hl
  have hl : rStep S = fClose (rRow (sw S 8 0 0) 8 (nI a) (nI b) (nI c)) := hl
  rw [rRow, if_neg (by decide), if_neg (by decide), if_pos rfl, h.var hbb] at hl
  obtain ⟨hr, hu, hw, -⟩ := h.row hab
  have e4 : mLen (sw S 8 0 0) (nI a) = S 400 a := by rw [mLen_e hab, sw_ne (by decide)]
  rcases hr with ⟨r1, r2⟩ | ⟨x, len, at_, r1, r2, r3, r4, r5, r6, r7⟩
  · have q1 : rReachB (sw S 8 0 0) (nI a) (M 700 b) = false := by rw [rReachB, e4, if_pos r2]
    have q2 : gHasB M a (M 700 b) = false := by rw [gHasB, if_pos r1]
    refine throw_out (kd := 1) (x := 0) h ?_ (MS.beg h37 fun d Q hQ => sp_X10_begin_8 hh (by omega) hs ht.2.1 (o5.trans hv) (o6.trans ea) hab (o7.trans eb) hbb (o8.trans ec) hcb h37 (fun c => absurd r1 c) (fun c => by rw [q2] at c; cases c) (by rw [q2, gHasS, if_pos r1]; exact hQ))
    rw [hl, q1, rReach, e4, if_pos r2]
    rfl
  · have n1 : ¬ S 400 a = -1 := by rw [r5]; exact nI_ne_m1 (by omega)
    have n2 : ¬ M 800 a = -1 := by rw [r1]; exact nI_ne_m1 (by omega)
    have q1 : rReachB (sw S 8 0 0) (nI a) (M 700 b) = inb (M 700 b) (nI len) := by rw [rReachB, e4, if_neg n1, r5]
    have q2 : gHasB M a (M 700 b) = inb (M 700 b) (nI len) := by rw [gHasB, if_neg n2, r1, cl x, r3]
    have hx : ¬ M 800 a = -1 → vp_in (M 800 a) 300 := fun _ => by rw [r1]; exact vp_in_nI (by omega) (by omega)
    cases hin : inb (M 700 b) (nI len) with
    | true =>
      obtain ⟨j, hj, ej⟩ := inb_of hin (by omega)
      have hcell : gHasB M a (M 700 b) = true → vp_in (M 1100 (M 800 a).toNatClampNeg + M 700 b) 1400 := fun _ => by rw [r1, cl x, r4, ej, nI_add]; exact vp_in_nI (by omega) (by omega)
      have e5 : rReach (sw S 8 0 0) (nI a) (M 700 b) = sw S 8 0 0 := by rw [rReach, e4, if_neg n1, r5, hin]; rfl
      have e6 : mStore (sw S 8 0 0) (nI a) (M 700 b) (M 700 c) = sw (sw S 8 0 0) 500 (at_ + j) (M 700 c) := by
        rw [mStore, e4, r5, hin, if_pos rfl, cl a, sw_ne (by decide), r6, ej, nI_add, cl (at_ + j)]
      rw [q1, hin, if_pos rfl, e5, h.var hbb, h.var hcb, e6] at hl
      refine mem_out (M0 := sw M 1200 (at_ + j) (M 700 c)) h hl (MS.beg h37 fun d Q hQ => sp_X10_begin_8 hh (by omega) hs ht.2.1 (o5.trans hv) (o6.trans ea) hab (o7.trans eb) hbb (o8.trans ec) hcb h37 hx hcell (by rw [q2, hin, if_pos rfl, r1, cl x, r4, ej, nI_add, cl (at_ + j)]; exact hQ)) (((Df.rf.to 8 0 0).to 500 _ _).mono rfl) ((Df.rf.to 1200 _ _).mono rfl) rfl ?_
      obtain ⟨m1, m2, m3, m4, m5, m6, m7, m8⟩ := h.1.2.2.1
      refine ⟨m1, m2, m3, m4, m5, m6, fun i hi => ?_, fun i hi h8 => ?_⟩
      · by_cases e : i = at_ + j
        · subst e; rw [sw_eq, sw_eq]
        · rw [sw_ix e, sw_ix e, sw_ne (by decide)]; exact m7 i hi
      · rw [sw_ix (by omega), sw_ne (by decide)]; exact m8 i hi h8
    | false =>
      refine throw_out (kd := 2) (x := 0) h ?_ (MS.beg h37 fun d Q hQ => sp_X10_begin_8 hh (by omega) hs ht.2.1 (o5.trans hv) (o6.trans ea) hab (o7.trans eb) hbb (o8.trans ec) hcb h37 hx (fun c => by rw [q2, hin] at c; cases c) (by rw [q2, hin, gHasS, if_neg n2, r1, cl x, r3, hin]; exact hQ))
      rw [hl, q1, hin, rReach, e4, if_neg n1, r5, hin]
      rfl
/-- the topmost statement's mark isn't paid: the run is stopped -/
theorem stop_out {S1 M2 : Sx} (h : RunSt T k n fr rz wk bu re sb sr u w S M) (hrz : rz = none) (hS : rStep S = S1) (hM : MS M (sw M 37 0 3)) (hM2 : MS (sw M 37 0 3) M2) (dS : Df [8, 1105] S S1) (dM : Df [30, 37] M M2) (hd : S1 1105 0 = nI n) (hh : M2 30 0 = nI n) (he : S1 8 0 = 3) (hme : M2 37 0 = 3) : Go T k (VV * (bu + re) + sW wk n + w3 (ht T (fr n))) S M := by
  have ht := h.top
  have hd0 := h.2.1
  have hh0 := h.2.2.1
  obtain ⟨c1, c2, c3, c4, c5, c6, c7, c8, c9, c10, c11, c12, c13⟩ := h.1
  have hp := w3_pos ht.2.2.1
  exact Go.two hd0 (by omega) hS hh0 (by omega) hM (by rw [sw_ne (by decide)]; exact hh0) (by omega) hM2 (Or.inr ⟨n, fr, rz, wk, bu, re, sb, sr, u, w, 3, ⟨⟨c1, c2.cg dS dM rfl rfl, c3.cg dS dM rfl rfl, c4.cg dS dM rfl rfl, c5, c6.cg dS dM rfl rfl, c7.cg dS dM rfl rfl, c8.cg dS dM rfl rfl, c9.cg dS dM rfl rfl, c10.cg dS dM rfl rfl, c11.cg (StE.df dS rfl) (StE.df dM rfl), c12, c13⟩, hd, hh, he, hme, by simp, fun _ => hrz⟩, Nat.le_refl _⟩) (by omega)
/-- the same within the reserve -/
theorem stopR_out {S1 : Sx} {r : Nat} (h : RunSt T k n fr rz wk bu re sb sr u w S M) (hrz : rz = some r) (hS : rStep S = S1) (hM : MS M (gEnd M)) (dS : Df [8, 1105] S S1) (hd : S1 1105 0 = nI n) (he : S1 8 0 = 3) : Go T k (VV * (bu + re) + sW wk n + w3 (ht T (fr n))) S M := by
  subst hrz
  have ht := h.top
  obtain ⟨hc, hd0, hh0, -, hs, -, hph, -, -, -⟩ := id h
  obtain ⟨c1, c2, c3, c4, c5, c6, c7, c8, c9, c10, c11, c12, c13⟩ := hc
  have hp := w3_pos ht.2.2.1
  have dM : Df [30] M (sw M 30 0 (nI n)) := Df.rf.to 30 0 _
  refine drain_out (r := r) ⟨c1, c2.cg dS dM rfl rfl, c3.cg dS dM rfl rfl, c4.cg dS dM rfl rfl, c5, c6.cg dS dM rfl rfl, c7.cg dS dM rfl rfl, c8.cg dS dM rfl rfl, c9.cg dS dM rfl rfl, c10.cg dS dM rfl rfl, c11.cg (StE.df dS rfl) (StE.df dM rfl), c12, c13⟩ (by omega) hd he (fEmpty_f hd0 (by omega)) hS (by rw [hh0]; exact nI_nle (by omega) (by omega)) hM c10.2 hh0 ?_ (by omega)
  have z : ¬ sw M 30 0 (nI n) 1700 n = 1 := by rw [sw_ne (by decide), hph]; decide
  rw [gLeave, gLv1, if_neg z, ite_self, gLv2, if_neg z, ite_self]
end BEGIN
