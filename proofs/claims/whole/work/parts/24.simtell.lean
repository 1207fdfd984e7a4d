section TELL
variable {T S M : Sx} {k n : Nat} {fr : Nat → Nat} {rz : Option Nat} {wk : Nat → Nat} {bu re sb sr u w : Nat} {e : Int32}
theorem drain_out2 {r P : Nat} {S1 X : Sx} (h1 : Core T k n fr (some r) wk bu re sb sr u w S1 (sw X 30 0 (nI n))) (hnb : n < 1000) (hd1 : S1 1105 0 = nI n) (he : S1 8 0 = 3) (hS : fEmpty S = false) (hstep : rStep S = S1) (hM30 : ¬ M 30 0 ≤ 0) (hM : MS M (gEnd X)) (h38 : X 38 0 = nI r) (h30 : X 30 0 = nI (n + 1)) (hlv : gLeave (sw X 30 0 (nI n)) n (X 1600 n).toNatClampNeg = sw X 30 0 (nI n)) (hp : VV * (bu + re) + sW wk n + 1 ≤ P) : Go T k P S M := by
  obtain ⟨-, -, -, -, -, -, -, -, -, c10, c11, c12, -⟩ := id h1
  have hr := c12 r rfl
  obtain ⟨t, rfl⟩ : ∃ t, n = r + t + 1 := ⟨n - r - 1, by omega⟩
  obtain ⟨S2, a1, a2⟩ := drain t h1 hd1 he
  have hg : gEnd X = sw (sw (gDrain r (t + 1) (sw X 30 0 (nI (r + t + 1)))) 38 0 (-1)) 37 0 3 := by
    rw [gEnd, h38, h30, cl r, cl (r + t + 1 + 1), show r + t + 1 + 1 - r = t + 1 + 1 by omega]
    have e : gDrain r (t + 1 + 1) X = gDrain r (t + 1) (gLeave (sw X 30 0 (nI (r + (t + 1)))) (r + (t + 1)) (X 1600 (r + (t + 1))).toNatClampNeg) := rfl
    rw [e]
    have e2 : gLeave (sw X 30 0 (nI (r + (t + 1)))) (r + (t + 1)) (X 1600 (r + (t + 1))).toNatClampNeg = sw X 30 0 (nI (r + t + 1)) := hlv
    rw [e2]
  rw [hg] at hM
  have hw := sW_ge c11 (r := r) (by omega)
  exact ⟨1 + (t + 1), 1, S2, _, VV * (bu + re) + sW wk r, CR.tr (a := 1) ⟨hS, rfl⟩ (by rw [hstep]; exact a1), ⟨_, hM30, hM, rfl⟩, Or.inr ⟨r, fr, none, wk, bu, re, sb, sr, u, w, 3, a2, Nat.le_refl _⟩, by omega, by omega⟩
theorem RetSt.nr (h : RetSt T k n fr rz wk bu re sb sr u w e S M) : ¬ M 37 0 = -1 := by
  obtain ⟨-, -, -, -, h1, h2, -⟩ := h
  rw [h1]
  rcases h2 with rfl | rfl | rfl | rfl <;> decide
/-- the topmost part ends, and so its statement -/
theorem down_go {S1 M1 : Sx} {e' : Int32} {rz' : Option Nat} (h : RetSt T k (n + 1) fr rz wk bu re sb sr u w e S M) (hS : rStep S = S1) (hM : MS M M1) (hc : Core T k n fr rz' wk bu re sb sr u w S1 M1) (hd : S1 1105 0 = nI n) (hh : M1 30 0 = nI n) (he : S1 8 0 = e') (hme : M1 37 0 = e') (hee : e' = 0 ∨ e' = 1 ∨ e' = 2 ∨ e' = 3) (h3 : e' = 3 → rz' = none) : Go T k (VV * (bu + re) + sW wk (n + 1)) S M := by
  have htp := h.1.top
  have hf := htp.2.2.2.2.2.2.2.2
  have hw := hf.2.2.2.2.2.2.1
  exact Go.one h.2.1 (by omega) hS h.2.2.1 (by omega) hM (Or.inr ⟨n, fr, rz', wk, bu, re, sb, sr, u, w, e', ⟨hc, hd, hh, he, hme, hee, h3⟩, Nat.le_refl _⟩) (by simp only [sW]; omega)
/-- .. by the frame alone -/
theorem pop_go (h : RetSt T k (n + 1) fr rz wk bu re sb sr u w e S M) (hS : rStep S = fClose S) (hM : MS M (gPop M n)) (h15 : ¬ T 0 (fr n) = 15) (hrz : rz ≠ some n) : Go T k (VV * (bu + re) + sW wk (n + 1)) S M := by
  have htp := h.1.top
  obtain ⟨hc, hd, hh, he, hme, hee, h3⟩ := id h
  rw [fClose_e hd (by omega)] at hS
  exact down_go h hS hM (hc.down hrz ((Df.rf.to 1105 0 _).mono rfl) (df_gPop.mono rfl) h15) rfl rfl (by rw [sw_ne (by decide)]; exact he) (by rw [df_gPop.at 37 0 rfl]; exact hme) hee h3
/-- a mark of the topmost statement isn't paid: the run is stopped -/
theorem stopB_go {M1 M2 : Sx} (h : RetSt T k (n + 1) fr rz wk bu re sb sr u w e S M) (hrz : rz = none) (hS : rStep S = rEnd S 3) (hM : MS M M1) (hM30 : M1 30 0 = nI (n + 1)) (hM2 : MS M1 M2) (dM : Df [30, 37, 2000, 1900, 1800] M M2) (hsM : StE sFM n M M2) (hh : M2 30 0 = nI n) (hme : M2 37 0 = 3) (h15 : ¬ T 0 (fr n) = 15) : Go T k (VV * (bu + re) + sW wk (n + 1)) S M := by
  have htp := h.1.top
  have hf := htp.2.2.2.2.2.2.2.2
  have hw := hf.2.2.2.2.2.2.1
  obtain ⟨hc, hd, hh0, he, -, -, -⟩ := id h
  rw [rEnd, fClose_e (n := n) (by rw [sw_ne (by decide)]; exact hd) (by omega)] at hS
  have dS : Df [1105, 8] S (sw (sw S 8 0 3) 1105 0 (nI n)) := (Df.rf.to 8 0 3).to 1105 0 _
  obtain ⟨c1, c2, c3, c4, c5, c6, c7, c8, c9, c10, c11, c12, c13⟩ := hc
  rw [cN_succ, if_neg h15, Nat.add_zero] at c9 c13
  exact Go.two hd (by omega) hS hh0 (by omega) hM hM30 (by omega) hM2 (Or.inr ⟨n, fr, rz, wk, bu, re, sb, sr, u, w, 3, ⟨⟨c1, c2.cg dS dM rfl rfl, c3.cg dS dM rfl rfl, c4.cg dS dM rfl rfl, c5, c6.cg dS dM rfl rfl, c7.cg dS dM rfl rfl, c8.cg dS dM rfl rfl, c9.cg dS dM rfl rfl, c10.cg dS dM rfl rfl, c11.pop.cg (StE.df dS rfl) hsM, (fun r hr => by rw [hrz] at hr; cases hr), c13⟩, rfl, hh, rfl, hme, by simp, fun _ => hrz⟩, Nat.le_refl _⟩) (by simp only [sW]; omega)
theorem stopBR_go {X : Sx} {r : Nat} (h : RetSt T k (n + 1) fr rz wk bu re sb sr u w e S M) (hrz : rz = some r) (hrn : r ≠ n) (hS : rStep S = rEnd S 3) (hM : MS M (gEnd X)) (dM : Df [2000, 1900, 1800] M X) (hsM : StE sFM n M X) (h15 : ¬ T 0 (fr n) = 15) (h20 : ¬ T 0 (fr n) = 20) : Go T k (VV * (bu + re) + sW wk (n + 1)) S M := by
  subst hrz
  have htp := h.1.top
  have hf := htp.2.2.2.2.2.2.2.2
  have hw := hf.2.2.2.2.2.2.1
  obtain ⟨o1, o2, o3, o4, o5, o6, o7, o8⟩ := h.1.of
  obtain ⟨hc, hd, hh0, he, -, -, -⟩ := id h
  rw [rEnd, fClose_e (n := n) (by rw [sw_ne (by decide)]; exact hd) (by omega)] at hS
  have dS : Df [1105, 8] S (sw (sw S 8 0 3) 1105 0 (nI n)) := (Df.rf.to 8 0 3).to 1105 0 _
  have d2 : Df [30, 2000, 1900, 1800] M (sw X 30 0 (nI n)) := dM.to 30 0 _
  obtain ⟨c1, c2, c3, c4, c5, c6, c7, c8, c9, c10, c11, c12, c13⟩ := hc
  rw [cN_succ, if_neg h15, Nat.add_zero] at c9 c13
  have hX30 : X 30 0 = nI (n + 1) := by rw [dM.at 30 0 rfl]; exact hh0
  refine drain_out2 (r := r) (X := X) ⟨c1, c2.cg dS d2 rfl rfl, c3.cg dS d2 rfl rfl, c4.cg dS d2 rfl rfl, c5, c6.cg dS d2 rfl rfl, c7.cg dS d2 rfl rfl, c8.cg dS d2 rfl rfl, c9.cg dS d2 rfl rfl, c10.cg dS d2 rfl rfl, c11.pop.cg (StE.df dS rfl) (hsM.tn 30 0 _ rfl), fun r' hr' => ?_, c13⟩ (by omega) rfl rfl (fEmpty_f hd (by omega)) hS (by rw [hh0]; exact nI_nle (by omega) (by omega)) hM (by rw [dM.at 38 0 rfl]; exact c10.2) hX30 ?_ (by simp only [sW]; omega)
  · have := c12 r' hr'
    injection hr' with e1
    omega
  · have e16 : X 1600 n = nI (fr n) := by rw [dM.at 1600 n rfl]; exact hf.2.1
    rw [e16, cl (fr n), gLeave_no (by rw [sw_ne (by decide), dM.at 100 (fr n) rfl, o5]; exact h20) (by rw [sw_ne (by decide), dM.at 100 (fr n) rfl, o5]; exact h15)]
/-- the next part of the topmost statement begins -/
theorem next_go {S0 M0 S1 M1 : Sx} {c b : Nat} {g : Int32} {rz' : Option Nat} {bu' re' sb' sr' u' w' : Nat} (h : RetSt T k (n + 1) fr rz wk bu re sb sr u w e S M) (hS : rStep S = S1) (hMR : MR b M M1) (hS1 : S1 = cPush S0 n g (nI c)) {ph : Int32} (hM1 : M1 = gPush (sw M0 1700 n ph) (n + 1) (nI c)) (hsg : cSg T (fr n) rz' S1 M1 n)
    (c2 : cProg T S0 M0) (c3 : cMem u' w' S0 M0) (c4 : cMon bu' re' sb' sr' S0 M0) (c5 : cLim bu' re' sb' sr' u' w') (c6 : cLock S0 M0) (c7 : cLog S0 M0) (c8 : cKind S0 M0) (c9 : cMeth (cN T fr (n + 1) + 1) S0 M0) (c10 : cBy rz' S0 M0) (c11 : cStk T k fr rz' wk n S0 M0) (c12 : ∀ r, rz' = some r → r < n + 1)
    (hs : S0 1200 n = nI (fr n)) (hs' : M0 1600 n = nI (fr n)) (hck : c < k) (hch : ht T c < ht T (fr n)) (hg1 : g = 1 → ¬ (T 0 (fr n) = 12 ∨ T 0 (fr n) = 18 ∨ T 0 (fr n) = 19)) (h15 : ¬ T 0 (fr n) = 15)
    (hp : VV * (bu' + re') + 1 + w3 (ht T c) + 1 ≤ VV * (bu + re) + wk n) : Go T k (VV * (bu + re) + sW wk (n + 1)) S M := by
  have htp := h.1.top
  have hf := htp.2.2.2.2.2.2.2.2
  obtain ⟨hc, hd0, hh0, -⟩ := id h
  obtain ⟨d1, -, -, -, -, -, -, -, -, -, -, -, d13⟩ := id hc
  have eN : cN T fr (n + 1) = cN T fr n := by rw [cN_succ, if_neg h15, Nat.add_zero]
  have hr := push_run (S := S0) (M := M0) (fr := fr) (wk := wk) (n := n) (rz := rz') (wn := 1) (g := g) (ph := ph) (c := c) d1 c2 c3 c4 c5 c6 c7 c8 c9 c10 c11 c12 d13 hs hs' hf.2.2.1 hf.2.2.2.1 hf.2.2.2.2.1 hck (by have := hf.2.2.2.1; rw [eN]; omega) (Nat.le_refl 1) (fun e1 e2 => absurd e2 (hg1 e1)) hS1 hM1 hsg
  refine ⟨1, b, S1, M1, _, ⟨fEmpty_f hd0 (by omega), hS⟩, hMR, Or.inl ⟨_, _, _, _, _, _, _, _, _, _, hr, Nat.le_refl _⟩, ?_, Nat.le_refl 1⟩
  rw [upf_e, sW, sW_up wk (Nat.le_refl n), upf_e, sW]
  omega
theorem MR.one {M1 : Sx} {m : Nat} (hh : M 30 0 = nI (m + 1)) (hm : m < 1000) (h : MS M M1) : MR 1 M M1 := ⟨M1, by rw [hh]; exact nI_nle (by omega) (by omega), h, rfl⟩
theorem MR.two {M1 M2 : Sx} {m : Nat} (hh : M 30 0 = nI (m + 1)) (hm : m < 1000) (h : MS M M1) (hh2 : M1 30 0 = nI (m + 1)) (h2 : MS M1 M2) : MR 2 M M2 := ⟨M1, by rw [hh]; exact nI_nle (by omega) (by omega), h, M2, by rw [hh2]; exact nI_nle (by omega) (by omega), h2, rfl⟩
theorem Core.kid (h : Core T k (n + 1) fr rz wk bu re sb sr u w S M) {x : Int32} (hx : Kid T (fr n) x) : ∃ c : Nat, x = nI c ∧ c < k ∧ n + 1 < 128 ∧ ht T c < ht T (fr n) ∧ ht T c ≤ 15 ∧ ∃ hp : Nat, ht T (fr n) = hp + 1 ∧ w3 (ht T c) ≤ w3 hp := by
  have htp := h.top
  obtain ⟨⟨-, -, p3, -⟩, -⟩ := id h
  obtain ⟨c, e1, e2, e3⟩ := hx
  have h1 := (p3 c (by omega)).1
  obtain ⟨hp, ehp⟩ : ∃ hp, ht T (fr n) = hp + 1 := ⟨ht T (fr n) - 1, by omega⟩
  exact ⟨c, e1, by omega, by omega, e3, by omega, hp, ehp, w3_mono (by omega)⟩
theorem ret_12 (h : RetSt T k (n + 1) fr rz wk bu re sb sr u w e S M) (hv : T 0 (fr n) = 12) (hb : Kid T (fr n) (T 2 (fr n))) : Go T k (VV * (bu + re) + sW wk (n + 1)) S M := by
  have htp := h.1.top
  have hf := htp.2.2.2.2.2.2.2.2
  obtain ⟨o1, o2, o3, o4, o5, o6, o7, o8⟩ := h.1.of
  obtain ⟨hc, hd, hh, he, hme, hee, h3⟩ := id h
  have hst : rStep S = rBoth S (nI (fr n)) := by rw [hc.step hd, rGoOn, o1, hv, if_pos rfl]
  rw [rBoth, fGet_e hd (by omega), he, o3] at hst
  have n15 : ¬ T 0 (fr n) = 15 := by rw [hv]; decide
  rcases hf.2.2.2.2.2.1 with ⟨q1, q2, q3⟩ | ⟨q1, q2, q3, -⟩ | ⟨-, -, q, -⟩
  · rw [q1, if_pos rfl] at hst
    by_cases z : e = 0
    · obtain ⟨c, ec, hck, hnb, hch, -, hp, ehp, hw⟩ := hc.kid hb
      rw [if_pos z, ec, rDoPart_e hd hnb] at hst
      obtain ⟨c1, c2, c3, c4, c5, c6, c7, c8, c9, c10, c11, c12, c13⟩ := id hc
      have hM : MS M (gPush (sw M 1700 n 2) (n + 1) (nI c)) := MS.tel h.nr fun d Q hQ => sp_X10_tell_12 hh (by omega) hf.2.1 htp.2.1 (o5.trans hv) (by rw [if_pos q2, hme, if_pos z, o7, ec]; exact hQ)
      have hwk := hf.2.2.2.2.2.2.2 q1 (Or.inl hv) hp ehp
      refine next_go h hst (MR.one hh (by omega) hM) rfl rfl (Or.inr (Or.inl ⟨?_, ?_, q3, Or.inl hv⟩)) c2 c3 c4 c5 c6 c7 c8 c9 c10 c11.pop c12 hf.1 hf.2.1 hck hch (fun e => absurd e (by decide)) n15 (by omega)
      · simp only [cPush]
        rw [sw_ne (by decide), sw_ix (by omega), sw_ne (by decide), sw_eq]
      · simp only [gPush]
        rw [sw_ne (by decide), sw_ne (by decide), sw_ix (by omega), sw_ne (by decide), sw_eq]
    · rw [if_neg z] at hst
      exact pop_go h hst (MS.tel h.nr fun d Q hQ => sp_X10_tell_12 hh (by omega) hf.2.1 htp.2.1 (o5.trans hv) (by rw [if_pos q2, hme, if_neg z]; exact hQ)) n15 q3
  · rw [q1, if_neg (by decide)] at hst
    exact pop_go h hst (MS.tel h.nr fun d Q hQ => sp_X10_tell_12 hh (by omega) hf.2.1 htp.2.1 (o5.trans hv) (by rw [q2, if_neg (by decide)]; exact hQ)) n15 q3
  · rw [hv] at q; exact absurd q (by decide)
theorem cSg.rn {s : Nat} (h : cSg T s rz S M n) (hv : ¬ T 0 s = 19) : rz ≠ some n := by
  rcases h with ⟨-, -, q⟩ | ⟨-, -, q, -⟩ | ⟨-, -, q, -⟩
  · exact q
  · exact q
  · exact absurd q hv
theorem cSg.ph {s : Nat} (h : cSg T s rz S M n) (h1 : ¬ T 0 s = 12) (h2 : ¬ T 0 s = 18) (h3 : ¬ T 0 s = 19) : S 1300 n = 1 ∧ M 1700 n = 1 ∧ rz ≠ some n := by
  rcases h with q | ⟨-, -, -, q⟩ | ⟨-, -, q, -⟩
  · exact q
  · rcases q with q | q | ⟨q, -⟩
    · exact absurd q h1
    · exact absurd q h2
    · exact absurd q h3
  · exact absurd q h3
theorem ret_13 (h : RetSt T k (n + 1) fr rz wk bu re sb sr u w e S M) (hv : T 0 (fr n) = 13) : Go T k (VV * (bu + re) + sW wk (n + 1)) S M := by
  have htp := h.1.top
  have hf := htp.2.2.2.2.2.2.2.2
  obtain ⟨o1, o2, o3, o4, o5, o6, o7, o8⟩ := h.1.of
  obtain ⟨hc, hd, hh, he, hme, hee, h3⟩ := id h
  have hst : rStep S = fClose S := by rw [hc.step hd, rGoOn, o1, hv, if_neg (by decide), if_neg (by decide), if_neg (by decide), if_neg (by decide), if_neg (by decide), if_neg (by decide)]
  exact pop_go h hst (MS.tel h.nr fun d Q hQ => sp_X10_tell_13 hh (by omega) hf.2.1 htp.2.1 (o5.trans hv) hQ) (by rw [hv]; decide) (hf.2.2.2.2.2.1.rn (by rw [hv]; decide))
theorem ret_20 (h : RetSt T k (n + 1) fr rz wk bu re sb sr u w e S M) (hv : T 0 (fr n) = 20) (ha : inN 4 (T 1 (fr n))) : Go T k (VV * (bu + re) + sW wk (n + 1)) S M := by
  obtain ⟨a, ea, hab⟩ := ha
  have htp := h.1.top
  have hf := htp.2.2.2.2.2.2.2.2
  obtain ⟨o1, o2, o3, o4, o5, o6, o7, o8⟩ := h.1.of
  obtain ⟨hc, hd, hh, he, hme, hee, h3⟩ := id h
  obtain ⟨-, hph, hrz⟩ := hf.2.2.2.2.2.1.ph (by rw [hv]; decide) (by rw [hv]; decide) (by rw [hv]; decide)
  have hst : rStep S = sw (sw S 1000 a (S 1000 a - 1)) 1105 0 (nI n) := by
    rw [hc.step hd, rGoOn, o1, o2, hv, ea, if_neg (by decide), if_neg (by decide), if_neg (by decide), if_neg (by decide), if_neg (by decide), if_pos rfl, lFree, if_pos (show inb (nI a) 4 = true from inb_nI (b := 4) hab (by omega)), cl a, fClose_e (n := n) (by rw [sw_ne (by decide)]; exact hd) (by omega)]
  have hl : gLeave M n (fr n) = sw M 900 a (M 900 a - 1) := by
    rw [gLeave, gLv1, if_pos (o5.trans hv), if_pos hph, o6, ea, cl a, gLv2, if_neg (by rw [sw_ne (by decide), o5, hv]; decide)]
  have dS : Df [1105, 1000] S (sw (sw S 1000 a (S 1000 a - 1)) 1105 0 (nI n)) := (Df.rf.to 1000 a _).to 1105 0 _
  have dM : Df [30, 900] M (gPop (sw M 900 a (M 900 a - 1)) n) := (Df.rf.to 900 a _).to 30 0 _
  obtain ⟨c1, c2, c3, c4, c5, c6, c7, c8, c9, c10, c11, c12, c13⟩ := id hc
  rw [cN_succ, if_neg (by rw [hv]; decide), Nat.add_zero] at c9 c13
  refine down_go h hst (MS.tel h.nr fun d Q hQ => sp_X10_tell_20 hh (by omega) hf.2.1 htp.2.1 (o5.trans hv) (o6.trans ea) hab (by rw [hl]; exact hQ)) ⟨c1, c2.cg dS dM rfl rfl, c3.cg dS dM rfl rfl, c4.cg dS dM rfl rfl, c5, ⟨fun i hi => ?_, c6.2⟩, c7.cg dS dM rfl rfl, c8.cg dS dM rfl rfl, c9.cg dS dM rfl rfl, c10.cg dS dM rfl rfl, c11.pop.cg (StE.df dS rfl) (StE.df dM rfl), fun r hr => ?_, c13⟩ rfl rfl (by rw [dS.at 8 0 rfl]; exact he) (by rw [dM.at 37 0 rfl]; exact hme) hee h3
  · rw [gPop]
    by_cases z : i = a
    · subst z
      simp only [sw_ne, sw_eq, ne_eq, Nat.reduceEqDiff, not_false_eq_true, c6.1 i hi]
    · simp only [sw_ne, sw_ix z, ne_eq, Nat.reduceEqDiff, not_false_eq_true, c6.1 i hi]
  · have := c12 r hr
    have : r ≠ n := fun e1 => hrz (by rw [hr, e1])
    omega
theorem ret_15 (h : RetSt T k (n + 1) fr rz wk bu re sb sr u w e S M) (hv : T 0 (fr n) = 15) : Go T k (VV * (bu + re) + sW wk (n + 1)) S M := by
  have htp := h.1.top
  have hf := htp.2.2.2.2.2.2.2.2
  obtain ⟨o1, o2, o3, o4, o5, o6, o7, o8⟩ := h.1.of
  obtain ⟨hc, hd, hh, he, hme, hee, h3⟩ := id h
  obtain ⟨-, hph, hrz⟩ := hf.2.2.2.2.2.1.ph (by rw [hv]; decide) (by rw [hv]; decide) (by rw [hv]; decide)
  have hst : rStep S = sw (sw (sw S 6 0 (S 6 0 - 1)) 8 0 (if e = 1 then 0 else e)) 1105 0 (nI n) := by
    rw [hc.step hd, rGoOn, o1, hv, if_neg (by decide), if_neg (by decide), if_pos rfl, he]
    by_cases z : e = 1
    · rw [if_pos z, if_pos z, rEnd, fClose_e (n := n) (by rw [sw_ne (by decide), sw_ne (by decide)]; exact hd) (by omega)]
    · rw [if_neg z, if_neg z, rEnd, fClose_e (n := n) (by rw [sw_ne (by decide), sw_ne (by decide)]; exact hd) (by omega)]
  have hl : gLeave M n (fr n) = sw M 36 0 (M 36 0 - 1) := by
    rw [gLeave, gLv1, if_neg (by rw [o5, hv]; decide), gLv2, if_pos (o5.trans hv), if_pos hph]
  have dS : Df [1105, 8, 6] S (sw (sw (sw S 6 0 (S 6 0 - 1)) 8 0 (if e = 1 then 0 else e)) 1105 0 (nI n)) := ((Df.rf.to 6 0 _).to 8 0 _).to 1105 0 _
  have dM : Df [37, 30, 36] M (gComes (sw M 36 0 (M 36 0 - 1)) n (if e = 1 then 0 else e)) := ((Df.rf.to 36 0 _).to 30 0 _).to 37 0 _
  obtain ⟨c1, c2, c3, c4, c5, c6, c7, c8, c9, c10, c11, c12, c13⟩ := id hc
  rw [cN_succ, if_pos hv] at c9 c13
  refine down_go (e' := if e = 1 then 0 else e) h hst (MS.tel h.nr fun d Q hQ => sp_X10_tell_15 hh (by omega) hf.2.1 htp.2.1 (o5.trans hv) (by
    rw [hme, hl]
    by_cases z : e = 1
    · rw [if_pos z]; rw [if_pos z] at hQ; exact hQ
    · rw [if_neg z]; rw [if_neg z] at hQ; exact hQ)) ⟨c1, c2.cg dS dM rfl rfl, c3.cg dS dM rfl rfl, c4.cg dS dM rfl rfl, c5, c6.cg dS dM rfl rfl, c7.cg dS dM rfl rfl, c8.cg dS dM rfl rfl, ⟨?_, ?_, c9.2.2⟩, c10.cg dS dM rfl rfl, c11.pop.cg (StE.df dS rfl) (StE.df dM rfl), fun r hr => ?_, by omega⟩ rfl rfl rfl rfl ?_ ?_
  · rw [sw_ne (by decide), sw_ne (by decide), sw_eq, c9.1, nI_pred]
  · rw [gComes, sw_ne (by decide), sw_ne (by decide), sw_eq, c9.2.1, nI_pred]
  · have := c12 r hr
    have : r ≠ n := fun e1 => hrz (by rw [hr, e1])
    omega
  · rcases hee with rfl | rfl | rfl | rfl <;> simp
  · intro e3
    refine h3 ?_
    by_cases z : e = 1
    · rw [if_pos z] at e3; exact absurd e3 (by decide)
    · rw [if_neg z] at e3; exact e3
end TELL
