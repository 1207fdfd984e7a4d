section FIN
variable {T S M : Sx} {k n : Nat} {fr : Nat → Nat} {rz : Option Nat} {wk : Nat → Nat} {bu re sb sr u w : Nat} {e : Int32}
theorem stk_some (h : cStk T k fr none wk n S M) : cStk T k fr (some n) wk n S M := fun i hi => by
  obtain ⟨a1, a2, a3, a4, a5, a6, a7⟩ := h i hi
  refine ⟨a1, a2, a3, a4, a5, ?_, a7⟩
  rcases a6 with ⟨x1, x2, -⟩ | ⟨x1, x2, -, x3⟩ | ⟨-, -, -, x⟩
  · exact Or.inl ⟨x1, x2, fun e => by injection e; omega⟩
  · exact Or.inr (Or.inl ⟨x1, x2, fun e => by injection e; omega, x3⟩)
  · cases x
theorem StE.keep {a b c : Int32} (hd : S 1105 0 = nI (n + 1)) (hn : n < 1000) : StE sFS n S (fKeep S a b c) := by
  rw [fKeep_e hd hn]
  exact ((StE.rf.to 1400 n a (by omega)).to 1500 n b (by omega)).to 1600 n c (by omega)
theorem StE.finW : StE sFM n M (gFinW M n) := ((StE.rf.to 1800 n _ (by omega)).to 1900 n _ (by omega)).to 2000 n _ (by omega)
/-- the last part begins, paid: common to budget and reserve -/
theorem last_go {P Y G : Sx} {b : Nat} {g : Int32} {rz' : Option Nat} {bu' re' sb' sr' : Nat} (h : RetSt T k (n + 1) fr rz wk bu re sb sr u w e S M) (hv : T 0 (fr n) = 19) (hb : Kid T (fr n) (T 2 (fr n))) (s1 : S 1300 n = 1)
    (hst : rStep S = rDoPart (pNote (fKeep P (P 8 0) (P 9 0) (P 10 0)) (nI (fr n))) g (gOf (pNote (fKeep P (P 8 0) (P 9 0) (P 10 0)) (nI (fr n))) 2000 (-1) (nI (fr n))))
    (hMR : MR b M (gSecond (gNote G (nI (fr n))) n (Y 300 (fr n))))
    (dP : Df [700, 603, 604, 605, 606, 607] S P) (dY : Df [38, 37, 2000, 1900, 1800] M Y) (dG : Df [1300, 16, 17, 18, 19] Y G) (hsY : StE sFM n M Y)
    (hmon : cMon bu' re' sb' sr' P G) (hlim : cLim bu' re' sb' sr' u w) (hby : cBy rz' P G) (hstk : cStk T k fr rz' wk n S M) (hrl : ∀ r, rz' = some r → r < n + 1) (hpot : bu' + re' + 10 = bu + re)
    (hg : (g = 2 ∧ rz' ≠ some n ∧ Y 1800 n = e ∧ Y 1900 n = M 27 0 ∧ Y 2000 n = M 28 0 ∧ (e = 0 ∨ e = 1 ∨ e = 2)) ∨ (g = 3 ∧ rz' = some n)) : Go T k (VV * (bu + re) + sW wk (n + 1)) S M := by
  have htp := h.1.top
  have hf := htp.2.2.2.2.2.2.2.2
  obtain ⟨o1, o2, o3, o4, o5, o6, o7, o8⟩ := h.1.of
  obtain ⟨hc, hd, hh, he, hme, hee, h3⟩ := id h
  obtain ⟨c1, c2, c3, c4, c5, c6, c7, c8, c9, c10, c11, c12, c13⟩ := id hc
  obtain ⟨c, ec, hck, hnb, hch, hc15, hp, ehp, hw⟩ := hc.kid hb
  have n15 : ¬ T 0 (fr n) = 15 := by rw [hv]; decide
  have hvv : VV * (bu + re) = VV * (bu' + re') + VV * 10 := by rw [← Nat.mul_add]; congr 1; omega
  have hwk := hf.2.2.2.2.2.2.2 s1 (Or.inr (Or.inr hv)) hp ehp
  have hPd : P 1105 0 = nI (n + 1) := by rw [dP.at 1105 0 rfl]; exact hd
  have eK := fKeep_e (a := P 8 0) (b := P 9 0) (c := P 10 0) hPd (by omega)
  have dK : Df [602, 800, 1600, 1500, 1400] P (pNote (fKeep P (P 8 0) (P 9 0) (P 10 0)) (nI (fr n))) := (df_fKeep (S := P)).tr df_pNote
  have d0 := dP.tr dK
  have d1 : Df [21, 1400] G (gNote G (nI (fr n))) := df_gNote
  have dM0 := (dY.tr dG).tr d1
  have hk : S 1706 0 = nI k := c2.2.2.1.trans c1.1
  have e2000 : S 2000 (fr n) = nI c := by rw [(c2.1 (fr n) htp.2.1).2.2.1]; exact ec
  have e300 : Y 300 (fr n) = nI c := by rw [dY.at 300 (fr n) rfl, o7]; exact ec
  rw [gOf_e (k := k) (by rw [d0.at 1706 0 rfl]; exact hk) htp.2.2.1 htp.2.2.2.1, d0.at 2000 (fr n) rfl, e2000, rDoPart_e (n := n) (by rw [d0.at 1105 0 rfl]; exact hd) hnb] at hst
  rw [e300] at hMR
  have x14 : pNote (fKeep P (P 8 0) (P 9 0) (P 10 0)) (nI (fr n)) 1400 n = P 8 0 ∧ pNote (fKeep P (P 8 0) (P 9 0) (P 10 0)) (nI (fr n)) 1500 n = P 9 0 ∧ pNote (fKeep P (P 8 0) (P 9 0) (P 10 0)) (nI (fr n)) 1600 n = P 10 0 := by
    rw [df_pNote.at 1400 n rfl, df_pNote.at 1500 n rfl, df_pNote.at 1600 n rfl, eK]
    simp only [sw_ne, sw_eq, ne_eq, Nat.reduceEqDiff, not_false_eq_true, and_self]
  obtain ⟨x1, x2, x3⟩ := x14
  refine next_go (S0 := pNote (fKeep P (P 8 0) (P 9 0) (P 10 0)) (nI (fr n))) (M0 := gNote G (nI (fr n))) (u' := u) (w' := w) (ph := 2) (rz' := rz') h hst hMR rfl rfl ?_ (c2.cg d0 dM0 rfl rfl) (c3.cg d0 dM0 rfl rfl) (hmon.cg dK d1 rfl rfl) hlim (c6.cg d0 dM0 rfl rfl) ?_ (c8.cg d0 dM0 rfl rfl) (c9.cg d0 dM0 rfl rfl) (hby.cg dK d1 rfl rfl) ?_ hrl (by rw [d0.at 1200 n rfl]; exact hf.1) (by rw [dM0.at 1600 n rfl]; exact hf.2.1) hck hch ?_ n15 (by omega)
  · have y1 : cPush (pNote (fKeep P (P 8 0) (P 9 0) (P 10 0)) (nI (fr n))) n g (nI c) 1300 n = g := by
      simp only [cPush]
      rw [sw_ne (by decide), sw_ix (by omega), sw_ne (by decide), sw_eq]
    have y2 : gPush (sw (gNote G (nI (fr n))) 1700 n 2) (n + 1) (nI c) 1700 n = 2 := by
      simp only [gPush]
      rw [sw_ne (by decide), sw_ne (by decide), sw_ix (by omega), sw_ne (by decide), sw_eq]
    rcases hg with ⟨g1, g2, g3, g4, g5, g6⟩ | ⟨g1, g2⟩
    · refine Or.inr (Or.inl ⟨y1.trans g1, y2, g2, Or.inr (Or.inr ⟨hv, ?_, ?_, ?_, ?_, ?_⟩)⟩)
      · rw [df_cPush.at 1400 n rfl, x1, gSecond, df_gPush.at 1800 n rfl, sw_ne (by decide), d1.at 1800 n rfl, dG.at 1800 n rfl, g3, dP.at 8 0 rfl, he]
      · rw [df_cPush.at 1500 n rfl, x2, gSecond, df_gPush.at 1900 n rfl, sw_ne (by decide), d1.at 1900 n rfl, dG.at 1900 n rfl, g4, dP.at 9 0 rfl, c8.1]
      · rw [df_cPush.at 1600 n rfl, x3, gSecond, df_gPush.at 2000 n rfl, sw_ne (by decide), d1.at 2000 n rfl, dG.at 2000 n rfl, g5, dP.at 10 0 rfl, c8.2.1]
      · rw [df_cPush.at 1400 n rfl, x1, dP.at 8 0 rfl, he]; exact g6
      · rw [df_cPush.at 1500 n rfl, x2, df_cPush.at 1600 n rfl, x3, dP.at 9 0 rfl, dP.at 10 0 rfl]; exact c8.2.2
    · exact Or.inr (Or.inr ⟨y1.trans g1, y2, hv, g2⟩)
  · have q1 : cLog (fKeep P (P 8 0) (P 9 0) (P 10 0)) G := c7.cg (dP.tr df_fKeep) (dY.tr dG) rfl rfl
    exact q1.note (nI (fr n))
  · refine (hstk.cg (StE.df dP rfl) hsY).cg ?_ ?_
    · exact (StE.keep hPd (by omega)).tr (StE.df df_pNote rfl)
    · exact (StE.df dG rfl).tr (StE.df d1 rfl)
  · intro g1
    rcases hg with ⟨g2, -⟩ | ⟨g2, -⟩ <;> rw [g2] at g1 <;> exact absurd g1 (by decide)
theorem last_res {Y : Sx} {b : Nat} (h : RetSt T k (n + 1) fr rz wk bu re sb sr u w e S M) (hv : T 0 (fr n) = 19) (hb : Kid T (fr n) (T 2 (fr n))) (hrz : rz = none) (s1 : S 1300 n = 1) (hle : 10 ≤ re) (hst : rStep S = rBeginLast S (nI (fr n))) (hok : lpOk S = false) (hA : lpA S = S) (dY : Df [38, 37, 2000, 1900, 1800] M Y) (hsY : StE sFM n M Y) (hY38 : Y 38 0 = nI n) (hMR : MR b M (gFinP Y n (fr n))) : Go T k (VV * (bu + re) + sW wk (n + 1)) S M := by
  subst hrz
  have htp := h.1.top
  obtain ⟨hc, hd, hh, he, hme, hee, h3⟩ := id h
  obtain ⟨c1, c2, c3, c4, c5, c6, c7, c8, c9, c10, c11, c12, c13⟩ := id hc
  have hpby : pBy S = false := by simp [pBy, c10.1]
  have dB : Df [607] S (sw S 607 0 1) := Df.rf.to 607 0 1
  have hmY : cMon bu re sb sr (sw S 607 0 1) Y := c4.cg dB dY rfl rfl
  have hbY : cBy (some n) (sw S 607 0 1) Y := ⟨sw_eq, hY38⟩
  obtain ⟨p1, p2, bu', re', sb', sr', p3, p4, p5, p6, p7⟩ := (pay_facts hmY hbY (fun r hr => by rw [hY38]; exact nI_ne_m1 (by omega)) c5.1 c5.2.1 (m := 3) (p := 10) (mk := 3) (q := 10) (by decide) (by omega) (by decide) (by omega)).1 hle
  have eG : lpG S = 3 := by rw [lpG, hok, if_neg (by decide), hA, hpby, if_neg (by decide), lpB, hA, p1, if_pos rfl]
  have eS : lpS S = pPay (sw S 607 0 1) 3 10 := by rw [lpS, hok, if_neg (by decide), hA, hpby, if_neg (by decide), lpB, hA, p1, if_pos rfl]
  rw [rBeginLast, eG, if_neg (by decide), rLastK, eS] at hst
  rw [gFinP, p2, if_pos rfl] at hMR
  have dP : Df [700, 603, 604, 605, 606, 607] S (pPay (sw S 607 0 1) 3 10) := (dB.tr df_pPay).mono rfl
  have dG := df_gPay (S := Y) (k := 3) p2
  obtain ⟨l1, l2, l3, l4⟩ := c5
  exact last_go (Y := Y) (rz' := some n) (bu' := bu') (re' := re') (sb' := sb') (sr' := sr') h hv hb s1 hst hMR dP dY dG hsY p3 ⟨by omega, by omega, by omega, by omega⟩ (hbY.cg df_pPay dG rfl rfl) (stk_some c11.pop) (fun r hr => by injection hr; omega) (by omega) (Or.inr ⟨rfl, rfl⟩)
theorem last_nores {M2 : Sx} {b : Nat} (h : RetSt T k (n + 1) fr rz wk bu re sb sr u w e S M) (hv : T 0 (fr n) = 19) (hrz : rz = none) (hle : ¬ 10 ≤ re) (hst : rStep S = rBeginLast S (nI (fr n))) (hok : lpOk S = false) (hA : lpA S = S) (dM : Df [30, 37, 2000, 1900, 1800] M M2) (hsM : StE sFM n M M2) (h30 : M2 30 0 = nI n) (h37 : M2 37 0 = 3) (hMR : MR b M M2) : Go T k (VV * (bu + re) + sW wk (n + 1)) S M := by
  subst hrz
  have htp := h.1.top
  have hf := htp.2.2.2.2.2.2.2.2
  have hw := hf.2.2.2.2.2.2.1
  obtain ⟨hc, hd, hh, he, hme, hee, h3⟩ := id h
  obtain ⟨c1, c2, c3, c4, c5, c6, c7, c8, c9, c10, c11, c12, c13⟩ := id hc
  have hpby : pBy S = false := by simp [pBy, c10.1]
  have b1 : ¬ sw S 607 0 1 607 0 = 0 := by rw [sw_eq]; decide
  have hpok : pOk (sw S 607 0 1) 3 10 = false := by
    rw [pOk, pHas, if_neg b1, sw_ne (by decide), c4.2.2.1, if_pos (by rw [show (10 : Int32) = nI 10 by decide]; exact (i_lt (by have := c5.2.1; omega) (by omega)).mpr (by omega))]
  have epay : pPay (sw S 607 0 1) 3 10 = sw S 607 0 1 := by rw [pPay, hpok]; rfl
  have eG : lpG S = -1 := by rw [lpG, hok, if_neg (by decide), hA, hpby, if_neg (by decide), lpB, hA, hpok]; rfl
  have eS : lpS S = sw (sw S 607 0 1) 607 0 0 := by rw [lpS, hok, if_neg (by decide), hA, hpby, if_neg (by decide), lpB, hA, hpok, if_neg (by decide), epay]
  rw [rBeginLast, eG, if_pos rfl, eS, rEnd, fClose_e (n := n) (by rw [sw_ne (by decide), sw_ne (by decide), sw_ne (by decide)]; exact hd) (by omega)] at hst
  have dS : Df [1105, 8, 607, 607] S (sw (sw (sw (sw S 607 0 1) 607 0 0) 8 0 3) 1105 0 (nI n)) := (((Df.rf.to 607 0 1).to 607 0 0).to 8 0 3).to 1105 0 _
  rw [cN_succ, if_neg (by rw [hv]; decide), Nat.add_zero] at c9 c13
  exact ⟨1, b, _, M2, _, ⟨fEmpty_f hd (by omega), hst⟩, hMR, Or.inr ⟨n, fr, none, wk, bu, re, sb, sr, u, w, 3, ⟨⟨c1, c2.cg dS dM rfl rfl, c3.cg dS dM rfl rfl, c4.cg dS dM rfl rfl, c5, c6.cg dS dM rfl rfl, c7.cg dS dM rfl rfl, c8.cg dS dM rfl rfl, c9.cg dS dM rfl rfl, ⟨rfl, by rw [dM.at 38 0 rfl]; exact c10.2⟩, c11.pop.cg (StE.df dS rfl) hsM, (fun r hr => by cases hr), c13⟩, rfl, h30, rfl, h37, by simp, fun _ => rfl⟩, Nat.le_refl _⟩, by simp only [sW]; omega, Nat.le_refl 1⟩
theorem ret_19a (h : RetSt T k (n + 1) fr rz wk bu re sb sr u w e S M) (hv : T 0 (fr n) = 19) (hb : Kid T (fr n) (T 2 (fr n))) (s1 : S 1300 n = 1) (s2 : M 1700 n = 1) (hrzn : rz ≠ some n) : Go T k (VV * (bu + re) + sW wk (n + 1)) S M := by
  have htp := h.1.top
  have hf := htp.2.2.2.2.2.2.2.2
  obtain ⟨o1, o2, o3, o4, o5, o6, o7, o8⟩ := h.1.of
  obtain ⟨hc, hd, hh, he, hme, hee, h3⟩ := id h
  obtain ⟨c1, c2, c3, c4, c5, c6, c7, c8, c9, c10, c11, c12, c13⟩ := id hc
  have hdr := hc.dr hh
  have hF := hc.frok hf.2.2.1 hf.2.1
  have hst : rStep S = rBeginLast S (nI (fr n)) := by rw [hc.step hd, rGoOn, o1, hv, if_neg (by decide), if_neg (by decide), if_neg (by decide), if_neg (by decide), if_pos rfl, fGet_e hd (by omega), if_pos s1]
  have hMh : ∀ M1, gFin M n (fr n) = M1 → MS M M1 := fun M1 e1 => MS.tel h.nr fun d Q hQ => sp_X10_tell_19_1 hh (by omega) hf.2.1 htp.2.1 (o5.trans hv) s2 hdr hF c7.hl (by rw [e1]; exact hQ)
  have dX := df_gFinW (S := M) (n := n)
  have w1 : gFinW M n 1800 n = e ∧ gFinW M n 1900 n = M 27 0 ∧ gFinW M n 2000 n = M 28 0 := by
    rw [gFinW, ← hme]
    simp only [sw_ne, sw_eq, ne_eq, Nat.reduceEqDiff, not_false_eq_true, and_self]
  by_cases z : e = 3
  · have hrz := h3 z
    have hok : lpOk S = false := by rw [lpOk, he, if_pos z]
    have hA : lpA S = S := by rw [lpA, he, if_pos z]
    have e17 : M 17 0 = nI re := c4.2.2.2.1
    by_cases hle : 10 ≤ re
    · have hg : gFin M n (fr n) = gFinP (sw (gFinW M n) 38 0 (nI n)) n (fr n) := by rw [gFin, hme, if_pos z, e17, if_pos (by rw [show (10 : Int32) = nI 10 by decide]; exact nI_le hle (by have := c5.2.1; omega))]
      exact last_res h hv hb hrz s1 hle hst hok hA ((dX.to 38 0 _).mono rfl) (StE.finW.tn 38 0 _ rfl) sw_eq (MR.one hh (by omega) (hMh _ hg))
    · have hg : gFin M n (fr n) = gPop (gFinW M n) n := by rw [gFin, hme, if_pos z, e17, if_neg (by rw [show (10 : Int32) = nI 10 by decide]; exact nI_ge (by omega) (by omega))]
      exact last_nores h hv hrz hle hst hok hA ((dX.tr df_gPop).mono rfl) (StE.finW.tn 30 0 _ rfl) rfl (by rw [df_gPop.at 37 0 rfl, dX.at 37 0 rfl, hme, z]) (MR.one hh (by omega) (hMh _ hg))
  · have hg0 : gFin M n (fr n) = gFinP (gFinW M n) n (fr n) := by rw [gFin, hme, if_neg z]
    have he3 : e = 0 ∨ e = 1 ∨ e = 2 := by rcases hee with q | q | q | q <;> first | exact absurd q z | simp [q]
    have hmX : cMon bu re sb sr S (gFinW M n) := c4.cg Df.rf dX rfl rfl
    have hbX : cBy rz S (gFinW M n) := c10.cg Df.rf dX rfl rfl
    have hrnX : ∀ r, rz = some r → ¬ gFinW M n 38 0 = -1 := fun r hr => by rw [dX.at 38 0 rfl]; exact hc.rn r hr
    have hpf := pay_facts hmX hbX hrnX c5.1 c5.2.1 (m := 3) (p := 10) (mk := 3) (q := 10) (by decide) (by omega) (by decide) (by omega)
    by_cases hle : 10 ≤ hasN rz bu re
    · obtain ⟨p1, p2, bu', re', sb', sr', p3, p4, p5, p6, p7⟩ := hpf.1 hle
      have hok : lpOk S = true := by rw [lpOk, he, if_neg z, p1]
      have hA : lpA S = pPay S 3 10 := by rw [lpA, he, if_neg z]
      have eG : lpG S = 2 := by rw [lpG, hok, if_pos rfl]
      have eS : lpS S = pPay S 3 10 := by rw [lpS, hok, if_pos rfl, hA]
      rw [rBeginLast, eG, if_neg (by decide), rLastK, eS] at hst
      have dG := df_gPay (S := gFinW M n) (k := 3) p2
      have hg1 : gFin M n (fr n) = gSecond (gNote (gPayS (gFinW M n) 3 10) (nI (fr n))) n (gFinW M n 300 (fr n)) := by rw [hg0, gFinP, p2, if_pos rfl]
      obtain ⟨l1, l2, l3, l4⟩ := c5
      exact last_go (Y := gFinW M n) (rz' := rz) (bu' := bu') (re' := re') (sb' := sb') (sr' := sr') h hv hb s1 hst (MR.one hh (by omega) (hMh _ hg1)) (df_pPay.mono rfl) (dX.mono rfl) dG StE.finW p3 ⟨by omega, by omega, by omega, by omega⟩ (hbX.cg df_pPay dG rfl rfl) c11.pop (fun r hr => by have := c12 r hr; omega) (by omega) (Or.inl ⟨rfl, hrzn, w1.1, w1.2.1, w1.2.2, he3⟩)
    · obtain ⟨p1, p2, p3, p4, p5⟩ := hpf.2 hle
      have hok : lpOk S = false := by rw [lpOk, he, if_neg z, p1]
      have hA : lpA S = S := by rw [lpA, he, if_neg z, p3]
      have hg1 : gFin M n (fr n) = gPayS (gFinW M n) 3 10 := by rw [hg0, gFinP, p2]; rfl
      cases hrz' : rz with
      | none =>
        have eg := p4 hrz'
        rw [eg] at hg1
        have hM1 := hMh _ hg1
        have hb38 : M 38 0 = -1 := by rw [hrz'] at c10; exact c10.2
        have dM1 : Df [37, 2000, 1900, 1800] M (sw (gFinW M n) 37 0 3) := dX.to 37 0 3
        have a30 : sw (gFinW M n) 37 0 3 30 0 = nI (n + 1) := by rw [dM1.at 30 0 rfl]; exact hh
        have hsM1 : StE sFM n M (sw (gFinW M n) 37 0 3) := StE.finW.tn 37 0 _ rfl
        have hMh2 : ∀ M2, gFin (sw (gFinW M n) 37 0 3) n (fr n) = M2 → MS (sw (gFinW M n) 37 0 3) M2 := fun M2 e2 => MS.tel (by rw [sw_eq]; decide) fun d Q hQ => sp_X10_tell_19_1 (s := fr n) a30 (by omega) (by rw [dM1.at 1600 n rfl]; exact hf.2.1) htp.2.1 (by rw [dM1.at 100 (fr n) rfl]; exact o5.trans hv) (by rw [dM1.at 1700 n rfl]; exact s2) (Or.inl (by rw [dM1.at 38 0 rfl]; exact hb38)) (by
          obtain ⟨s', g1, g2, g3⟩ := hF
          exact ⟨s', by rw [dM1.at 1600 n rfl]; exact g1, g2, by rw [dM1.at 100 s' rfl, dM1.at 200 s' rfl]; exact g3⟩) (by rw [dM1.at 21 0 rfl]; exact c7.hl) (by rw [e2]; exact hQ)
        have e17 : sw (gFinW M n) 37 0 3 17 0 = nI re := by rw [dM1.at 17 0 rfl]; exact c4.2.2.2.1
        have dX2 := df_gFinW (S := sw (gFinW M n) 37 0 3) (n := n)
        rw [hrz'] at h
        by_cases hle2 : 10 ≤ re
        · have hg2 : gFin (sw (gFinW M n) 37 0 3) n (fr n) = gFinP (sw (gFinW (sw (gFinW M n) 37 0 3) n) 38 0 (nI n)) n (fr n) := by rw [gFin, sw_eq, if_pos rfl, e17, if_pos (by rw [show (10 : Int32) = nI 10 by decide]; exact nI_le hle2 (by have := c5.2.1; omega))]
          exact last_res h hv hb rfl s1 hle2 hst hok hA (((dM1.tr dX2).to 38 0 _).mono rfl) ((hsM1.tr StE.finW).tn 38 0 _ rfl) sw_eq (MR.two hh (by omega) hM1 a30 (hMh2 _ hg2))
        · have hg2 : gFin (sw (gFinW M n) 37 0 3) n (fr n) = gPop (gFinW (sw (gFinW M n) 37 0 3) n) n := by rw [gFin, sw_eq, if_pos rfl, e17, if_neg (by rw [show (10 : Int32) = nI 10 by decide]; exact nI_ge (by omega) (by omega))]
          exact last_nores h hv rfl hle2 hst hok hA (((dM1.tr dX2).tr df_gPop).mono rfl) ((hsM1.tr StE.finW).tn 30 0 _ rfl) rfl (by rw [df_gPop.at 37 0 rfl, dX2.at 37 0 rfl, sw_eq]) (MR.two hh (by omega) hM1 a30 (hMh2 _ hg2))
      | some r =>
        have eg := p5 r hrz'
        rw [eg] at hg1
        have hpby : pBy S = true := by
          rw [hrz'] at c10
          simp [pBy, c10.1]
        have eG : lpG S = -1 := by rw [lpG, hok, if_neg (by decide), hA, hpby]; rfl
        have eS : lpS S = S := by rw [lpS, hok, if_neg (by decide), hA, hpby]; rfl
        rw [rBeginLast, eG, if_pos rfl, eS] at hst
        exact stopBR_go h hrz' (fun e1 => hrzn (by rw [hrz', e1])) hst (hMh _ hg1) dX StE.finW (by rw [hv]; decide) (by rw [hv]; decide)
theorem ret_19 (h : RetSt T k (n + 1) fr rz wk bu re sb sr u w e S M) (hv : T 0 (fr n) = 19) (hb : Kid T (fr n) (T 2 (fr n))) : Go T k (VV * (bu + re) + sW wk (n + 1)) S M := by
  have htp := h.1.top
  have hf := htp.2.2.2.2.2.2.2.2
  obtain ⟨o1, o2, o3, o4, o5, o6, o7, o8⟩ := h.1.of
  obtain ⟨hc, hd, hh, he, hme, hee, h3⟩ := id h
  obtain ⟨c1, c2, c3, c4, c5, c6, c7, c8, c9, c10, c11, c12, c13⟩ := id hc
  have n15 : ¬ T 0 (fr n) = 15 := by rw [hv]; decide
  rcases hf.2.2.2.2.2.1 with ⟨s1, s2, s3⟩ | ⟨s1, s2, s3, s4⟩ | ⟨s1, s2, -, s4⟩
  · exact ret_19a h hv hb s1 s2 s3
  · have hst : rStep S = rEndLast S := by rw [hc.step hd, rGoOn, o1, hv, if_neg (by decide), if_neg (by decide), if_neg (by decide), if_neg (by decide), if_pos rfl, fGet_e hd (by omega), s1, if_neg (by decide)]
    rw [rEndLast, fGet_e hd (by omega), s1, if_neg (by decide), he] at hst
    have hkept : kept S M n := by
      rcases s4 with q | q | ⟨-, q⟩
      · rw [hv] at q; exact absurd q (by decide)
      · rw [hv] at q; exact absurd q (by decide)
      · exact q
    obtain ⟨k1, k2, k3, k4, k5⟩ := hkept
    have h38 : ¬ M 38 0 = nI n := by
      cases hrz : rz with
      | none =>
        rw [hrz] at c10
        rw [c10.2]
        exact fun q => nI_ne_m1 (x := n) (by omega) q.symm
      | some r =>
        rw [hrz] at c10 s3
        have := c12 r hrz
        rw [c10.2, nI_eq (by omega) (by omega)]
        exact fun q => s3 (by rw [q])
    have hMh : ∀ M1, gLastD M n = M1 → MS M M1 := fun M1 e1 => MS.tel h.nr fun d Q hQ => sp_X10_tell_19_2 hh (by omega) hf.2.1 htp.2.1 (o5.trans hv) (by rw [s2]; decide) (by rw [e1]; exact hQ)
    rw [cN_succ, if_neg n15, Nat.add_zero] at c9 c13
    have hrl : ∀ r, rz = some r → r < n := fun r hr => by
      have := c12 r hr
      have : r ≠ n := fun e1 => s3 (by rw [hr, e1])
      omega
    by_cases z : e = 0
    · have hg : gLastD M n = gComes (sw (sw M 27 0 (M 1900 n)) 28 0 (M 2000 n)) n (M 1800 n) := by rw [gLastD, if_neg h38, hme, if_pos z]
      have e3 : rLastE3 S = sw (sw (sw S 8 0 (S 1400 n)) 9 0 (S 1500 n)) 10 0 (S 1600 n) := by
        rw [rLastE3, rLastE2, rLastE1, fGet_e hd (by omega), fGet_e (n := n) (by rw [sw_ne (by decide)]; exact hd) (by omega), fGet_e (n := n) (by rw [sw_ne (by decide), sw_ne (by decide)]; exact hd) (by omega)]
        simp only [sw_ne, ne_eq, Nat.reduceEqDiff, not_false_eq_true]
      rw [if_pos z, e3, fClose_e (n := n) (by rw [sw_ne (by decide), sw_ne (by decide), sw_ne (by decide)]; exact hd) (by omega)] at hst
      have dS : Df [1105, 10, 9, 8] S (sw (sw (sw (sw S 8 0 (S 1400 n)) 9 0 (S 1500 n)) 10 0 (S 1600 n)) 1105 0 (nI n)) := (((Df.rf.to 8 0 _).to 9 0 _).to 10 0 _).to 1105 0 _
      have dM : Df [37, 30, 28, 27] M (gComes (sw (sw M 27 0 (M 1900 n)) 28 0 (M 2000 n)) n (M 1800 n)) := (((Df.rf.to 27 0 _).to 28 0 _).to 30 0 _).to 37 0 _
      refine down_go (e' := S 1400 n) h hst (hMh _ hg) ⟨c1, c2.cg dS dM rfl rfl, c3.cg dS dM rfl rfl, c4.cg dS dM rfl rfl, c5, c6.cg dS dM rfl rfl, c7.cg dS dM rfl rfl, ⟨k2, k3, k5⟩, c9.cg dS dM rfl rfl, c10.cg dS dM rfl rfl, c11.pop.cg (StE.df dS rfl) (StE.df dM rfl), hrl, c13⟩ rfl rfl rfl k1.symm ?_ ?_
      · rcases k4 with q | q | q <;> simp [q]
      · intro q
        rcases k4 with q2 | q2 | q2 <;> rw [q2] at q <;> exact absurd q (by decide)
    · have hg : gLastD M n = gComes (sw (sw M 27 0 (M 27 0)) 28 0 (M 28 0)) n e := by rw [gLastD, if_neg h38, hme, if_neg z]
      rw [if_neg z, fClose_e hd (by omega)] at hst
      have dS : Df [1105] S (sw S 1105 0 (nI n)) := Df.rf.to 1105 0 _
      have dM : Df [37, 30, 28, 27] M (gComes (sw (sw M 27 0 (M 27 0)) 28 0 (M 28 0)) n e) := (((Df.rf.to 27 0 _).to 28 0 _).to 30 0 _).to 37 0 _
      exact down_go (e' := e) h hst (hMh _ hg) ⟨c1, c2.cg dS dM rfl rfl, c3.cg dS dM rfl rfl, c4.cg dS dM rfl rfl, c5, c6.cg dS dM rfl rfl, c7.cg dS dM rfl rfl, c8, c9.cg dS dM rfl rfl, c10.cg dS dM rfl rfl, c11.pop.cg (StE.df dS rfl) (StE.df dM rfl), hrl, c13⟩ rfl rfl (by rw [sw_ne (by decide)]; exact he) rfl hee h3
  · have hst : rStep S = rEndLast S := by rw [hc.step hd, rGoOn, o1, hv, if_neg (by decide), if_neg (by decide), if_neg (by decide), if_neg (by decide), if_pos rfl, fGet_e hd (by omega), s1, if_neg (by decide)]
    rw [rEndLast, fGet_e hd (by omega), s1, if_pos rfl, fClose_e (n := n) (by rw [sw_ne (by decide), sw_ne (by decide)]; exact hd) (by omega)] at hst
    subst s4
    have hg : gLastD M n = gComes (sw M 38 0 (-1)) n 3 := by rw [gLastD, if_pos c10.2]
    have hM : MS M (gComes (sw M 38 0 (-1)) n 3) := MS.tel h.nr fun d Q hQ => sp_X10_tell_19_2 hh (by omega) hf.2.1 htp.2.1 (o5.trans hv) (by rw [s2]; decide) (by rw [hg]; exact hQ)
    have dS : Df [1105, 8, 607] S (sw (sw (sw S 607 0 0) 8 0 3) 1105 0 (nI n)) := ((Df.rf.to 607 0 _).to 8 0 _).to 1105 0 _
    have dM : Df [37, 30, 38] M (gComes (sw M 38 0 (-1)) n 3) := ((Df.rf.to 38 0 _).to 30 0 _).to 37 0 _
    rw [cN_succ, if_neg n15, Nat.add_zero] at c9 c13
    exact down_go (e' := 3) (rz' := none) h hst hM ⟨c1, c2.cg dS dM rfl rfl, c3.cg dS dM rfl rfl, c4.cg dS dM rfl rfl, c5, c6.cg dS dM rfl rfl, c7.cg dS dM rfl rfl, c8.cg dS dM rfl rfl, c9.cg dS dM rfl rfl, ⟨rfl, rfl⟩, (c11.pop.none).cg (StE.df dS rfl) (StE.df dM rfl), (fun r hr => by cases hr), c13⟩ rfl rfl rfl rfl (by simp) (fun _ => rfl)
theorem ret_all (h : RetSt T k (n + 1) fr rz wk bu re sb sr u w e S M) : Go T k (VV * (bu + re) + sW wk (n + 1)) S M := by
  have htp := h.1.top
  have hC := htp.2.2.2.2.2.2.2.2.2.2.2.2.1
  have hsv := htp.2.2.2.2.2.2.1
  rcases hC with c | c | c | c | c | c | c
  · refine ret_12 h c ?_
    rcases hsv with q | q | q | q | q | q | q | q | q | q | q | q | q | q | q | q | q | q
    all_goals first | exact q.2.2 | (exfalso; rw [c] at q; revert q; decide) | (exfalso; have q1 := q.1; rw [c] at q1; revert q1; decide)
  · exact ret_13 h c
  · have : inN 8 (T 1 (fr n)) ∧ Kid T (fr n) (T 2 (fr n)) := by
      rcases hsv with q | q | q | q | q | q | q | q | q | q | q | q | q | q | q | q | q | q
      all_goals first | exact q.2 | (exfalso; rw [c] at q; revert q; decide) | (exfalso; have q1 := q.1; rw [c] at q1; revert q1; decide)
    exact ret_14 h c this.1 this.2
  · exact ret_15 h c
  · refine ret_18 h c ?_
    rcases hsv with q | q | q | q | q | q | q | q | q | q | q | q | q | q | q | q | q | q
    all_goals first | exact q.2.2 | (exfalso; rw [c] at q; revert q; decide) | (exfalso; have q1 := q.1; rw [c] at q1; revert q1; decide)
  · refine ret_19 h c ?_
    rcases hsv with q | q | q | q | q | q | q | q | q | q | q | q | q | q | q | q | q | q
    all_goals first | exact q.2.2 | (exfalso; rw [c] at q; revert q; decide) | (exfalso; have q1 := q.1; rw [c] at q1; revert q1; decide)
  · refine ret_20 h c ?_
    rcases hsv with q | q | q | q | q | q | q | q | q | q | q | q | q | q | q | q | q | q
    all_goals first | exact q.2.1 | (exfalso; rw [c] at q; revert q; decide) | (exfalso; have q1 := q.1; rw [c] at q1; revert q1; decide)
/-- BOTH RUNS COME TO THEIR ENDS, alike -/
theorem both_end : ∀ (P : Nat) {S M : Sx}, Nx T k P S M → ∃ (a b : Nat) (S1 M1 : Sx), CR a S S1 ∧ MR b M M1 ∧ a ≤ P ∧ ∃ (fr : Nat → Nat) (wk : Nat → Nat) (bu re sb sr u w : Nat) (e : Int32), RetSt T k 0 fr none wk bu re sb sr u w e S1 M1 := by
  intro P
  induction P using Nat.strongRecOn with
  | _ P ih =>
    intro S M h
    have step : Go T k P S M → ∃ (a b : Nat) (S1 M1 : Sx), CR a S S1 ∧ MR b M M1 ∧ a ≤ P ∧ ∃ (fr : Nat → Nat) (wk : Nat → Nat) (bu re sb sr u w : Nat) (e : Int32), RetSt T k 0 fr none wk bu re sb sr u w e S1 M1 := by
      rintro ⟨a, b, S1, M1, P1, h1, h2, h3, h4, h5⟩
      obtain ⟨a', b', S2, M2, g1, g2, g3, g4⟩ := ih P1 (by omega) h3
      exact ⟨a + a', b + b', S2, M2, h1.tr g1, h2.tr g2, by omega, g4⟩
    have mono : ∀ {Q : Nat}, Q ≤ P → Go T k Q S M → Go T k P S M := fun hq ⟨a, b, S1, M1, P1, h1, h2, h3, h4, h5⟩ => ⟨a, b, S1, M1, P1, h1, h2, h3, by omega, h5⟩
    rcases h with ⟨n, fr, rz, wk, bu, re, sb, sr, u, w, h, hp⟩ | ⟨n, fr, rz, wk, bu, re, sb, sr, u, w, e, h, hp⟩
    · exact step (mono hp (run_all h))
    · cases n with
      | zero =>
        obtain rfl : rz = none := by
          cases hrz : rz with
          | none => rfl
          | some r => have := h.1.2.2.2.2.2.2.2.2.2.2.2.1 r hrz; omega
        exact ⟨0, 0, S, M, rfl, rfl, Nat.zero_le _, fr, wk, bu, re, sb, sr, u, w, e, h⟩
      | succ n => exact step (mono hp (ret_all h))
end FIN
