section LASTS
variable {T S M : Sx} {k n : Nat} {fr : Nat → Nat} {rz : Option Nat} {wk : Nat → Nat} {bu re sb sr u w : Nat} {e : Int32}
theorem ret_14 (h : RetSt T k (n + 1) fr rz wk bu re sb sr u w e S M) (hv : T 0 (fr n) = 14) (ha : inN 8 (T 1 (fr n))) (hb : Kid T (fr n) (T 2 (fr n))) : Go T k (VV * (bu + re) + sW wk (n + 1)) S M := by
  obtain ⟨a, ea, hab⟩ := ha
  have htp := h.1.top
  have hf := htp.2.2.2.2.2.2.2.2
  obtain ⟨o1, o2, o3, o4, o5, o6, o7, o8⟩ := h.1.of
  obtain ⟨hc, hd, hh, he, hme, hee, h3⟩ := id h
  obtain ⟨hsg, hph, hrz⟩ := hf.2.2.2.2.2.1.ph (by rw [hv]; decide) (by rw [hv]; decide) (by rw [hv]; decide)
  have n15 : ¬ T 0 (fr n) = 15 := by rw [hv]; decide
  have hdr := hc.dr hh
  have hst : rStep S = rLoop S (nI (fr n)) := by rw [hc.step hd, rGoOn, o1, hv, if_neg (by decide), if_pos rfl]
  rw [rLoop, he] at hst
  by_cases z : e = 0
  · rw [if_pos z] at hst
    by_cases hle : 1 ≤ hasN rz bu re
    · obtain ⟨p1, p2, bu', re', sb', sr', p3, p4, p5, p6, p7⟩ := hc.pay (m := 0) (p := 1) (mk := 0) (q := 1) (by decide) (by omega) (by decide) (by omega) hle
      rw [if_pos p1] at hst
      have hvv : VV * (bu + re) = VV * (bu' + re') + VV * 1 := by rw [← Nat.mul_add]; congr 1; omega
      have hV : VV = 196610 := rfl
      obtain ⟨q1, q2, q3, q4, q5, q6, q7, q8⟩ := p3.of
      obtain ⟨d1, d2, d3, d4, d5, d6, d7, d8, d9, d10, d11, d12, d13⟩ := id p3
      rw [rLoopOrEnd, q2, q3, ea] at hst
      have hPd : pPay S 0 1 1105 0 = nI (n + 1) := by rw [df_pPay.at 1105 0 rfl]; exact hd
      have hP8 : pPay S 0 1 8 0 = 0 := by rw [df_pPay.at 8 0 rfl]; exact he.trans z
      have hPs : pPay S 0 1 1200 n = nI (fr n) := by rw [df_pPay.at 1200 n rfl]; exact hf.1
      have hG30 : sw (gPayS M 0 1) 37 0 (-1) 30 0 = nI (n + 1) := by rw [sw_ne (by decide), (df_gPay p2).at 30 0 rfl]; exact hh
      have hGs : sw (gPayS M 0 1) 37 0 (-1) 1600 n = nI (fr n) := by rw [sw_ne (by decide), (df_gPay p2).at 1600 n rfl]; exact hf.2.1
      have hM1 : MS M (sw (gPayS M 0 1) 37 0 (-1)) := MS.tel h.nr fun d Q hQ => sp_X10_tell_14 hh (by omega) hf.2.1 htp.2.1 (o5.trans hv) hdr (by rw [hme, if_pos z, p2, if_pos rfl]; exact hQ)
      generalize pPay S 0 1 = P at *
      generalize gPayS M 0 1 = G at *
      have hva : mRead P (nI a) = G 700 a := by rw [mRead_e hab]; exact d3.1 a hab
      rw [hva] at hst
      have e100 : sw G 37 0 (-1) 100 (fr n) = 14 := by rw [sw_ne (by decide), q5, hv]
      have e200 : sw G 37 0 (-1) 200 (fr n) = nI a := by rw [sw_ne (by decide), q6, ea]
      by_cases y : G 700 a = 0
      · rw [if_pos y, fClose_e hPd (by omega)] at hst
        have hM2 : MS (sw G 37 0 (-1)) (gComes (sw G 37 0 (-1)) n 0) := MS.beg sw_eq fun d Q hQ => sp_X10_begin_14 hG30 (by omega) hGs htp.2.1 e100 e200 hab (by rw [sw_ne (by decide), if_pos y]; exact hQ)
        have hcc : Core T k n fr rz wk bu' re' sb' sr' u w (sw P 1105 0 (nI n)) (gComes (sw G 37 0 (-1)) n 0) := p3.down hrz ((Df.rf.to 1105 0 _).mono rfl) (((Df.rf.to 37 0 _).tr df_gComes).mono rfl) n15
        exact Go.two hd (by omega) hst hh (by omega) hM1 hG30 (by omega) hM2 (Or.inr ⟨n, fr, rz, wk, bu', re', sb', sr', u, w, 0, ⟨hcc, rfl, rfl, by rw [sw_ne (by decide)]; exact hP8, rfl, Or.inl rfl, fun e1 => absurd e1 (by decide)⟩, Nat.le_refl _⟩) (by simp only [sW]; omega)
      · obtain ⟨c, ec, hck, hnb, hch, hc15, hp, ehp, hw⟩ := hc.kid hb
        have hw16 := w3_mono (a := ht T c) (b := 16) (by omega)
        rw [w3_16] at hw16
        rw [if_neg y, ec, rDoPart_e hPd hnb] at hst
        have hM2 : MS (sw G 37 0 (-1)) (gPush (sw (sw G 37 0 (-1)) 1700 n 1) (n + 1) (nI c)) := MS.beg sw_eq fun d Q hQ => sp_X10_begin_14 hG30 (by omega) hGs htp.2.1 e100 e200 hab (by rw [sw_ne (by decide), if_neg y, sw_ne (by decide), q7, ec]; exact hQ)
        have dM : Df [37] G (sw G 37 0 (-1)) := Df.rf.to 37 0 _
        have dS : Df [] P P := Df.rf
        refine next_go (S0 := P) (M0 := sw G 37 0 (-1)) h hst (MR.two hh (by omega) hM1 hG30 hM2) rfl rfl (Or.inl ⟨?_, ?_, hrz⟩) (d2.cg dS dM rfl rfl) (d3.cg dS dM rfl rfl) (d4.cg dS dM rfl rfl) d5 (d6.cg dS dM rfl rfl) (d7.cg dS dM rfl rfl) (d8.cg dS dM rfl rfl) (d9.cg dS dM rfl rfl) (d10.cg dS dM rfl rfl) (d11.pop.cg StE.rf (StE.df dM rfl)) d12 hPs hGs hck hch (fun _ => by rw [hv]; decide) n15 (by have := hf.2.2.2.2.2.2.1; omega)
        · simp only [cPush]
          rw [sw_ne (by decide), sw_ix (by omega), sw_ne (by decide), sw_eq]
        · simp only [gPush]
          rw [sw_ne (by decide), sw_ne (by decide), sw_ix (by omega), sw_ne (by decide), sw_eq]
    · obtain ⟨p1, p2, p3, p4, p5⟩ := hc.nopay (m := 0) (p := 1) (mk := 0) (q := 1) (by decide) (by omega) (by decide) (by omega) hle
      rw [p1, p3] at hst
      have hst : rStep S = rEnd S 3 := hst
      cases hrz' : rz with
      | none =>
        have eg := p4 hrz'
        have hM1 : MS M (sw M 37 0 3) := MS.tel h.nr fun d Q hQ => sp_X10_tell_14 hh (by omega) hf.2.1 htp.2.1 (o5.trans hv) hdr (by rw [hme, if_pos z, p2, eg]; exact hQ)
        have hM2 : MS (sw M 37 0 3) (gPop (sw M 37 0 3) n) := MS.tel (by rw [sw_eq]; decide) fun d Q hQ => sp_X10_tell_14 (s := fr n) (by rw [sw_ne (by decide)]; exact hh) (by omega) (by rw [sw_ne (by decide)]; exact hf.2.1) htp.2.1 (by rw [sw_ne (by decide)]; exact o5.trans hv) (hdr.sw rfl) (by rw [sw_eq, if_neg (by decide)]; exact hQ)
        rw [hrz'] at h
        exact stopB_go h rfl hst hM1 (by rw [sw_ne (by decide)]; exact hh) hM2 (((Df.rf.to 37 0 3).tr df_gPop).mono rfl) (StE.df ((Df.rf.to 37 0 3).tr df_gPop) rfl) rfl rfl n15
      | some r =>
        have eg := p5 r hrz'
        exact stopBR_go (X := M) h hrz' (fun e1 => hrz (by rw [hrz', e1])) hst (MS.tel h.nr fun d Q hQ => sp_X10_tell_14 hh (by omega) hf.2.1 htp.2.1 (o5.trans hv) hdr (by rw [hme, if_pos z, p2, eg]; exact hQ)) (Df.rf.mono rfl) StE.rf n15 (by rw [hv]; decide)
  · rw [if_neg z] at hst
    exact pop_go h hst (MS.tel h.nr fun d Q hQ => sp_X10_tell_14 hh (by omega) hf.2.1 htp.2.1 (o5.trans hv) hdr (by rw [hme, if_neg z]; exact hQ)) n15 hrz
theorem cLog.hl (h : cLog S M) : ¬ M 21 0 = 30 → vp_in (M 21 0) 30 := by
  obtain ⟨g, h1, -, h3, -⟩ := h
  intro hne
  rw [h3] at hne ⊢
  refine vp_in_nI ?_ (by omega)
  rcases Nat.lt_or_ge g 30 with q | q
  · exact q
  · exact absurd (show nI g = 30 by rw [show g = 30 by omega]; decide) hne
theorem cLog.note (h : cLog S M) (s : Int32) : cLog (pNote S s) (gNote M s) := by
  obtain ⟨g, h1, h2, h3, h4⟩ := h
  have e30 : (30 : Int32) = nI 30 := by decide
  by_cases q : g = 30
  · rw [pNote, if_pos (by rw [h2, q, e30]; exact Int32.le_refl _), gNote, if_pos (by rw [h3, q, e30])]
    exact ⟨g, h1, h2, h3, h4⟩
  · rw [pNote, if_neg (by rw [h2, e30]; exact nI_ge (by omega) (by omega)), gNote, if_neg (by rw [h3, e30, nI_eq (by omega) (by omega)]; exact q), h2, h3, cl g, nI_1]
    refine ⟨g + 1, by omega, rfl, rfl, fun i hi => ?_⟩
    by_cases z : i = g
    · subst z
      simp only [sw_ne, sw_eq, ne_eq, Nat.reduceEqDiff, not_false_eq_true]
    · simp only [sw_ne, sw_ix z, ne_eq, Nat.reduceEqDiff, not_false_eq_true]
      exact h4 i (by omega)
theorem cMem.wr {a : Nat} {v : Int32} (h : cMem u w S M) : cMem u w (sw S 200 a v) (sw M 700 a v) := by
  obtain ⟨m1, m2, m3, m4, m5, m6, m7, m8⟩ := h
  refine ⟨fun i hi => ?_, m2, m3, m4, m5, m6, m7, m8⟩
  by_cases z : i = a
  · subst z; rw [sw_eq, sw_eq]
  · rw [sw_ix z, sw_ix z]; exact m1 i hi
theorem ret_18 (h : RetSt T k (n + 1) fr rz wk bu re sb sr u w e S M) (hv : T 0 (fr n) = 18) (hc' : Kid T (fr n) (T 3 (fr n))) : Go T k (VV * (bu + re) + sW wk (n + 1)) S M := by
  have htp := h.1.top
  have hf := htp.2.2.2.2.2.2.2.2
  obtain ⟨o1, o2, o3, o4, o5, o6, o7, o8⟩ := h.1.of
  obtain ⟨hc, hd, hh, he, hme, hee, h3⟩ := id h
  have n15 : ¬ T 0 (fr n) = 15 := by rw [hv]; decide
  have hrz := hf.2.2.2.2.2.1.rn (by rw [hv]; decide)
  have hdr := hc.dr hh
  obtain ⟨c1, c2, c3, c4, c5, c6, c7, c8, c9, c10, c11, c12, c13⟩ := id hc
  have hst : rStep S = rTry S (nI (fr n)) := by rw [hc.step hd, rGoOn, o1, hv, if_neg (by decide), if_neg (by decide), if_neg (by decide), if_pos rfl]
  rw [rTry, he, fGet_e hd (by omega), o3] at hst
  have hMh : ∀ M1, gHan M n (fr n) = M1 → MS M M1 := fun M1 e1 => MS.tel h.nr fun d Q hQ => sp_X10_tell_18 hh (by omega) hf.2.1 htp.2.1 (o5.trans hv) hdr c7.hl (by rw [e1]; exact hQ)
  have hpop : rStep S = fClose S → gHan M n (fr n) = gPop M n → Go T k (VV * (bu + re) + sW wk (n + 1)) S M := fun a1 a2 => pop_go h a1 (hMh _ a2) n15 hrz
  have hph : (S 1300 n = 1 ∧ M 1700 n = 1) ∨ (¬ S 1300 n = 1 ∧ ¬ M 1700 n = 1) := by
    rcases hf.2.2.2.2.2.1 with ⟨q1, q2, -⟩ | ⟨q1, q2, -⟩ | ⟨q1, q2, -⟩
    · exact Or.inl ⟨q1, q2⟩
    · exact Or.inr ⟨by rw [q1]; decide, by rw [q2]; decide⟩
    · exact Or.inr ⟨by rw [q1]; decide, by rw [q2]; decide⟩
  rcases hph with ⟨s1, s2⟩ | ⟨s1, s2⟩
  case inr => 
    refine hpop ?_ (by rw [gHan, if_neg s2])
    rw [hst, if_neg s1, ite_self, ite_self]
  by_cases z : e = 2
  case neg =>
    exact hpop (by rw [hst, if_neg z]) (by rw [gHan, if_pos s2, hme, if_neg z])
  have ebit : (M 300 (fr n) >>> (M 27 0 &&& 31)) &&& 1 = (T 2 (fr n) >>> (S 9 0 &&& 31)) &&& 1 := by rw [o7, c8.1]
  by_cases y : (T 2 (fr n) >>> (S 9 0 &&& 31)) &&& 1 = 1
  case neg =>
    exact hpop (by rw [hst, if_pos z, if_neg y]) (by rw [gHan, if_pos s2, hme, if_pos z, ebit, if_neg y])
  rw [if_pos z, if_pos y, if_pos s1] at hst
  have hg : gHan M n (fr n) = gHanX M n (fr n) := by rw [gHan, if_pos s2, hme, if_pos z, ebit, if_pos y]
  by_cases hle : 10 ≤ hasN rz bu re
  · obtain ⟨p1, p2, bu', re', sb', sr', p3, p4, p5, p6, p7⟩ := hc.pay (m := 2) (p := 10) (mk := 2) (q := 10) (by decide) (by omega) (by decide) (by omega) hle
    obtain ⟨c, ec, hck, hnb, hch, hc15, hp, ehp, hw⟩ := hc.kid hc'
    have hvv : VV * (bu + re) = VV * (bu' + re') + VV * 10 := by rw [← Nat.mul_add]; congr 1; omega
    have hwk := hf.2.2.2.2.2.2.2 s1 (Or.inr (Or.inl hv)) hp ehp
    have hN9 : rTryN S (nI (fr n)) 9 0 = S 9 0 := by rw [rTryN, df_pNote.at 9 0 rfl, df_pPay.at 9 0 rfl]
    have hN10 : rTryN S (nI (fr n)) 10 0 = S 10 0 := by rw [rTryN, df_pNote.at 10 0 rfl, df_pPay.at 10 0 rfl]
    have e7 : (7 : Int32) = nI 7 := by decide
    have hM7 : rTryM S (nI (fr n)) = sw (pNote (pPay S 2 10) (nI (fr n))) 200 7 (if S 9 0 = 5 then 100 + S 10 0 else S 9 0) := by
      rw [rTryM, hN9, hN10, e7, mWrite_e (by omega), mWrite_e (by omega)]
      by_cases q : S 9 0 = 5
      · rw [if_pos q, if_pos q]; rfl
      · rw [if_neg q, if_neg q]; rfl
    have hgx : gHanX M n (fr n) = gSecond (gNote (sw (gPayS M 2 10) 700 7 (if S 9 0 = 5 then 100 + S 10 0 else S 9 0)) (nI (fr n))) n (nI c) := by
      rw [gHanX, p2, if_pos rfl, o8, ec, ← c8.1, ← c8.2.1]
      rfl
    rw [rTryX, if_pos p1, hM7] at hst
    obtain ⟨d1, d2, d3, d4, d5, d6, d7, d8, d9, d10, d11, d12, d13⟩ := id p3
    have hPd : pPay S 2 10 1105 0 = nI (n + 1) := by rw [df_pPay.at 1105 0 rfl]; exact hd
    have hPs : pPay S 2 10 1200 n = nI (fr n) := by rw [df_pPay.at 1200 n rfl]; exact hf.1
    have hGs : gPayS M 2 10 1600 n = nI (fr n) := by rw [(df_gPay p2).at 1600 n rfl]; exact hf.2.1
    have hk : pPay S 2 10 1706 0 = nI k := d2.2.2.1.trans d1.1
    have h21 : pPay S 2 10 2100 (fr n) = nI c := by rw [(d2.1 (fr n) htp.2.1).2.2.2.1]; exact ec
    generalize pPay S 2 10 = P at *
    generalize gPayS M 2 10 = G at *
    generalize (if S 9 0 = 5 then 100 + S 10 0 else S 9 0) = v7 at *
    have dS : Df [200, 602, 800] P (sw (pNote P (nI (fr n))) 200 7 v7) := (df_pNote (S := P)).to 200 7 v7
    have dM : Df [21, 1400, 700] G (gNote (sw G 700 7 v7) (nI (fr n))) := (Df.rf.to 700 7 v7).tr df_gNote
    rw [gOf_e (k := k) (by rw [dS.at 1706 0 rfl]; exact hk) htp.2.2.1 htp.2.2.2.1, dS.at 2100 (fr n) rfl, h21, rDoPart_e (n := n) (by rw [dS.at 1105 0 rfl]; exact hPd) hnb] at hst
    refine next_go (S0 := sw (pNote P (nI (fr n))) 200 7 v7) (M0 := gNote (sw G 700 7 v7) (nI (fr n))) (u' := u) (w' := w) (ph := 2) h hst (MR.one hh (by omega) (hMh _ (hg.trans hgx))) rfl rfl (Or.inr (Or.inl ⟨?_, ?_, hrz, Or.inr (Or.inl hv)⟩)) (d2.cg dS dM rfl rfl) ?_ (d4.cg dS dM rfl rfl) d5 (d6.cg dS dM rfl rfl) ?_ (d8.cg dS dM rfl rfl) (d9.cg dS dM rfl rfl) (d10.cg dS dM rfl rfl) (d11.pop.cg (StE.df dS rfl) (StE.df dM rfl)) d12 (by rw [dS.at 1200 n rfl]; exact hPs) (by rw [dM.at 1600 n rfl]; exact hGs) hck hch (fun e1 => absurd e1 (by decide)) n15 (by omega)
    · simp only [cPush]
      rw [sw_ne (by decide), sw_ix (by omega), sw_ne (by decide), sw_eq]
    · simp only [gSecond, gPush]
      rw [sw_ne (by decide), sw_ne (by decide), sw_ix (by omega), sw_ne (by decide), sw_eq]
    · have q1 : cMem u w (pNote P (nI (fr n))) (gNote G (nI (fr n))) := d3.cg df_pNote df_gNote rfl rfl
      have q2 := q1.wr (a := 7) (v := v7)
      refine q2.cg Df.rf (?_ : Df [21, 1400] _ _) rfl rfl
      have f1 : Df [700, 21, 1400] G (sw (gNote G (nI (fr n))) 700 7 v7) := (df_gNote (S := G)).to 700 7 v7
      intro f hf' i
      by_cases q : f = 700
      · subst q
        rw [df_gNote.at 700 i rfl]
        by_cases y2 : i = 7
        · subst y2; rw [sw_eq, sw_eq]
        · rw [sw_ix y2, sw_ix y2, df_gNote.at 700 i rfl]
      · rw [dM f (by simp at hf' ⊢; omega) i, f1 f (by simp at hf' ⊢; omega) i]
    · have q1 := (d7.cg (Df.rf (S := P)) (Df.rf.to 700 7 v7) rfl rfl).note (nI (fr n))
      exact q1.cg (Df.rf.to 200 7 v7) Df.rf rfl rfl
  · obtain ⟨p1, p2, p3, p4, p5⟩ := hc.nopay (m := 2) (p := 10) (mk := 2) (q := 10) (by decide) (by omega) (by decide) (by omega) hle
    rw [rTryX, p1, p3] at hst
    have hst : rStep S = rEnd S 3 := hst
    have hgx : gHanX M n (fr n) = gPayS M 2 10 := by rw [gHanX, p2]; rfl
    cases hrz' : rz with
    | none =>
      have eg := p4 hrz'
      have hM2 : MS (sw M 37 0 3) (gPop (sw M 37 0 3) n) := MS.tel (by rw [sw_eq]; decide) fun d Q hQ => sp_X10_tell_18 (s := fr n) (by rw [sw_ne (by decide)]; exact hh) (by omega) (by rw [sw_ne (by decide)]; exact hf.2.1) htp.2.1 (by rw [sw_ne (by decide)]; exact o5.trans hv) (hdr.sw rfl) (by rw [sw_ne (by decide)]; exact c7.hl) (by rw [gHan, sw_ne (by decide), if_pos s2, sw_eq, if_neg (by decide)]; exact hQ)
      rw [hrz'] at h
      exact stopB_go h rfl hst (hMh _ (hg.trans (hgx.trans eg))) (by rw [sw_ne (by decide)]; exact hh) hM2 (((Df.rf.to 37 0 3).tr df_gPop).mono rfl) (StE.df ((Df.rf.to 37 0 3).tr df_gPop) rfl) rfl rfl n15
    | some r =>
      have eg := p5 r hrz'
      exact stopBR_go (X := M) h hrz' (fun e1 => hrz (by rw [hrz', e1])) hst (hMh _ (hg.trans (hgx.trans eg))) (Df.rf.mono rfl) StE.rf n15 (by rw [hv]; decide)
end LASTS
