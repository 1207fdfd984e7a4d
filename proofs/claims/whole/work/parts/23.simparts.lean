theorem sw_comm {S : Sx} {f g i j : Nat} {v x : Int32} (h : f ≠ g) : sw (sw S f i v) g j x = sw (sw S g j x) f i v := by
  funext a b
  unfold sw
  by_cases h1 : a = g
  · subst h1
    rw [if_pos rfl, if_neg (Ne.symm h), if_neg (Ne.symm h), if_pos rfl]
  · rw [if_neg h1]
    by_cases h2 : a = f
    · rw [if_pos h2, if_pos h2, if_neg h1]
    · rw [if_neg h2, if_neg h2, if_neg h1]
theorem sw_sw {S : Sx} {f i : Nat} {v x : Int32} : sw (sw S f i v) f i x = sw S f i x := by
  funext a b
  unfold sw
  by_cases h1 : a = f
  · by_cases h2 : b = i
    · simp [h1, h2]
    · simp [h1, h2]
  · simp [h1]
theorem w3_16 : w3 16 = 196605 := by decide
theorem imax_e {x y : Int32} : imax x y = if y ≤ x then x else y := by
  unfold imax
  by_cases h : x < y
  · rw [if_pos h, if_neg (Int32.not_le.mpr h)]
  · rw [if_neg h, if_pos (Int32.not_lt.mp h)]
section PARTS
variable {T S M : Sx} {k n : Nat} {fr : Nat → Nat} {rz : Option Nat} {wk : Nat → Nat} {bu re sb sr u w : Nat}
/-- a part of the topmost statement begins -/
theorem part_go {S0 M0 S1 M1 : Sx} {c wn : Nat} {bu' re' sb' sr' : Nat} (h : RunSt T k n fr rz wk bu re sb sr u w S M) (hS : rStep S = S1) (hM : MS M M1) (hS1 : S1 = cPush S0 n 1 (nI c)) (hM1 : M1 = gPush (sw M0 1700 n 1) (n + 1) (nI c))
    (c2 : cProg T S0 M0) (c3 : cMem u w S0 M0) (c4 : cMon bu' re' sb' sr' S0 M0) (c5 : cLim bu' re' sb' sr' u w) (c6 : cLock S0 M0) (c7 : cLog S0 M0) (c8 : cKind S0 M0) (c9 : cMeth (cN T fr (n + 1) + 1) S0 M0) (c10 : cBy rz S0 M0) (c11 : cStk T k fr rz wk n S0 M0) (c13 : cN T fr (n + 1) + 1 ≤ 8)
    (hs : S0 1200 n = nI (fr n)) (hs' : M0 1600 n = nI (fr n)) (hC : isC (T 0 (fr n))) (hck : c < k) (hch : n + 1 + ht T c ≤ 16 * (cN T fr (n + 1) + 1)) (hw1 : 1 ≤ wn) (hw2 : (T 0 (fr n) = 12 ∨ T 0 (fr n) = 18 ∨ T 0 (fr n) = 19) → ∀ h, ht T (fr n) = h + 1 → 2 + w3 h ≤ wn)
    (hp : VV * (bu' + re') + wn + w3 (ht T c) + 1 ≤ VV * (bu + re) + w3 (ht T (fr n))) : Go T k (VV * (bu + re) + sW wk n + w3 (ht T (fr n))) S M := by
  have htp := h.top
  obtain ⟨hc, hd0, hh0, -, -, -, -, -, hk, hhn⟩ := id h
  obtain ⟨c1, -, -, -, -, -, -, -, -, -, -, c12, -⟩ := id hc
  have hrz : rz ≠ some n := fun e => by have := c12 n e; omega
  have hsg : cSg T (fr n) rz S1 M1 n := by
    refine Or.inl ⟨?_, ?_, hrz⟩
    · rw [hS1]
      simp only [cPush]
      rw [sw_ne (by decide), sw_ix (by omega), sw_ne (by decide), sw_eq]
    · rw [hM1]
      simp only [gPush]
      rw [sw_ne (by decide), sw_ne (by decide), sw_ix (by omega), sw_ne (by decide), sw_eq]
  have hr := push_run (S := S0) (M := M0) (fr := fr) (wk := wk) (n := n) (rz := rz) (wn := wn) (g := 1) (ph := 1) (c := c) c1 c2 c3 c4 c5 c6 c7 c8 c9 c10 c11 (fun r hr => by have := c12 r hr; omega) c13 hs hs' hk hhn hC hck hch hw1 (fun _ => hw2) hS1 hM1 hsg
  refine Go.one hd0 (by omega) hS hh0 (by omega) hM (Or.inl ⟨_, _, _, _, _, _, _, _, _, _, hr, Nat.le_refl _⟩) ?_
  rw [upf_e, sW, sW_up wk (Nat.le_refl n), upf_e]
  omega
theorem RunSt.kid (h : RunSt T k n fr rz wk bu re sb sr u w S M) {x : Int32} (hx : Kid T (fr n) x) : ∃ c : Nat, x = nI c ∧ c < k ∧ n + 1 < 128 ∧ ∃ hp : Nat, ht T (fr n) = hp + 1 ∧ ht T c ≤ hp ∧ w3 (ht T c) ≤ w3 hp ∧ w3 (ht T (fr n)) = 3 + 2 * w3 hp := by
  have htp := h.top
  obtain ⟨⟨⟨-, -, p3, -⟩, -⟩, -, -, -, -, -, -, -, hk, -⟩ := id h
  obtain ⟨c, e1, e2, e3⟩ := hx
  have h1 := (p3 c (by omega)).1
  obtain ⟨hp, ehp⟩ : ∃ hp, ht T (fr n) = hp + 1 := ⟨ht T (fr n) - 1, by omega⟩
  exact ⟨c, e1, by omega, by omega, hp, ehp, by omega, w3_mono (by omega), by rw [ehp]; rfl⟩
theorem run_two (h : RunSt T k n fr rz wk bu re sb sr u w S M) (hv : T 0 (fr n) = 12 ∨ T 0 (fr n) = 18 ∨ T 0 (fr n) = 19) (ha : Kid T (fr n) (T 1 (fr n))) : Go T k (VV * (bu + re) + sW wk n + w3 (ht T (fr n))) S M := by
  obtain ⟨c, ec, hck, hnb, hp, ehp, hh1, hh2, hh3⟩ := h.kid ha
  obtain ⟨o1, o2, o3, o4, o5, o6, o7, o8⟩ := h.of
  have htp := h.top
  obtain ⟨hc, hd0, hh, hs, hs', -, -, h37, -, hhn⟩ := id h
  obtain ⟨c1, c2, c3, c4, c5, c6, c7, c8, c9, c10, c11, c12, c13⟩ := id hc
  have n15 : ¬ T 0 (fr n) = 15 := by rcases hv with e | e | e <;> rw [e] <;> decide
  have eN : cN T fr (n + 1) = cN T fr n := by rw [cN_succ, if_neg n15, Nat.add_zero]
  have hS : rStep S = cPush S n 1 (nI c) := by
    rw [h.step, rBegin, o1, o2, ec]
    rcases hv with e | e | e
    · rw [e, if_pos rfl, rDoPart_e hd0 hnb]
    · rw [e, if_neg (by decide), if_neg (by decide), if_neg (by decide), if_neg (by decide), if_pos rfl, rDoPart_e hd0 hnb]
    · rw [e, if_neg (by decide), if_neg (by decide), if_neg (by decide), if_neg (by decide), if_neg (by decide), if_pos rfl, rDoPart_e hd0 hnb]
  have hM : MS M (gPush (sw M 1700 n 1) (n + 1) (nI c)) := MS.beg h37 fun d Q hQ => by
    rw [← ec, ← o6] at hQ
    rcases hv with e | e | e
    · exact sp_X10_begin_12 hh (by omega) hs' htp.2.1 (o5.trans e) hQ
    · exact sp_X10_begin_18 hh (by omega) hs' htp.2.1 (o5.trans e) hQ
    · exact sp_X10_begin_19 hh (by omega) hs' htp.2.1 (o5.trans e) hQ
  exact part_go (wn := 2 + w3 hp) h hS hM rfl rfl c2 c3 c4 c5 c6 c7 c8 (by rw [eN]; exact c9) c10 c11 (by rw [eN]; exact c13) hs hs' (by rcases hv with e | e | e <;> simp [isC, e]) hck (by rw [eN]; omega) (by omega) (fun _ h' e' => by rw [ehp] at e'; injection e' with e'; subst e'; exact Nat.le_refl _) (by omega)
theorem run_13 (h : RunSt T k n fr rz wk bu re sb sr u w S M) (hv : T 0 (fr n) = 13) (ha : inN 8 (T 1 (fr n))) (hb : Kid T (fr n) (T 2 (fr n))) (hc' : Kid T (fr n) (T 3 (fr n))) : Go T k (VV * (bu + re) + sW wk n + w3 (ht T (fr n))) S M := by
  obtain ⟨a, ea, hab⟩ := ha
  obtain ⟨o1, o2, o3, o4, o5, o6, o7, o8⟩ := h.of
  have htp := h.top
  obtain ⟨hc, hd0, hh, hs, hs', -, -, h37, -, hhn⟩ := id h
  obtain ⟨c1, c2, c3, c4, c5, c6, c7, c8, c9, c10, c11, c12, c13⟩ := id hc
  have eN : cN T fr (n + 1) = cN T fr n := by rw [cN_succ, if_neg (by rw [hv]; decide), Nat.add_zero]
  have hva : mRead S (nI a) = M 700 a := by rw [mRead_e hab]; exact c3.1 a hab
  have n3 : ¬ (T 0 (fr n) = 12 ∨ T 0 (fr n) = 18 ∨ T 0 (fr n) = 19) := by rw [hv]; decide
  by_cases z : M 700 a = 0
  · obtain ⟨c, ec, hck, hnb, hp, ehp, hh1, hh2, hh3⟩ := h.kid hc'
    have hS : rStep S = cPush S n 1 (nI c) := by
      rw [h.step, rBegin, o1, o2, o3, o4, ec, hv, ea, if_neg (by decide), if_pos rfl, hva, if_pos z, rDoPart_e hd0 hnb]
    have hM : MS M (gPush (sw M 1700 n 1) (n + 1) (nI c)) := MS.beg h37 fun d Q hQ => sp_X10_begin_13 hh (by omega) hs' htp.2.1 (o5.trans hv) (o6.trans ea) hab (by rw [if_pos z, o8, ec]; exact hQ)
    exact part_go (wn := 1) h hS hM rfl rfl c2 c3 c4 c5 c6 c7 c8 (by rw [eN]; exact c9) c10 c11 (by rw [eN]; exact c13) hs hs' (by simp [isC, hv]) hck (by rw [eN]; omega) (by omega) (fun e => absurd e n3) (by omega)
  · obtain ⟨c, ec, hck, hnb, hp, ehp, hh1, hh2, hh3⟩ := h.kid hb
    have hS : rStep S = cPush S n 1 (nI c) := by
      rw [h.step, rBegin, o1, o2, o3, o4, ec, hv, ea, if_neg (by decide), if_pos rfl, hva, if_neg z, rDoPart_e hd0 hnb]
    have hM : MS M (gPush (sw M 1700 n 1) (n + 1) (nI c)) := MS.beg h37 fun d Q hQ => sp_X10_begin_13 hh (by omega) hs' htp.2.1 (o5.trans hv) (o6.trans ea) hab (by rw [if_neg z, o7, ec]; exact hQ)
    exact part_go (wn := 1) h hS hM rfl rfl c2 c3 c4 c5 c6 c7 c8 (by rw [eN]; exact c9) c10 c11 (by rw [eN]; exact c13) hs hs' (by simp [isC, hv]) hck (by rw [eN]; omega) (by omega) (fun e => absurd e n3) (by omega)
theorem run_14 (h : RunSt T k n fr rz wk bu re sb sr u w S M) (hv : T 0 (fr n) = 14) (ha : inN 8 (T 1 (fr n))) (hb : Kid T (fr n) (T 2 (fr n))) : Go T k (VV * (bu + re) + sW wk n + w3 (ht T (fr n))) S M := by
  obtain ⟨a, ea, hab⟩ := ha
  obtain ⟨o1, o2, o3, o4, o5, o6, o7, o8⟩ := h.of
  have htp := h.top
  obtain ⟨hc, hd0, hh, hs, hs', -, -, h37, -, hhn⟩ := id h
  obtain ⟨c1, c2, c3, c4, c5, c6, c7, c8, c9, c10, c11, c12, c13⟩ := id hc
  have eN : cN T fr (n + 1) = cN T fr n := by rw [cN_succ, if_neg (by rw [hv]; decide), Nat.add_zero]
  have n3 : ¬ (T 0 (fr n) = 12 ∨ T 0 (fr n) = 18 ∨ T 0 (fr n) = 19) := by rw [hv]; decide
  have hst : rStep S = rLoopOrEnd (sw S 8 0 0) (nI a) (T 2 (fr n)) := by
    rw [h.step, rBegin, o1, o2, o3, hv, ea, if_neg (by decide), if_neg (by decide), if_pos rfl]
  rw [rLoopOrEnd, h.var hab] at hst
  by_cases z : M 700 a = 0
  · rw [if_pos z] at hst
    exact mem_out h hst (MS.beg h37 fun d Q hQ => sp_X10_begin_14 hh (by omega) hs' htp.2.1 (o5.trans hv) (o6.trans ea) hab (by rw [if_pos z]; exact hQ)) ((Df.rf.to 8 0 0).mono rfl) (Df.rf.mono rfl) rfl (c3.cg (Df.rf.to 8 0 0) Df.rf rfl rfl)
  · obtain ⟨c, ec, hck, hnb, hp, ehp, hh1, hh2, hh3⟩ := h.kid hb
    rw [if_neg z, ec, rDoPart_e (n := n) (by rw [sw_ne (by decide)]; exact hd0) hnb] at hst
    have hM : MS M (gPush (sw M 1700 n 1) (n + 1) (nI c)) := MS.beg h37 fun d Q hQ => sp_X10_begin_14 hh (by omega) hs' htp.2.1 (o5.trans hv) (o6.trans ea) hab (by rw [if_neg z, o7, ec]; exact hQ)
    have d0 : Df [8] S (sw S 8 0 0) := Df.rf.to 8 0 0
    have d1 : Df [] M M := Df.rf
    exact part_go (S0 := sw S 8 0 0) (M0 := M) (wn := 1) h hst hM rfl rfl (c2.cg d0 d1 rfl rfl) (c3.cg d0 d1 rfl rfl) (c4.cg d0 d1 rfl rfl) c5 (c6.cg d0 d1 rfl rfl) (c7.cg d0 d1 rfl rfl) (c8.cg d0 d1 rfl rfl) (by rw [eN]; exact c9.cg d0 d1 rfl rfl) (c10.cg d0 d1 rfl rfl) (c11.cg (StE.df d0 rfl) (StE.df d1 rfl)) (by rw [eN]; exact c13) hs hs' (by simp [isC, hv]) hck (by rw [eN]; omega) (by omega) (fun e => absurd e n3) (by omega)
theorem run_20 (h : RunSt T k n fr rz wk bu re sb sr u w S M) (hv : T 0 (fr n) = 20) (ha : inN 4 (T 1 (fr n))) (hb : Kid T (fr n) (T 2 (fr n))) : Go T k (VV * (bu + re) + sW wk n + w3 (ht T (fr n))) S M := by
  obtain ⟨a, ea, hab⟩ := ha
  obtain ⟨c, ec, hck, hnb, hp, ehp, hh1, hh2, hh3⟩ := h.kid hb
  obtain ⟨o1, o2, o3, o4, o5, o6, o7, o8⟩ := h.of
  have htp := h.top
  obtain ⟨hc, hd0, hh, hs, hs', -, -, h37, -, hhn⟩ := id h
  obtain ⟨c1, c2, c3, c4, c5, c6, c7, c8, c9, c10, c11, c12, c13⟩ := id hc
  have eN : cN T fr (n + 1) = cN T fr n := by rw [cN_succ, if_neg (by rw [hv]; decide), Nat.add_zero]
  have n3 : ¬ (T 0 (fr n) = 12 ∨ T 0 (fr n) = 18 ∨ T 0 (fr n) = 19) := by rw [hv]; decide
  have hl : lTake S (nI a) = sw (sw S 1000 a (S 1000 a + 1)) 901 0 (imax (S 901 0) (S 1000 a + 1)) := by
    rw [lTake, if_pos (show inb (nI a) 4 = true from inb_nI (b := 4) hab (by omega)), cl a]
  have hst : rStep S = cPush (lTake S (nI a)) n 1 (nI c) := by
    rw [h.step, rBegin, o1, o2, o3, hv, ea, ec, if_neg (by decide), if_neg (by decide), if_neg (by decide), if_neg (by decide), if_neg (by decide), if_neg (by decide), if_pos rfl, rDoPart_e (n := n) (by rw [df_lTake.at 1105 0 rfl]; exact hd0) hnb]
  have hM : MS M (gPush (sw (gLkM M a) 1700 n 1) (n + 1) (nI c)) := MS.beg h37 fun d Q hQ => sp_X10_begin_20 hh (by omega) hs' htp.2.1 (o5.trans hv) (o6.trans ea) hab (by rw [o7, ec]; exact hQ)
  have d0 := df_lTake (S := S) (k := nI a)
  have d1 := df_gLkM (S := M) (k := a)
  refine part_go (S0 := lTake S (nI a)) (M0 := gLkM M a) (wn := 1) h hst hM rfl rfl (c2.cg d0 d1 rfl rfl) (c3.cg d0 d1 rfl rfl) (c4.cg d0 d1 rfl rfl) c5 ⟨fun i hi => ?_, ?_⟩ (c7.cg d0 d1 rfl rfl) (c8.cg d0 d1 rfl rfl) (by rw [eN]; exact c9.cg d0 d1 rfl rfl) (c10.cg d0 d1 rfl rfl) (c11.cg (StE.df d0 rfl) (StE.df d1 rfl)) (by rw [eN]; exact c13) (by rw [d0.at 1200 n rfl]; exact hs) (by rw [d1.at 1600 n rfl]; exact hs') (by simp [isC, hv]) hck (by rw [eN]; omega) (by omega) (fun e => absurd e n3) (by omega)
  · rw [hl, gLkM]
    by_cases e : i = a
    · subst e
      simp only [sw_ne, sw_eq, ne_eq, Nat.reduceEqDiff, not_false_eq_true, c6.1 i hi]
    · simp only [sw_ne, sw_ix e, ne_eq, Nat.reduceEqDiff, not_false_eq_true, c6.1 i hi]
  · rw [hl, gLkM, sw_eq, sw_eq, imax_e, c6.1 a hab, c6.2]
theorem rRaise_0 {k x : Int32} : rRaise (sw S 8 0 0) k x = rRaise S k x := by rw [rRaise, rRaise, sw_sw]
theorem run_15 (h : RunSt T k n fr rz wk bu re sb sr u w S M) (hv : T 0 (fr n) = 15) (ha : inN 8 (T 1 (fr n))) : Go T k (VV * (bu + re) + sW wk n + w3 (ht T (fr n))) S M := by
  obtain ⟨a, ea, hab⟩ := ha
  obtain ⟨o1, o2, o3, o4, o5, o6, o7, o8⟩ := h.of
  have htp := h.top
  obtain ⟨hc, hd0, hh, hs, hs', -, hph, h37, hfk, hhn⟩ := id h
  obtain ⟨c1, c2, c3, c4, c5, c6, c7, c8, c9, c10, c11, c12, c13⟩ := id hc
  have hdr := h.dr
  have eN : cN T fr (n + 1) = cN T fr n + 1 := by rw [cN_succ, if_pos hv]
  have n3 : ¬ (T 0 (fr n) = 12 ∨ T 0 (fr n) = 18 ∨ T 0 (fr n) = 19) := by rw [hv]; decide
  have hst : rStep S = rCall S (nI a) := by
    rw [h.step, rBegin, o1, o2, hv, ea, if_neg (by decide), if_neg (by decide), if_neg (by decide), if_pos rfl]
  obtain ⟨b1, b2⟩ := c2.2.1 a hab
  rw [rCall, gBody_e hab, b1, c9.1] at hst
  have e8 : (8 : Int32) = nI 8 := by decide
  by_cases hm : cN T fr n + 1 < 8
  · rw [if_pos (by rw [e8]; exact (i_lt (by omega) (by omega)).mpr hm)] at hst
    have m8 : ¬ M 36 0 = 8 := by rw [c9.2.1, e8, nI_eq (by omega) (by omega)]; omega
    rcases c1.2.2.2 a hab with hbd | ⟨c, ec, hck⟩
    · rw [if_pos hbd, ← rRaise_0] at hst
      exact throw_out (kd := 1) (x := 0) h hst (MS.beg h37 fun d Q hQ => sp_X10_begin_15 hh (by omega) hs' htp.2.1 (o5.trans hv) hdr (o6.trans ea) hab (by rw [gCalls, if_neg m8, if_pos (b2.trans hbd)]; exact hQ))
    · have nb : ¬ T 5 a = -1 := by rw [ec]; exact nI_ne_m1 (by omega)
      rw [if_neg nb, ec] at hst
      have hbM : M 600 a = nI c := b2.trans ec
      by_cases hle : 2 ≤ hasN rz bu re
      · obtain ⟨p1, p2, bu', re', sb', sr', p3, p4, p5, p6, p7⟩ := hc.pay (m := 1) (p := 2) (mk := 1) (q := 2) (by decide) (by omega) (by decide) (by omega) hle
        have hht := (c1.2.2.1 c hck).2.1
        have hw16 := w3_mono (a := ht T c) (b := 16) hht
        rw [w3_16] at hw16
        have hvv : VV * (bu + re) = VV * (bu' + re') + VV * 2 := by rw [← Nat.mul_add]; congr 1; omega
        have hV : VV = 196610 := rfl
        obtain ⟨d1, d2, d3, d4, d5, d6, d7, d8, d9, d10, d11, d12, d13⟩ := id p3
        rw [if_pos p1] at hst
        have hMM : MS M (gPush (sw (gEntM (gPayS M 1 2)) 1700 n 1) (n + 1) (nI c)) := MS.beg h37 fun d Q hQ => sp_X10_begin_15 hh (by omega) hs' htp.2.1 (o5.trans hv) hdr (o6.trans ea) hab (by rw [gCalls, if_neg m8, if_neg (by rw [hbM]; exact nI_ne_m1 (by omega)), gEnter, if_pos p2, hbM]; exact hQ)
        have hPd : pPay S 1 2 1105 0 = nI (n + 1) := by rw [df_pPay.at 1105 0 rfl]; exact hd0
        have hPs : pPay S 1 2 1200 n = nI (fr n) := by rw [df_pPay.at 1200 n rfl]; exact hs
        have hGs : gPayS M 1 2 1600 n = nI (fr n) := by rw [(df_gPay p2).at 1600 n rfl]; exact hs'
        generalize pPay S 1 2 = P at *
        generalize gPayS M 1 2 = G at *
        have e6 : rEnter (fSetStage P 1) (nI c) = cPush (sw (sw P 6 0 (P 6 0 + 1)) 7 0 (imax (P 7 0) (P 6 0 + 1))) n 1 (nI c) := by
          rw [fSetStage_e hPd (by omega), rEnter, sw_ne (by decide), sw_ne (by decide), fOpen_e (n := n + 1) (by rw [sw_ne (by decide), sw_ne (by decide), sw_ne (by decide)]; exact hPd) (by omega), cPush, sw_comm (f := 7) (g := 1300) (by decide), sw_comm (f := 6) (g := 1300) (by decide)]
        rw [e6] at hst
        have d0 : Df [7, 6] P (sw (sw P 6 0 (P 6 0 + 1)) 7 0 (imax (P 7 0) (P 6 0 + 1))) := (Df.rf.to 6 0 _).to 7 0 _
        have dM := df_gEntM (P := G)
        refine part_go (S0 := sw (sw P 6 0 (P 6 0 + 1)) 7 0 (imax (P 7 0) (P 6 0 + 1))) (M0 := gEntM G) (wn := 1) h hst hMM rfl rfl (d2.cg d0 dM rfl rfl) (d3.cg d0 dM rfl rfl) (d4.cg d0 dM rfl rfl) d5 (d6.cg d0 dM rfl rfl) (d7.cg d0 dM rfl rfl) (d8.cg d0 dM rfl rfl) ⟨?_, ?_, ?_⟩ (d10.cg d0 dM rfl rfl) (d11.cg (StE.df d0 rfl) (StE.df dM rfl)) (by omega) hPs hGs (by simp [isC, hv]) hck (by omega) (by omega) (fun e => absurd e n3) (by omega)
        · rw [sw_ne (by decide), sw_eq, d9.1, nI_1, eN]
        · rw [gEntM, sw_ne (by decide), sw_eq, d9.2.1, nI_1, eN]
        · rw [gEntM, sw_eq, sw_eq, imax_e, d9.1, d9.2.1, d9.2.2]
      · obtain ⟨p1, p2, p3, p4, p5⟩ := hc.nopay (m := 1) (p := 2) (mk := 1) (q := 2) (by decide) (by omega) (by decide) (by omega) hle
        rw [p1, p3] at hst
        have hst : rStep S = rEnd S 3 := hst
        rw [rEnd, fClose_e (n := n) (by rw [sw_ne (by decide)]; exact hd0) (by omega)] at hst
        have dS : Df [8, 1105] S (sw (sw S 8 0 3) 1105 0 (nI n)) := ((Df.rf.to 8 0 3).to 1105 0 _).mono rfl
        have hgc : gCalls M n a = gPayS M 1 2 := by rw [gCalls, if_neg m8, if_neg (by rw [hbM]; exact nI_ne_m1 (by omega)), gEnter, p2]; rfl
        cases hrz : rz with
        | none =>
          have eg := p4 hrz
          have hlv : gLeave (sw M 37 0 3) n (fr n) = sw M 37 0 3 := by
            have z : ¬ sw M 37 0 3 1700 n = 1 := by rw [sw_ne (by decide), hph]; decide
            rw [gLeave, gLv1, if_neg z, ite_self, gLv2, if_neg z, ite_self]
          exact stop_out (M2 := gComes (sw M 37 0 3) n 3) h hrz hst (MS.beg h37 fun d Q hQ => sp_X10_begin_15 hh (by omega) hs' htp.2.1 (o5.trans hv) hdr (o6.trans ea) hab (by rw [hgc, eg]; exact hQ)) (MS.tel (by rw [sw_eq]; decide) fun d Q hQ => sp_X10_tell_15 (s := fr n) (by rw [sw_ne (by decide)]; exact hh) (by omega) (by rw [sw_ne (by decide)]; exact hs') htp.2.1 (by rw [sw_ne (by decide)]; exact o5.trans hv) (by rw [sw_eq, if_neg (by decide), hlv]; exact hQ)) dS (((Df.rf.to 37 0 3).tr df_gComes).mono rfl) rfl rfl rfl rfl
        | some r =>
          have eg := p5 r hrz
          exact stopR_out h hrz hst (MS.beg h37 fun d Q hQ => sp_X10_begin_15 hh (by omega) hs' htp.2.1 (o5.trans hv) hdr (o6.trans ea) hab (by rw [hgc, eg]; exact hQ)) dS rfl rfl
  · have hm8 : cN T fr n + 1 = 8 := by omega
    rw [hm8, if_neg (by decide), ← rRaise_0] at hst
    exact throw_out (kd := 6) (x := 0) h hst (MS.beg h37 fun d Q hQ => sp_X10_begin_15 hh (by omega) hs' htp.2.1 (o5.trans hv) hdr (o6.trans ea) hab (by rw [gCalls, if_pos (by rw [c9.2.1, hm8, e8])]; exact hQ))
theorem run_all (h : RunSt T k n fr rz wk bu re sb sr u w S M) : Go T k (VV * (bu + re) + sW wk n + w3 (ht T (fr n))) S M := by
  rcases h.top.2.2.2.2.1 with q | q | q | q | q | q | q | q | q | q | q | q | q | q | q | q | q | q
  · exact run_0 h q.1 q.2
  · exact run_calc h q.1 q.2.1 q.2.2.1 q.2.2.2
  · exact run_6 h q.1 q.2.1 q.2.2
  · exact run_7 h q.1 q.2.1 q.2.2.1 q.2.2.2
  · exact run_8 h q.1 q.2.1 q.2.2.1 q.2.2.2
  · exact run_9 h q.1 q.2.1 q.2.2
  · exact run_10 h q.1 q.2
  · exact run_11 h q.1 q.2.1 q.2.2
  · exact run_two h (Or.inl q.1) q.2.1
  · exact run_13 h q.1 q.2.1 q.2.2.1 q.2.2.2
  · exact run_14 h q.1 q.2.1 q.2.2
  · exact run_15 h q.1 q.2
  · exact run_16 h q.1 q.2
  · exact run_17 h q.1 q.2
  · exact run_two h (Or.inr (Or.inl q.1)) q.2.1
  · exact run_two h (Or.inr (Or.inr q.1)) q.2.1
  · exact run_20 h q.1 q.2.1 q.2.2
  · exact run_21 h q.1 q.2
end PARTS
