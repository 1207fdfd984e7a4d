def upf (f : Nat → Nat) (i v : Nat) : Nat → Nat := fun j => if j = i then v else f j
theorem upf_e (f : Nat → Nat) (i v : Nat) : upf f i v i = v := by simp [upf]
theorem upf_n (f : Nat → Nat) {i v j : Nat} (h : j ≠ i) : upf f i v j = f j := by simp [upf, h]
theorem cN_up (T : Sx) (fr : Nat → Nat) {m c : Nat} : ∀ {i : Nat}, i ≤ m → cN T (upf fr m c) i = cN T fr i := by
  intro i
  induction i with
  | zero => intro _; rfl
  | succ i ih =>
    intro h
    rw [cN_succ, cN_succ, ih (by omega), upf_n fr (show i ≠ m by omega)]
theorem sW_up (wk : Nat → Nat) {m v : Nat} : ∀ {i : Nat}, i ≤ m → sW (upf wk m v) i = sW wk i := by
  intro i
  induction i with
  | zero => intro _; rfl
  | succ i ih =>
    intro h
    rw [sW, sW, ih (by omega), upf_n wk (show i ≠ m by omega)]
section COMP
variable {T S M : Sx} {k n : Nat} {fr : Nat → Nat} {rz : Option Nat} {wk : Nat → Nat} {bu re sb sr u w : Nat}
/-- a part begins: the statement of the frame n waits in its stage g -/
theorem push_run {S1 M1 : Sx} {c wn : Nat} {g ph : Int32} (c1 : PV T k) (c2 : cProg T S M) (c3 : cMem u w S M) (c4 : cMon bu re sb sr S M) (c5 : cLim bu re sb sr u w) (c6 : cLock S M) (c7 : cLog S M) (c8 : cKind S M) (c9 : cMeth (cN T fr (n + 1) + 1) S M) (c10 : cBy rz S M) (c11 : cStk T k fr rz wk n S M) (c12 : ∀ r, rz = some r → r < n + 1) (c13 : cN T fr (n + 1) + 1 ≤ 8)
    (hs : S 1200 n = nI (fr n)) (hs' : M 1600 n = nI (fr n)) (hk : fr n < k) (hh : n + ht T (fr n) ≤ 16 * (cN T fr n + 1)) (hC : isC (T 0 (fr n))) (hck : c < k) (hch : n + 1 + ht T c ≤ 16 * (cN T fr (n + 1) + 1)) (hw1 : 1 ≤ wn) (hw2 : g = 1 → (T 0 (fr n) = 12 ∨ T 0 (fr n) = 18 ∨ T 0 (fr n) = 19) → ∀ h, ht T (fr n) = h + 1 → 2 + w3 h ≤ wn)
    (hS1 : S1 = cPush S n g (nI c)) (hM1 : M1 = gPush (sw M 1700 n ph) (n + 1) (nI c)) (hsg : cSg T (fr n) rz S1 M1 n) :
    RunSt T k (n + 1) (upf fr (n + 1) c) rz (upf wk n wn) bu re sb sr u w S1 M1 := by
  have dS : Df [1105, 1300, 1200] S S1 := by rw [hS1]; exact df_cPush
  have dM : Df [37, 30, 1700, 1600] M M1 := by rw [hM1]; exact ((Df.rf.to 1700 n ph).tr df_gPush).mono rfl
  have eS : StE sFS n S S1 := by
    rw [hS1]
    exact ((((StE.rf.to 1300 n g (by omega)).to 1200 (n + 1) _ (by omega)).to 1300 (n + 1) 0 (by omega)).tn 1105 0 _ rfl)
  have eM : StE sFM n M M1 := by
    rw [hM1]
    exact (((((StE.rf.to 1700 n ph (by omega)).to 1600 (n + 1) _ (by omega)).to 1700 (n + 1) 0 (by omega)).tn 30 0 _ rfl).tn 37 0 _ rfl)
  have eN : cN T (upf fr (n + 1) c) (n + 1) = cN T fr (n + 1) := cN_up T fr (Nat.le_refl _)
  refine ⟨⟨c1, c2.cg dS dM rfl rfl, c3.cg dS dM rfl rfl, c4.cg dS dM rfl rfl, c5, c6.cg dS dM rfl rfl, c7.cg dS dM rfl rfl, c8.cg dS dM rfl rfl, by rw [eN]; exact c9.cg dS dM rfl rfl, c10.cg dS dM rfl rfl, fun i hi => ?_, c12, by rw [eN]; exact c13⟩, ?_, ?_, ?_, ?_, ?_, ?_, ?_, ?_, ?_⟩
  · have e1 : upf fr (n + 1) c i = fr i := upf_n fr (by omega)
    have e2 : cN T (upf fr (n + 1) c) i = cN T fr i := cN_up T fr (by omega)
    by_cases e : i = n
    · subst e
      refine ⟨?_, ?_, ?_, ?_, ?_, ?_, ?_, ?_⟩
      · rw [e1, hS1]
        simp only [cPush]
        rw [sw_ne (by decide), sw_ne (by decide), sw_ix (by omega), sw_ne (by decide)]
        exact hs
      · rw [e1, hM1]
        simp only [gPush]
        rw [sw_ne (by decide), sw_ne (by decide), sw_ne (by decide), sw_ix (by omega), sw_ne (by decide)]
        exact hs'
      · rw [e1]; exact hk
      · rw [e1, e2]; exact hh
      · rw [e1]; exact hC
      · rw [e1]; exact hsg
      · rw [upf_e]; exact hw1
      · rw [upf_e, e1]
        intro h3
        refine hw2 ?_
        rw [← h3, hS1]
        simp only [cPush]
        rw [sw_ne (by decide), sw_ix (by omega), sw_ne (by decide), sw_eq]
    · have hf := (c11 i (by omega)).cg eS eM (by omega)
      obtain ⟨f1, f2, f3, f4, f5, f6, f7, f8⟩ := hf
      exact ⟨by rw [e1]; exact f1, by rw [e1]; exact f2, by rw [e1]; exact f3, by rw [e1, e2]; exact f4, by rw [e1]; exact f5, by rw [e1]; exact f6, by rw [upf_n wk e]; exact f7, by rw [upf_n wk e, e1]; exact f8⟩
  · rw [hS1]; rfl
  · rw [hM1]; rfl
  · rw [upf_e, hS1]
    simp only [cPush]
    rw [sw_ne (by decide), sw_ne (by decide), sw_eq]
  · rw [upf_e, hM1]
    simp only [gPush]
    rw [sw_ne (by decide), sw_ne (by decide), sw_ne (by decide), sw_eq]
  · rw [hS1]
    simp only [cPush]
    rw [sw_ne (by decide), sw_eq]
  · rw [hM1]
    simp only [gPush]
    rw [sw_ne (by decide), sw_ne (by decide), sw_eq]
  · rw [hM1]; rfl
  · rw [upf_e]; exact hck
  · rw [upf_e, eN]; exact hch
theorem Core.fr0 {S1 M1 : Sx} (h : Core T k n fr rz wk bu re sb sr u w S M) (dS : Df [8, 1105] S S1) (dM : Df [30, 37] M M1) : Core T k n fr rz wk bu re sb sr u w S1 M1 := by
  obtain ⟨c1, c2, c3, c4, c5, c6, c7, c8, c9, c10, c11, c12, c13⟩ := h
  exact ⟨c1, c2.cg dS dM rfl rfl, c3.cg dS dM rfl rfl, c4.cg dS dM rfl rfl, c5, c6.cg dS dM rfl rfl, c7.cg dS dM rfl rfl, c8.cg dS dM rfl rfl, c9.cg dS dM rfl rfl, c10.cg dS dM rfl rfl, c11.cg (StE.df dS rfl) (StE.df dM rfl), c12, c13⟩
/-- a statement without parts is done, something paid -/
theorem ret_go {S1 M1 : Sx} {bu' re' sb' sr' u' w' : Nat} {e : Int32} (h : RunSt T k n fr rz wk bu re sb sr u w S M) (hS : rStep S = S1) (hM : MS M M1) (hc : Core T k n fr rz wk bu' re' sb' sr' u' w' S1 M1) (hd : S1 1105 0 = nI n) (hh : M1 30 0 = nI n) (he : S1 8 0 = e) (hme : M1 37 0 = e) (hee : e = 0 ∨ e = 1 ∨ e = 2) (hb : bu' + re' ≤ bu + re) : Go T k (VV * (bu + re) + sW wk n + w3 (ht T (fr n))) S M := by
  have ht := h.top
  have hp := w3_pos ht.2.2.1
  have hvv : VV * (bu' + re') ≤ VV * (bu + re) := Nat.mul_le_mul_left _ hb
  refine Go.one h.2.1 (by omega) hS h.2.2.1 (by omega) hM (Or.inr ⟨n, fr, rz, wk, bu', re', sb', sr', u', w', e, ⟨hc, hd, hh, he, hme, ?_, ?_⟩, Nat.le_refl _⟩) (by omega)
  · rcases hee with rfl | rfl | rfl <;> simp
  · rintro rfl
    rcases hee with h | h | h <;> exact absurd h (by decide)
theorem price_p {z : Nat} (hz : z < 2147483648) : mkPrice (nI z) = nI (1 + z / 4) := by
  rw [mkPrice, if_pos (nI_pos' (by omega))]
  have e4 : (4 : Int32) = nI 4 := by decide
  have e1 : (1 : Int32) = nI 1 := by decide
  rw [e4, pk_div (by omega) (by omega) (by omega), e1, nI_add]
theorem run_6 (h : RunSt T k n fr rz wk bu re sb sr u w S M) (hv : T 0 (fr n) = 6) (ha : inN 4 (T 1 (fr n))) (hb : inN 8 (T 2 (fr n))) : Go T k (VV * (bu + re) + sW wk n + w3 (ht T (fr n))) S M := by
  obtain ⟨a, ea, hab⟩ := ha
  obtain ⟨b, eb, hbb⟩ := hb
  obtain ⟨-, -, -, -, o5, o6, o7, o8⟩ := h.of
  have ht := h.top
  obtain ⟨hc, hd0, hh, -, hs, -, -, h37, -, -⟩ := id h
  have hl := h.leaf hv (by decide)
  rw [ea, eb] at hl
  have hl : rStep S = fClose (rMakeRow (sw S 8 0 0) (nI a) (mRead (sw S 8 0 0) (nI b))) := hl
  rw [h.var hbb, rMakeRow] at hl
  have hc0 : Core T k n fr rz wk bu re sb sr u w (sw S 8 0 0) M := hc.fr0 ((Df.rf.to 8 0 0).mono rfl) (Df.rf.mono rfl)
  have hdr := h.dr
  obtain ⟨q, hq, eq⟩ : ∃ q : Nat, q < 2000000000 ∧ mkPrice (M 700 b) = nI q := by
    by_cases h0 : 0 ≤ M 700 b
    · obtain ⟨z, hz, ez⟩ := nI_of (x := M 700 b) (Int32.not_lt.mpr h0)
      exact ⟨1 + z / 4, by omega, by rw [ez, price_p (by omega)]⟩
    · exact ⟨1, by omega, by rw [mkp_n h0]; decide⟩
  by_cases hle : q ≤ hasN rz bu re
  · obtain ⟨p1, p2, bu', re', sb', sr', p3, p4, p5, p6, p7⟩ := hc0.pay (m := 4) (mk := 4) (by decide) (by omega) eq hq hle
    rw [if_pos p1] at hl
    by_cases h0 : 0 ≤ M 700 b
    · obtain ⟨z, hz, ez⟩ := nI_of (x := M 700 b) (Int32.not_lt.mpr h0)
      have eqz : q = 1 + z / 4 := by
        rw [ez, price_p (by omega)] at eq
        exact ((nI_eq (by omega) (by omega)).mp eq).symm
      obtain ⟨d1, d2, d3, d4, d5, d6, d7, d8, d9, d10, d11, d12, d13⟩ := id p3
      obtain ⟨l1, l2, l3, l4⟩ := hc.2.2.2.2.1
      obtain ⟨m1, m2, m3, m4, m5, m6, m7, m8⟩ := id d3
      have m11 := hc.2.2.1.2.2.2.2.1
      have m14 := hc.2.2.1.2.2.2.1
      have huz : u + z ≤ 800 := by omega
      have hw3 : w < 200 := by omega
      have hin : inb (nI z) (800 - pPay (sw S 8 0 0) 4 (mkPrice (M 700 b)) 104 0 + 1) = true := by
        rw [m3, show (800 : Int32) = nI 800 by decide, pk_sub (by omega), nI_1]
        exact inb_nI (by omega) (by omega)
      rw [if_pos h0, ez] at hl
      rw [ez] at hin m3 m1 m2 m6 m7 m8 p3 p2 d2 d4 d6 d7 d8 d9 d10 d11 eq m4 m5
      have e6 : mMake (pPay (sw S 8 0 0) 4 (mkPrice (nI z))) (nI a) (nI z) = sw (sw (sw (pPay (sw S 8 0 0) 4 (mkPrice (nI z))) 300 a (nI u)) 400 a (nI z)) 104 0 (nI (u + z)) := by
        rw [mMake, if_pos (show inb (nI a) 4 = true from inb_nI (b := 4) hab (by omega)), if_pos hin, cl a, m3, nI_add]
      generalize hPe : pPay (sw S 8 0 0) 4 (mkPrice (nI z)) = P at *
      generalize hGe : gPayS M 4 (mkPrice (nI z)) = G at *
      have hPd : P 1105 0 = nI (n + 1) := by rw [← hPe, df_pPay.at 1105 0 rfl, sw_ne (by decide)]; exact hd0
      rw [e6, fClose_e (n := n) (by rw [sw_ne (by decide), sw_ne (by decide), sw_ne (by decide)]; exact hPd) (by omega)] at hl
      have dS : Df [1105, 104, 400, 300] P (sw (sw (sw (sw P 300 a (nI u)) 400 a (nI z)) 104 0 (nI (u + z))) 1105 0 (nI n)) := (((Df.rf.to 300 a _).to 400 a _).to 104 0 _).to 1105 0 _
      have dM := df_gMade (P := G) (n := n) (a := a) (w := w) (u := u) (z := z)
      refine ret_go (e := 0) (u' := u + z) (w' := w + 1) (M1 := gMade G n a w u z) h hl (MS.beg h37 fun d Q hQ => sp_X10_begin_6_ok hh (by omega) hs ht.2.1 (o5.trans hv) hdr (o6.trans ea) hab (o7.trans eb) hbb p2 ez m11 (by omega) m14 (by omega) (by rw [hGe]; exact hQ)) ⟨d1, d2.cg dS dM rfl rfl, ?_, d4.cg dS dM rfl rfl, ⟨by omega, by omega, ?_, ?_⟩, d6.cg dS dM rfl rfl, d7.cg dS dM rfl rfl, d8.cg dS dM rfl rfl, d9.cg dS dM rfl rfl, d10.cg dS dM rfl rfl, d11.cg (StE.df dS rfl) (StE.df dM rfl), d12, d13⟩ rfl rfl ?_ rfl (Or.inl rfl) (by omega)
      · refine ⟨fun i hi => ?_, ?_, rfl, rfl, rfl, fun r hr => ?_, fun i hi => ?_, fun i hi h8 => ?_⟩
        · rw [dS.at 200 i rfl, dM.at 700 i rfl]; exact m1 i hi
        · rw [dS.at 105 0 rfl, dM.at 23 0 rfl]; exact m2
        · by_cases e : r = a
          · subst e
            refine Or.inr ⟨w, z, u, ?_, by omega, ?_, ?_, ?_, ?_, Nat.le_refl _⟩
            · simp only [gMade, gComes, sw_ne, sw_eq, ne_eq, Nat.reduceEqDiff, not_false_eq_true]
            · simp only [gMade, gComes, sw_ne, zr_ne, sw_eq, ne_eq, Nat.reduceEqDiff, not_false_eq_true]
            · simp only [gMade, gComes, sw_ne, zr_ne, sw_eq, ne_eq, Nat.reduceEqDiff, not_false_eq_true]
            · simp only [sw_ne, sw_eq, ne_eq, Nat.reduceEqDiff, not_false_eq_true]
            · simp only [sw_ne, sw_eq, ne_eq, Nat.reduceEqDiff, not_false_eq_true]
          · rcases m6 r hr with ⟨x1, x2⟩ | ⟨x, len, at_, x1, x2, x3, x4, x5, x6, x7⟩
            · refine Or.inl ⟨?_, ?_⟩
              · simp only [gMade, gComes, sw_ne, zr_ne, sw_ix e, ne_eq, Nat.reduceEqDiff, not_false_eq_true]; exact x1
              · simp only [sw_ne, sw_ix e, ne_eq, Nat.reduceEqDiff, not_false_eq_true]; exact x2
            · have ex : x ≠ w := by omega
              refine Or.inr ⟨x, len, at_, ?_, by omega, ?_, ?_, ?_, ?_, by omega⟩
              · simp only [gMade, gComes, sw_ne, zr_ne, sw_ix e, ne_eq, Nat.reduceEqDiff, not_false_eq_true]; exact x1
              · simp only [gMade, gComes, sw_ne, zr_ne, sw_ix ex, ne_eq, Nat.reduceEqDiff, not_false_eq_true]; exact x3
              · simp only [gMade, gComes, sw_ne, zr_ne, sw_ix ex, ne_eq, Nat.reduceEqDiff, not_false_eq_true]; exact x4
              · simp only [sw_ne, sw_ix e, ne_eq, Nat.reduceEqDiff, not_false_eq_true]; exact x5
              · simp only [sw_ne, sw_ix e, ne_eq, Nat.reduceEqDiff, not_false_eq_true]; exact x6
        · simp only [gMade, gComes, sw_ne, ne_eq, Nat.reduceEqDiff, not_false_eq_true]
          by_cases e : i < u
          · rw [zr, if_neg (by omega), sw_ne (by decide), sw_ne (by decide)]; exact m7 i e
          · rw [zr, if_pos (by omega)]; exact m8 i (by omega) (by omega)
        · simp only [sw_ne, ne_eq, Nat.reduceEqDiff, not_false_eq_true]
          exact m8 i (by omega) h8
      · omega
      · omega
      · rw [dS.at 8 0 rfl, ← hPe, df_pPay.at 8 0 rfl]; rfl
    · rw [if_neg h0] at hl
      have eq1 : mkPrice (M 700 b) = 1 := mkp_n h0
      generalize hPe : pPay (sw S 8 0 0) 4 (mkPrice (M 700 b)) = P at *
      generalize hGe : gPayS M 4 (mkPrice (M 700 b)) = G at *
      have hPd : P 1105 0 = nI (n + 1) := by rw [← hPe, df_pPay.at 1105 0 rfl, sw_ne (by decide)]; exact hd0
      rw [fClose_e (n := n) (by rw [df_rRaise.at 1105 0 rfl]; exact hPd) (by omega)] at hl
      obtain ⟨d1, d2, d3, d4, d5, d6, d7, d8, d9, d10, d11, d12, d13⟩ := id p3
      have dS : Df [1105, 10, 9, 8] P (sw (rRaise P 3 0) 1105 0 (nI n)) := df_rRaise.to 1105 0 _
      have dM := df_gThrow (S := G) (n := n) (k := 3) (x := 0)
      exact ret_go (e := 2) (M1 := gThrow G n 3 0) h hl (MS.beg h37 fun d Q hQ => sp_X10_begin_6_neg hh (by omega) hs ht.2.1 (o5.trans hv) hdr (o6.trans ea) hab (o7.trans eb) hbb h0 p2 (by rw [hGe]; exact hQ)) ⟨d1, d2.cg dS dM rfl rfl, d3.cg dS dM rfl rfl, d4.cg dS dM rfl rfl, d5, d6.cg dS dM rfl rfl, d7.cg dS dM rfl rfl, ⟨rfl, rfl, Or.inr rfl⟩, d9.cg dS dM rfl rfl, d10.cg dS dM rfl rfl, d11.cg (StE.df dS rfl) (StE.df dM rfl), d12, d13⟩ rfl rfl rfl rfl (Or.inr (Or.inr rfl)) (by omega)
  · obtain ⟨p1, p2, p3, p4, p5⟩ := hc0.nopay (m := 4) (mk := 4) (by decide) (by omega) eq hq hle
    rw [p1, p3] at hl
    have hl : rStep S = fClose (sw (sw S 8 0 0) 8 0 3) := hl
    rw [fClose_e (n := n) (by rw [sw_ne (by decide), sw_ne (by decide)]; exact hd0) (by omega)] at hl
    have dS : Df [8, 1105] S (sw (sw (sw S 8 0 0) 8 0 3) 1105 0 (nI n)) := (((Df.rf.to 8 0 0).to 8 0 3).to 1105 0 _).mono rfl
    cases hrz : rz with
    | none =>
      have eg := p4 hrz
      refine stop_out (M2 := gPop (sw M 37 0 3) n) h hrz hl (MS.beg h37 fun d Q hQ => sp_X10_begin_6_no hh (by omega) hs ht.2.1 (o5.trans hv) hdr (o6.trans ea) hab (o7.trans eb) hbb p2 (by rw [eg]; exact hQ)) (MS.tel (by rw [sw_eq]; decide) fun d Q hQ => sp_X10_tell_6 (s := fr n) (by rw [sw_ne (by decide)]; exact hh) (by omega) (by rw [sw_ne (by decide)]; exact hs) ht.2.1 (by rw [sw_ne (by decide)]; exact o5.trans hv) hQ) dS (((Df.rf.to 37 0 3).tr df_gPop).mono rfl) rfl rfl rfl rfl
    | some r =>
      have eg := p5 r hrz
      exact stopR_out h hrz hl (MS.beg h37 fun d Q hQ => sp_X10_begin_6_no hh (by omega) hs ht.2.1 (o5.trans hv) hdr (o6.trans ea) hab (o7.trans eb) hbb p2 (by rw [eg]; exact hQ)) dS rfl rfl
end COMP
