section SIMRUN
variable {T S M : Sx} {k : Nat}
/-- what is left of two runs that ended alike -/
def Fin (e : Int32) (S M : Sx) : Prop := ∃ bu re sb sr u w : Nat, cMem u w S M ∧ cMon bu re sb sr S M ∧ cLim bu re sb sr u w ∧ cLock S M ∧ cLog S M ∧ cKind S M ∧ S 7 0 = M 24 0 ∧ S 8 0 = e ∧ M 37 0 = e ∧ (e = 0 ∨ e = 1 ∨ e = 2 ∨ e = 3) ∧ S 1105 0 = nI 0 ∧ M 30 0 = nI 0
theorem RetSt.fin {fr : Nat → Nat} {rz : Option Nat} {wk : Nat → Nat} {bu re sb sr u w : Nat} {e : Int32} (h : RetSt T k 0 fr rz wk bu re sb sr u w e S M) : Fin e S M ∧ cProg T S M := by
  obtain ⟨⟨c1, c2, c3, c4, c5, c6, c7, c8, c9, c10, c11, c12, c13⟩, h1, h2, h3, h4, h5, -⟩ := h
  exact ⟨⟨bu, re, sb, sr, u, w, c3, c4, c5, c6, c7, c8, c9.2.2, h3, h4, h5, h1, h2⟩, c2⟩
theorem df_rClear {x b : Int32} : Df [10, 9, 8, 7, 6, 1105, 901, 1000, 607, 606, 605, 604, 603, 602, 700, 200, 105, 104, 500, 400] S (rClear S x b) := by
  have h1 : Df [105, 104, 200, 400, 500] S (mClear S) := fun f hf i => by
    simp at hf
    rw [mClear, sw_ne (by omega), sw_ne (by omega), fil_ne (by omega), fil_ne (by omega), fil_ne (by omega)]
  have h2 : Df [607, 606, 605, 604, 603, 602, 700] (mWrite (mClear S) 0 x) (pFill (mWrite (mClear S) 0 x) b) := fun f hf i => by
    simp at hf
    rw [pFill, sw_ne (by omega), sw_ne (by omega), sw_ne (by omega), sw_ne (by omega), sw_ne (by omega), sw_ne (by omega), fil_ne (by omega)]
  have h3 : Df [901, 1000] (pFill (mWrite (mClear S) 0 x) b) (lClear (pFill (mWrite (mClear S) 0 x) b)) := fun f hf i => by
    simp at hf
    rw [lClear, sw_ne (by omega), fil_ne (by omega)]
  exact (((((((((h1.tr df_mWrite).tr h2).tr h3).to 1105 0 0).to 6 0 0).to 7 0 0).to 8 0 0).to 9 0 0).to 10 0 0).mono rfl
/-- both runs begin alike -/
theorem start_pair {x : Int32} {b m c : Nat} (hp : cProg T S M) (hv : PV T k) (hm : m < 8) (hc : T 5 m = nI c) (hck : c < k) (hb : b ≤ 160) :
    (2 ≤ b → Nx T k (VV * 200 + w3 16) (rStart S (nI c) x (nI b)) (gStart M (nI m) x (nI b))) ∧
    (¬ 2 ≤ b → Fin 3 (rStart S (nI c) x (nI b)) (gStart M (nI m) x (nI b)) ∧ cProg T (rStart S (nI c) x (nI b)) (gStart M (nI m) x (nI b))) := by
  have dS := df_rClear (S := S) (x := x) (b := nI b)
  have dM : Df [37, 38, 36, 30, 28, 27, 25, 24, 23, 21, 19, 18, 17, 16, 14, 11, 700, 800, 900, 1300] M (sw (gReset M x (nI b)) 37 0 (-1)) := df_gReset.to 37 0 (-1)
  have p0 : cProg T (rClear S x (nI b)) (sw (gReset M x (nI b)) 37 0 (-1)) := hp.cg dS dM rfl rfl
  have hbody : M 600 (nI m).toNatClampNeg = nI c := by rw [cl m, (hp.2.1 m hm).2]; exact hc
  have e0 : (0 : Int32) = nI 0 := by decide
  have m1 : cMem 0 0 (rClear S x (nI b)) (sw (gReset M x (nI b)) 37 0 (-1)) := by
    refine ⟨fun i hi => ?_, rfl, e0, e0, e0, fun r hr => Or.inl ⟨?_, ?_⟩, fun i hi => by omega, fun i _ hi => ?_⟩
    · have a1 : rClear S x (nI b) 200 i = mWrite (mClear S) 0 x 200 i := rfl
      have a2 : sw (gReset M x (nI b)) 37 0 (-1) 700 i = sw (gRes0 M) 700 0 x 700 i := rfl
      rw [a1, a2, e0, mWrite_e (by omega)]
      by_cases z : i = 0
      · subst z; rw [sw_eq, sw_eq]
      · rw [sw_ix z, sw_ix z]
        have a3 : mClear S 200 i = fil S 200 8 0 200 i := rfl
        have a4 : gRes0 M 700 i = fil M 700 8 0 700 i := rfl
        rw [a3, a4]
        simp [fil, hi]
    · have a4 : sw (gReset M x (nI b)) 37 0 (-1) 800 r = fil (fil M 700 8 0) 800 4 (-1) 800 r := rfl
      rw [a4]
      simp [fil, hr]
    · have a1 : rClear S x (nI b) 400 r = mWrite (mClear S) 0 x 400 r := rfl
      rw [a1, df_mWrite.at 400 r rfl]
      have a2 : mClear S 400 r = fil (fil S 200 8 0) 400 4 (-1) 400 r := rfl
      rw [a2]
      simp [fil, hr]
    · have a1 : rClear S x (nI b) 500 i = mWrite (mClear S) 0 x 500 i := rfl
      rw [a1, df_mWrite.at 500 i rfl]
      have a2 : mClear S 500 i = fil (fil (fil S 200 8 0) 400 4 (-1)) 500 800 0 500 i := rfl
      rw [a2]
      simp [fil, hi]
  have m2 : cMon b 40 0 0 (rClear S x (nI b)) (sw (gReset M x (nI b)) 37 0 (-1)) := by
    have e40 : (40 : Int32) = nI 40 := by decide
    refine ⟨rfl, rfl, e40, e40, e0, e0, e0, e0, fun i hi => ?_⟩
    have a1 : rClear S x (nI b) 700 i = fil (mWrite (mClear S) 0 x) 700 5 0 700 i := rfl
    have a2 : sw (gReset M x (nI b)) 37 0 (-1) 1300 i = gRes0 M 1300 i := rfl
    rw [a1, a2, gRes0]
    simp [fil, hi]
  have m3 : cLock (rClear S x (nI b)) (sw (gReset M x (nI b)) 37 0 (-1)) := by
    refine ⟨fun i hi => ?_, rfl⟩
    have a1 : rClear S x (nI b) 1000 i = fil (pFill (mWrite (mClear S) 0 x) (nI b)) 1000 4 0 1000 i := rfl
    have a2 : sw (gReset M x (nI b)) 37 0 (-1) 900 i = fil (fil (fil M 700 8 0) 800 4 (-1)) 900 4 0 900 i := rfl
    rw [a1, a2]
    simp [fil, hi]
  have m4 : cLog (rClear S x (nI b)) (sw (gReset M x (nI b)) 37 0 (-1)) := ⟨0, by omega, e0, e0, fun i hi => by omega⟩
  have m5 : cKind (rClear S x (nI b)) (sw (gReset M x (nI b)) 37 0 (-1)) := ⟨rfl, rfl, Or.inr rfl⟩
  have m6 : cBy none (rClear S x (nI b)) (sw (gReset M x (nI b)) 37 0 (-1)) := ⟨rfl, rfl⟩
  have hd : rClear S x (nI b) 1105 0 = nI 0 := e0
  have hh : sw (gReset M x (nI b)) 37 0 (-1) 30 0 = nI 0 := e0
  have h6 : rClear S x (nI b) 6 0 = nI 0 := e0
  have h7 : rClear S x (nI b) 7 0 = nI 0 := e0
  have hpf := pay_facts m2 m6 (fun r hr => by cases hr) (by omega) (by omega) (m := 1) (p := 2) (mk := 1) (q := 2) (by decide) (by omega) (by decide) (by omega)
  have h24 : sw (gReset M x (nI b)) 37 0 (-1) 24 0 = nI 0 := e0
  have h8 : sw (gReset M x (nI b)) 37 0 (-1) 37 0 = -1 := sw_eq
  generalize hXe : rClear S x (nI b) = X at *
  generalize hYe : sw (gReset M x (nI b)) 37 0 (-1) = Y at *
  constructor
  · intro hle
    obtain ⟨p1, p2, bu', re', sb', sr', p3, p4, p5, p6, p7⟩ := hpf.1 hle
    rw [rStart, hXe, if_pos p1, gStart, hYe, if_pos p2, hbody]
    have dP := df_pPay (S := X) (m := 1) (p := 2)
    have dG := df_gPay (S := Y) (k := 1) p2
    have q6 : pPay X 1 2 6 0 = nI 0 := by rw [dP.at 6 0 rfl]; exact h6
    have q7 : pPay X 1 2 7 0 = nI 0 := by rw [dP.at 7 0 rfl]; exact h7
    have qd : pPay X 1 2 1105 0 = nI 0 := by rw [dP.at 1105 0 rfl]; exact hd
    have n1 := m1.cg dP dG rfl rfl
    have n2 := p0.cg dP dG rfl rfl
    have n3 := m3.cg dP dG rfl rfl
    have n4 := m4.cg dP dG rfl rfl
    have n5 := m5.cg dP dG rfl rfl
    have n6 := m6.cg dP dG rfl rfl
    generalize pPay X 1 2 = P at *
    generalize gPayS Y 1 2 = G at *
    have e1 : (1 : Int32) = nI 1 := by decide
    have eS : rEnter P (nI c) = sw (sw (sw (sw (sw P 6 0 (nI 1)) 7 0 (nI 1)) 1200 0 (nI c)) 1300 0 0) 1105 0 (nI 1) := by
      rw [rEnter, q6, q7, nI_1, show imax (nI 0) (nI (0 + 1)) = nI 1 by decide, fOpen_e (n := 0) (by rw [sw_ne (by decide), sw_ne (by decide)]; exact qd) (by omega)]
    rw [eS]
    have d1 : Df [1105, 1300, 1200, 7, 6] P (sw (sw (sw (sw (sw P 6 0 (nI 1)) 7 0 (nI 1)) 1200 0 (nI c)) 1300 0 0) 1105 0 (nI 1)) := ((((Df.rf.to 6 0 _).to 7 0 _).to 1200 0 _).to 1300 0 _).to 1105 0 _
    have d2 : Df [37, 30, 1700, 1600, 24, 36] G (gPush (sw (sw G 36 0 1) 24 0 1) 0 (nI c)) := ((Df.rf.to 36 0 1).to 24 0 1).tr df_gPush
    have hht := (hv.2.2.1 c hck).2.1
    refine Or.inl ⟨0, fun _ => c, none, fun _ => 1, bu', re', sb', sr', 0, 0, ⟨⟨hv, n2.cg d1 d2 rfl rfl, n1.cg d1 d2 rfl rfl, p3.cg d1 d2 rfl rfl, ⟨by omega, by omega, by omega, by omega⟩, n3.cg d1 d2 rfl rfl, n4.cg d1 d2 rfl rfl, n5.cg d1 d2 rfl rfl, ⟨rfl, e1, e1.symm⟩, n6.cg d1 d2 rfl rfl, fun i hi => by omega, (fun r hr => by cases hr), by simp [cN]⟩, rfl, rfl, rfl, rfl, rfl, rfl, rfl, hck, ?_⟩, ?_⟩
    · simp only [cN]
      omega
    · have hw16 := w3_mono (a := ht T c) (b := 16) hht
      have : VV * (bu' + re') ≤ VV * 200 := Nat.mul_le_mul_left _ (by omega)
      simp only [sW]
      omega
  · intro hle
    obtain ⟨p1, p2, p3, p4, p5⟩ := hpf.2 hle
    have hS1 : rStart S (nI c) x (nI b) = sw X 8 0 3 := by rw [rStart, hXe, p1, p3]; rfl
    have hM1 : gStart M (nI m) x (nI b) = sw Y 37 0 3 := by rw [gStart, hYe, p2, p4 rfl]; rfl
    rw [hS1, hM1]
    have d1 : Df [8] X (sw X 8 0 3) := Df.rf.to 8 0 3
    have d2 : Df [37] Y (sw Y 37 0 3) := Df.rf.to 37 0 3
    exact ⟨⟨b, 40, 0, 0, 0, 0, m1.cg d1 d2 rfl rfl, m2.cg d1 d2 rfl rfl, ⟨by omega, by omega, by omega, by omega⟩, m3.cg d1 d2 rfl rfl, m4.cg d1 d2 rfl rfl, m5.cg d1 d2 rfl rfl, by rw [d1.at 7 0 rfl, d2.at 24 0 rfl, h7, h24], sw_eq, sw_eq, by simp, by rw [d1.at 1105 0 rfl]; exact hd, by rw [d2.at 30 0 rfl]; exact hh⟩, p0.cg d1 d2 rfl rfl⟩
/-- A RUN OF BOTH -/
theorem run_pair {x : Int32} {b m c : Nat} (hp : cProg T S M) (hv : PV T k) (hm : m < 8) (hc : T 5 m = nI c) (hck : c < k) (hb : b ≤ 160) :
    ∃ (a j : Nat) (S' M' : Sx) (e : Int32), a ≤ 1000000000 ∧ CR a (rStart S (nI c) x (nI b)) S' ∧ MR j (gStart M (nI m) x (nI b)) M' ∧ Fin e S' M' ∧ cProg T S' M' := by
  obtain ⟨h1, h2⟩ := start_pair (x := x) hp hv hm hc hck hb
  by_cases hle : 2 ≤ b
  · obtain ⟨a, j, S', M', g1, g2, g3, fr, wk, bu, re, sb, sr, u, w, e, g4⟩ := both_end _ (h1 hle)
    have hV : VV * 200 + w3 16 = 39518605 := by decide
    obtain ⟨f1, f2⟩ := g4.fin
    exact ⟨a, j, S', M', e, by omega, g1, g2, f1, f2⟩
  · obtain ⟨f1, f2⟩ := h2 hle
    exact ⟨0, 0, _, _, 3, by omega, rfl, rfl, f1, f2⟩
theorem CR.it {S' : Sx} : ∀ {a : Nat} {S : Sx}, CR a S S' → rIt a S = S' ∧ ∀ i, i < a → fEmpty (rIt i S) = false := by
  intro a
  induction a with
  | zero => intro S h; exact ⟨h, fun i hi => by omega⟩
  | succ a ih =>
    intro S h
    obtain ⟨h1, h2⟩ := h
    obtain ⟨g1, g2⟩ := ih h2
    refine ⟨g1, fun i hi => ?_⟩
    cases i with
    | zero => exact h1
    | succ i => exact g2 i (by omega)
end SIMRUN
