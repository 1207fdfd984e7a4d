section PAIR2
variable {X Y S M T L F : Sx} {sg so : List Nat} {k : Nat} {e : Int32}
theorem LatW.ge (h : LatW S sg so) : (∀ k, k < 24 → 2 ≤ sg.getD k 0) ∧ ∀ k, k < 24 → 2 ≤ so.getD k 0 := by
  rcases h with ⟨rfl, rfl, -⟩ | ⟨rfl, rfl, -⟩
  · exact ⟨sgA_ge, sgB_ge⟩
  · exact ⟨sgB_ge, sgA_ge⟩
theorem LatW.ags (h : LatW S sg so) {S' F : Sx} : Ag (plS sg (psS sg S' F)) F := by
  rcases h with ⟨rfl, rfl, -⟩ | ⟨rfl, rfl, -⟩
  · exact agA
  · exact agB
theorem LatW.agx (h : LatW S sg so) {S' F : Sx} : Ag (plS so (psS sg S' F)) (Mix (plS so S') F) := by
  rcases h with ⟨rfl, rfl, -⟩ | ⟨rfl, rfl, -⟩
  · exact agAB
  · exact agBA
theorem LatW.pslo (h : LatW S sg so) {S' F : Sx} {f i : Nat} (hf : f < 200) : psS sg S' F f i = S' f i := by
  rcases h with ⟨rfl, rfl, -⟩ | ⟨rfl, rfl, -⟩
  · exact psA_lo hf
  · exact psB_lo hf
theorem LatW.cg (h : LatW S sg so) {S' : Sx} (h2 : S' 2 0 = S 2 0) (h3 : S' 3 0 = S 3 0) : LatW S' sg so := by
  unfold LatW at h ⊢
  rw [h2, h3]
  exact h
theorem LatW.swp (h : LatW S sg so) {S' : Sx} (h2 : S' 2 0 = S 3 0) (h3 : S' 3 0 = S 2 0) : LatW S' so sg := by
  unfold LatW at h ⊢
  rw [h2, h3]
  rcases h with ⟨rfl, rfl, a, b⟩ | ⟨rfl, rfl, a, b⟩
  · exact Or.inr ⟨rfl, rfl, b, a⟩
  · exact Or.inl ⟨rfl, rfl, b, a⟩
theorem RelC.by {S' : Sx} (hl : LatW S' sg so) (h1 : Ag (plS sg S') F) (h2 : Ag (plS so S') Y) (w1 : wfR F) (w2 : wfR Y) (hp : ProgEq F M) (hv : PV (pT F) k) (ho : Obs F M) (hc : ∀ i, i < 4 → S' 100 i = M 1500 i) : RelC sg so k S' M := ⟨hl, h1.sy.wf w1, h2.sy.wf w2, h1.sy.prog hp, by rw [h1.pT]; exact hv, h1.sy.obs ho, hc⟩
/-- what two runs that ended alike show -/
theorem Fin.obs (h : Fin e S M) : Obs (rFin S) (gRunE M e) := by
  obtain ⟨bu, re, sb, sr, u, w, c1, c2, c3, c4, c5, c6, c7, c8, c9, c10, c11, c12⟩ := h
  have dS : Df [5] S (rFin S) := Df.rf.to 5 0 _
  have dM : Df [1500, 28, 27, 26] M (gRunE M e) := df_gRunE
  have f5 : rFin S 5 0 = e := by rw [rFin, sw_eq]; exact c8
  refine ⟨bu, re, sb, sr, u, w, c1.cg dS dM rfl rfl, c2.cg dS dM rfl rfl, c3, c4.cg dS dM rfl rfl, c5.cg dS dM rfl rfl, ?_, ?_, ?_, ?_⟩
  · rw [dS.at 7 0 rfl, dM.at 24 0 rfl]; exact c7
  · rw [f5]; rfl
  · show (if rFin S 5 0 = 2 then rFin S 9 0 else 0) = gRunK M e
    rw [f5, gRunK, dS.at 9 0 rfl, c6.1]
  · show (if rFin S 5 0 = 2 then rFin S 10 0 else 0) = gRunN M e
    rw [f5, gRunN, dS.at 10 0 rfl]
    by_cases q : e = 2
    · rw [if_pos q, if_pos q]
      by_cases q5 : M 27 0 = 5
      · rw [if_pos q5]; exact c6.2.1
      · rw [if_neg q5]
        rcases c6.2.2 with z | z
        · exact absurd (c6.1.symm.trans z) q5
        · exact z
    · rw [if_neg q, if_neg q]
theorem Fin.emp (h : Fin e S M) : fEmpty S = true ∧ M 30 0 ≤ 0 ∧ vp_in e 4 ∧ S 8 0 = e ∧ M 37 0 = e ∧ inb e 4 = true := by
  obtain ⟨bu, re, sb, sr, u, w, c1, c2, c3, c4, c5, c6, c7, c8, c9, c10, c11, c12⟩ := h
  have hi : inb e 4 = true := by rcases c10 with rfl | rfl | rfl | rfl <;> decide
  exact ⟨by rw [fEmpty, c11]; decide, by rw [c12]; decide, vin (m := 4) (by decide) hi, c8, c9, hi⟩
theorem Fin.cnt (he : inb e 4 = true) (h : ∀ i, i < 4 → X 100 i = M 1500 i) : ∀ i, i < 4 → xCnt X e 100 i = gRunE M e 1500 i := by
  intro i hi
  rw [xCnt, if_pos he, gRunE]
  have h4 : e.toNatClampNeg < 4 := inb_lt (by decide) he
  by_cases q : i = e.toNatClampNeg
  · subst q
    rw [sw_eq, sw_eq, h _ hi]
  · rw [sw_ix q, sw_ix q]
    exact h i hi
theorem isRun_iff (hp : ProgEq L M) (m b : Int32) : gIsRun M m b = true ↔ ¬ gBody L m = -1 ∧ inb b 161 = true := by
  unfold gIsRun gBody
  by_cases q : inb m 8 = true
  · have hm : m.toNatClampNeg < 8 := inb_lt (by decide) q
    rw [if_pos q, if_pos q, hp.2.1 _ hm]
    by_cases q1 : M 600 m.toNatClampNeg = -1
    · simp [q1]
    · rw [if_neg q1]
      have e0 : (0 : Int32).toInt = 0 := rfl
      have e1 : (160 : Int32).toInt = 160 := rfl
      have e2 : (161 : Int32).toInt = 161 := rfl
      by_cases z1 : b < 0
      · rw [if_pos z1, inb_neg z1]; simp
      · rw [if_neg z1]
        by_cases z2 : 160 < b
        · rw [if_pos z2, inb_ge (by rw [i32_le]; rw [i32_lt] at z2; omega)]; simp
        · rw [if_neg z2, inb_in z1 (by rw [i32_le]; rw [i32_lt] at z2; omega)]; simp [q1]
  · rw [if_neg q, if_neg q]; simp
theorem body_c (hv : PV (pT L) k) {m : Int32} (h : ¬ gBody L m = -1) : ∃ (m' c : Nat), m = nI m' ∧ m' < 8 ∧ L 2300 m' = nI c ∧ c < k ∧ gBody L m = nI c ∧ vp_in m 8 := by
  unfold gBody at h ⊢
  by_cases q : inb m 8 = true
  · rw [if_pos q] at h ⊢
    have hm : m.toNatClampNeg < 8 := inb_lt (by decide) q
    rcases hv.2.2.2 _ hm with z | ⟨c, z1, z2⟩
    · exact absurd z h
    · exact ⟨m.toNatClampNeg, c, inb_eq q, hm, z1, z2, z1, vin (m := 8) (by decide) q⟩
  · rw [if_neg q] at h
    exact absurd rfl h
theorem bud_c {b : Int32} (h : inb b 161 = true) : ∃ b' : Nat, b = nI b' ∧ b' ≤ 160 := by
  obtain ⟨v, h1, h2⟩ := inb_ex (n := 161) (by omega) h
  exact ⟨v, h1, by omega⟩
theorem CR.uniq {S X Y : Sx} {a b : Nat} (h1 : CR a S X) (h2 : CR b S Y) (e1 : fEmpty X = true) (e2 : fEmpty Y = true) : a = b ∧ X = Y := by
  obtain ⟨p1, p2⟩ := h1.it
  obtain ⟨q1, q2⟩ := h2.it
  have hab : a = b := by
    rcases Nat.lt_trichotomy a b with z | z | z
    · have := q2 a z
      rw [p1, e1] at this
      cases this
    · exact z
    · have := p2 b z
      rw [q1, e2] at this
      cases this
  subst hab
  exact ⟨rfl, p1.symm.trans q1⟩
theorem cx_run {d : Nat} {Q : Option Value → Sx → Prop} {m x b : Int32} (j : Nat) (hL : LatW S sg so) (hw : wfR (plS sg S)) (hm : ¬ gBody (plS sg S) m = -1) (hb : inb b 161 = true) (hj : j ≤ 1000000000) (h0 : ∀ i, i < j → fEmpty (rIt i (rStart (plS sg S) (gBody (plS sg S) m) x b)) = false) (h1 : fEmpty (rIt j (rStart (plS sg S) (gBody (plS sg S) m) x b)) = true) (hQ : wfR (rFin (rIt j (rStart (plS sg S) (gBody (plS sg S) m) x b))) → Q (some (.int (rIt j (rStart (plS sg S) (gBody (plS sg S) m) x b) 8 0))) (xCnt (psS sg S (rFin (rIt j (rStart (plS sg S) (gBody (plS sg S) m) x b)))) (rIt j (rStart (plS sg S) (gBody (plS sg S) m) x b) 8 0))) : CC (d + 12) kX9_run layX [.ref 0, .int m, .int x, .int b] S Q := by
  rcases hL with ⟨rfl, rfl, l1, l2⟩ | ⟨rfl, rfl, l1, l2⟩
  · exact sp_X9_run_A j l1 l2 hw hm hb hj h0 h1 hQ
  · exact sp_X9_run_B j l1 l2 hw hm hb hj h0 h1 hQ
theorem cx_runB {d : Nat} {Q : Option Value → Sx → Prop} {m x b : Int32} (hL : LatW S sg so) (hw : wfR (plS sg S)) (hm : gBody (plS sg S) m = -1 ∨ inb b 161 = false) (hQ : Q (some (.int (-2))) S) : CC (d + 12) kX9_run layX [.ref 0, .int m, .int x, .int b] S Q := by
  rcases hL with ⟨rfl, rfl, l1, l2⟩ | ⟨rfl, rfl, l1, l2⟩
  · exact sp_X9_runB_A l1 l2 hw hm hQ
  · exact sp_X9_runB_B l1 l2 hw hm hQ
/-- one run of both, out of programs that are alike -/
theorem run_both (hp : ProgEq L M) (hv : PV (pT L) k) {m x b : Int32} (hm : ¬ gBody L m = -1) (hb : inb b 161 = true) : ∃ (a j : Nat) (X M1 : Sx) (e : Int32), a ≤ 1000000000 ∧ CR a (rStart L (gBody L m) x b) X ∧ MR j (gStart M m x b) M1 ∧ Fin e X M1 ∧ cProg (pTM L M) X M1 := by
  obtain ⟨m', c, rfl, g2, g3, g4, g5, g6⟩ := body_c hv hm
  obtain ⟨b', rfl, hb'⟩ := bud_c hb
  obtain ⟨a, j, X, M1, e, r1, r2, r3, r4, r5⟩ := run_pair (x := x) hp.c hv.tm g2 (show pTM L M 5 m' = nI c from g3) g4 hb'
  rw [g5]
  exact ⟨a, j, X, M1, e, r1, r2, r3, r4, r5⟩
theorem prog_fin {T : Sx} (h : cProg T X M) (hv : PV T k) : ProgEq (rFin X) (gRunE M e) ∧ PV (pT (rFin X)) k := by
  have h1 := h.eq
  exact ⟨ProgEq.df (X := rFin X) h1 df_gRunE rfl, h.pv hv⟩
theorem pair_run (h : Rel S M) (m x b : Int32) : Pair kX9_run kX10_run [.int m, .int x, .int b] S M := by
  obtain ⟨sg, so, k, h⟩ := h
  by_cases hr : gIsRun M m b = true
  · obtain ⟨hm, hb⟩ := (isRun_iff h.prog m b).mp hr
    have hp0 : ProgEq (plS sg S) (sw M 0 0 0) := h.prog.df df0 rfl
    obtain ⟨a, j, X, M1, e, r1, r2, r3, r4, r5⟩ := run_both (x := x) hp0 h.pv hm hb
    obtain ⟨i1, i2⟩ := r2.it
    obtain ⟨f1, f2, f3, f4, f5, f6⟩ := r4.emp
    obtain ⟨m', c, g1, g2, g3, g4, g5, g6⟩ := body_c h.pv hm
    refine ⟨e, xCnt (psS sg S (rFin X)) e, wfR (rFin X), fun d Q hQ => ?_, fun hw d Q hQ => ?_⟩
    · refine cx_run a h.lat h.wf hm hb r1 i2 (by rw [i1]; exact f1) ?_
      rw [i1, f4]
      exact hQ
    · refine sp_X10_run hr g6 r3 f2 f5 f3 (hQ _ ⟨sg, so, k, ?_⟩)
      obtain ⟨p1, p2⟩ := prog_fin (e := e) r5 h.pv.tm
      refine RelC.by (h.lat.cg ?_ ?_) ((ag_cnt h.lat.ge.1).tr h.lat.ags) ((ag_cnt h.lat.ge.2).tr h.lat.agx) hw (Mix.wf h.wfo hw) p1 p2 r4.obs (Fin.cnt f6 (fun i hi => ?_))
      · rw [xc_lo (by omega), h.lat.pslo (by omega)]
      · rw [xc_lo (by omega), h.lat.pslo (by omega)]
      · rw [h.lat.pslo (by omega), h.cnt i hi]
        exact (r5.2.2.2.2.2.1 i).symm
  · have hb : gBody (plS sg S) m = -1 ∨ inb b 161 = false := by
      by_cases q : gBody (plS sg S) m = -1
      · exact Or.inl q
      · refine Or.inr ?_
        cases z : inb b 161 with
        | false => rfl
        | true => exact absurd ((isRun_iff h.prog m b).mpr ⟨q, z⟩) hr
    exact Pair.of (fun d Q hQ => cx_runB h.lat h.wf hb hQ) (fun d Q hQ => sp_X10_run_no (by simpa using hr) (hQ _ ⟨sg, so, k, h.m0 df0⟩))
/-! same -/
def xSw2 (S : Sx) : Sx := sw (sw S 2 0 (S 3 0)) 3 0 (S 2 0)
theorem cx_same {d : Nat} {Q : Option Value → Sx → Prop} {m x b o : Int32} {S1 F1 F2 : Sx} (j1 j2 : Nat) (hL : LatW S sg so) (hw : wfR (plS sg S)) (hwo : wfR (plS so S)) (hm : ¬ gBody (plS sg S) m = -1) (hb : inb b 161 = true) (ho : inb o 161 = true) (hS1 : S1 = xSw2 S) (hj1 : j1 ≤ 1000000000) (h01 : ∀ i, i < j1 → fEmpty (rIt i (rStart (plS sg S1) (gBody (plS sg S) m) x b)) = false) (h11 : fEmpty (rIt j1 (rStart (plS sg S1) (gBody (plS sg S) m) x b)) = true) (eF1 : F1 = rFin (rIt j1 (rStart (plS sg S1) (gBody (plS sg S) m) x b))) (hj2 : j2 ≤ 1000000000) (h02 : ∀ i, i < j2 → fEmpty (rIt i (rStart (plS so (xRun S1 F1 sg)) (gBody (plS sg S) m) x o)) = false) (h12 : fEmpty (rIt j2 (rStart (plS so (xRun S1 F1 sg)) (gBody (plS sg S) m) x o)) = true) (eF2 : F2 = rFin (rIt j2 (rStart (plS so (xRun S1 F1 sg)) (gBody (plS sg S) m) x o))) (hQ : wfR F1 → wfR F2 → ∀ bb : Bool, (bb = true ↔ RunEq (plS so (xRun (xRun S1 F1 sg) F2 so)) (plS sg (xRun (xRun S1 F1 sg) F2 so))) → Q (some (.int (bi bb))) (xRun (xRun S1 F1 sg) F2 so)) : CC (d + 12) kX9_same layX [.ref 0, .int m, .int x, .int b, .int o] S Q := by
  rcases hL with ⟨rfl, rfl, l1, l2⟩ | ⟨rfl, rfl, l1, l2⟩
  · have e1 : xSw2 S = xSwp S 26 9 := by rw [xSw2, l1, l2]; rfl
    rw [e1] at hS1
    subst hS1
    exact sp_X9_same_A j1 j2 l1 l2 hw hwo hm hb ho hj1 h01 h11 eF1 hj2 h02 h12 eF2 hQ
  · have e1 : xSw2 S = xSwp S 9 26 := by rw [xSw2, l1, l2]; rfl
    rw [e1] at hS1
    subst hS1
    exact sp_X9_same_B j1 j2 l1 l2 hw hwo hm hb ho hj1 h01 h11 eF1 hj2 h02 h12 eF2 hQ
theorem cx_sameB {d : Nat} {Q : Option Value → Sx → Prop} {m x b o : Int32} (hL : LatW S sg so) (hw : wfR (plS sg S)) (hm : gBody (plS sg S) m = -1 ∨ inb b 161 = false ∨ inb o 161 = false) (hQ : Q (some (.int (-2))) S) : CC (d + 12) kX9_same layX [.ref 0, .int m, .int x, .int b, .int o] S Q := by
  rcases hL with ⟨rfl, rfl, l1, l2⟩ | ⟨rfl, rfl, l1, l2⟩
  · exact sp_X9_sameB_A l1 l2 hw hm hQ
  · exact sp_X9_sameB_B l1 l2 hw hm hQ
/-- the two notions of sameness -/
theorem same_iff {F1 F2 M1 M2 : Sx} {e1 e2 : Int32} (h1 : Obs F1 M1) (h2 : Obs F2 M2) (w1 : M1 26 0 = e1) (w2 : M2 26 0 = e2) : SameM M1 M2 e1 e2 ↔ RunEq F2 F1 := by
  have hlen : ∀ {F M : Sx}, Obs F M → ∀ r, r < 4 → mLen F (nI r) = gSize M (nI r) := fun h r hr => by
    have := size_eq h (nI r)
    rw [if_pos (show inb (nI r) 4 = true from inb_nI (b := 4) hr (by omega))] at this
    exact this
  have hld : ∀ {F M : Sx}, Obs F M → ∀ r, r < 4 → ∀ i, i < (gSize M (nI r)).toNatClampNeg → gItV M (nI r) (nI i) = mLoad F (nI r) (nI i) := fun {F M} h r hr i hi => by
    refine (item_eq h (nI r) (nI i)).2 ?_
    have hL := hlen h r hr
    have hb : inb (nI r) 4 = true := inb_nI (b := 4) hr (by omega)
    rw [xItK, if_pos hb, hL]
    rcases gSz_len hr (obs_rowOk h) (by
      rcases obs_row h hr with z | ⟨x, len, at_, q1, q2, q3, q4, q5, q6, q7, -⟩
      · rw [lenN, ← hL, mLen_e hr, z.2]; decide
      · rw [lenN, ← hL, mLen_e hr, q5, cl len]; omega) with ⟨z1, z2⟩ | ⟨z1, z2⟩
    · rw [z1] at hi
      exact absurd hi (by simp [show (-1 : Int32).toNatClampNeg = 0 by decide])
    · have hi' : i < lenN M r := hi
      rw [z1, if_neg (nI_neM (by omega)), if_pos (inb_nI hi' (by omega))]
  have t0 : ∀ w, rTell F1 w = gTold M1 w := told_eq h1
  have t1 : ∀ w, rTell F2 w = gTold M2 w := told_eq h2
  obtain ⟨bu, re, sb, sr, u, w, c1, -⟩ := id h1
  obtain ⟨bu', re', sb', sr', u', w', d1, -⟩ := id h2
  constructor
  · rintro ⟨⟨⟨a1, a2, a3, a4⟩, a5⟩, a6⟩
    refine ⟨fun v hv => ?_, ?_, fun v hv => ?_, fun r hr => ?_⟩
    · rw [t0, t1]
      rcases (show v = 0 ∨ v = 1 ∨ v = 2 by omega) with rfl | rfl | rfl
      · show M2 26 0 = M1 26 0
        rw [w1, w2, a1]
      · exact a2.symm
      · exact a3.symm
    · rw [c1.2.1, d1.2.1, a4]
    · rw [c1.1 v hv, d1.1 v hv, a5 v hv]
    · obtain ⟨b1, b2⟩ := a6 r hr
      refine ⟨by rw [hlen h2 r hr, hlen h1 r hr, b1], fun i hi => ?_⟩
      rw [hlen h2 r hr] at hi
      rw [← hld h2 r hr i hi, ← hld h1 r hr i (by rw [b1]; exact hi)]
      exact (b2 i (by rw [lenN, b1]; exact hi)).symm
  · rintro ⟨a1, a2, a3, a4⟩
    have x0 := a1 0 (by omega)
    have x1 := a1 1 (by omega)
    have x2 := a1 2 (by omega)
    rw [t0, t1] at x0 x1 x2
    refine ⟨⟨⟨?_, x1.symm, x2.symm, ?_⟩, fun v hv => ?_⟩, fun r hr => ?_⟩
    · rw [← w1, ← w2]; exact x0.symm
    · rw [← c1.2.1, ← d1.2.1, a2]
    · rw [← c1.1 v hv, ← d1.1 v hv, a3 v hv]
    · obtain ⟨b1, b2⟩ := a4 r hr
      rw [hlen h2 r hr, hlen h1 r hr] at b1
      refine ⟨b1.symm, fun i hi => ?_⟩
      rw [hlen h2 r hr] at b2
      have hi2 : i < (gSize M2 (nI r)).toNatClampNeg := by rw [b1]; exact hi
      rw [hld h1 r hr i hi, hld h2 r hr i hi2]
      exact (b2 i hi2).symm
theorem RunEq.cg {X X' Y Y' : Sx} (h : RunEq X Y) (h1 : ∀ f, f < 1700 → ∀ i, X' f i = X f i) (h2 : ∀ f, f < 1700 → ∀ i, Y' f i = Y f i) : RunEq X' Y' := by
  have g : ∀ {Z Z' : Sx}, (∀ f, f < 1700 → ∀ i, Z' f i = Z f i) → (∀ w, rTell Z' w = rTell Z w) ∧ (∀ r, mLen Z' r = mLen Z r) ∧ (∀ r i, mLoad Z' r i = mLoad Z r i) := fun {Z Z'} h => by
    have hl : ∀ r, mLen Z' r = mLen Z r := fun r => by simp only [mLen, h 400 (by omega)]
    refine ⟨fun w => ?_, hl, fun r i => ?_⟩
    · simp only [rTell, lSum, h 5 (by omega), h 9 (by omega), h 10 (by omega), h 105 (by omega), h 605 (by omega), h 606 (by omega), h 7 (by omega), h 901 (by omega), h 1000 (by omega)]
    · simp only [mLoad, hl, h 500 (by omega), h 300 (by omega)]
  obtain ⟨x1, x2, x3⟩ := g h1
  obtain ⟨y1, y2, y3⟩ := g h2
  unfold RunEq MemEq RowEq at h ⊢
  simpa only [x1, x2, x3, y1, y2, y3, h1 105 (by omega), h2 105 (by omega), h1 200 (by omega), h2 200 (by omega)] using h
theorem Df.sy {D : List Nat} {S S' : Sx} (h : Df D S S') : Df D S' S := fun f hf i => (h f hf i).symm
theorem pair_same (h : Rel S M) (m x b o : Int32) : Pair kX9_same kX10_same [.int m, .int x, .int b, .int o] S M := by
  obtain ⟨sg, so, k, h⟩ := h
  by_cases hr : gIsRun M m b = true ∧ gIsRun M m o = true
  · obtain ⟨hm, hb⟩ := (isRun_iff h.prog m b).mp hr.1
    obtain ⟨-, ho⟩ := (isRun_iff h.prog m o).mp hr.2
    -- the first run
    have hS1 : xSw2 S = xSw2 S := rfl
    generalize hS1e : xSw2 S = S1 at hS1
    have a1 : Ag (plS sg S1) (plS sg S) := by rw [← hS1e]; exact (ag_sw h.lat.ge.1 (by omega)).tr (ag_sw h.lat.ge.1 (by omega))
    have a1o : Ag (plS so S1) (plS so S) := by rw [← hS1e]; exact (ag_sw h.lat.ge.2 (by omega)).tr (ag_sw h.lat.ge.2 (by omega))
    have hbd : gBody (plS sg S1) m = gBody (plS sg S) m := by unfold gBody; rw [a1 2300 (by omega)]
    have hm1 : ¬ gBody (plS sg S1) m = -1 := by rw [hbd]; exact hm
    have hp1 : ProgEq (plS sg S1) (sw M 0 0 0) := a1.sy.prog (h.prog.df df0 rfl)
    have hv1 : PV (pT (plS sg S1)) k := by rw [a1.pT]; exact h.pv
    obtain ⟨n1, j1, X1, M1, e1, r1, r2, r3, r4, r5⟩ := run_both (x := x) hp1 hv1 hm1 hb
    obtain ⟨i1, i2⟩ := r2.it
    obtain ⟨f1, f2, f3, f4, f5, f6⟩ := r4.emp
    obtain ⟨m', c, g1, g2, g3, g4, g5, g6⟩ := body_c h.pv hm
    obtain ⟨p1, p2⟩ := prog_fin (e := e1) r5 hv1.tm
    have o1 : Obs (rFin X1) (gRunE M1 e1) := r4.obs
    have f81 : rFin X1 8 0 = e1 := f4
    -- the second run
    have a2 : Ag (plS so (xRun S1 (rFin X1) sg)) (Mix (plS so S1) (rFin X1)) := (ag_cnt h.lat.ge.2).tr h.lat.agx
    have a2s : Ag (plS sg (xRun S1 (rFin X1) sg)) (rFin X1) := (ag_cnt h.lat.ge.1).tr h.lat.ags
    have hmx : pT (Mix (plS so S1) (rFin X1)) = pT (rFin X1) := rfl
    have hpM : ∀ {M' : Sx}, ProgEq (rFin X1) M' → ProgEq (plS so (xRun S1 (rFin X1) sg)) M' := fun hh => a2.sy.prog (show ProgEq (Mix (plS so S1) (rFin X1)) _ from hh)
    have hv2 : PV (pT (plS so (xRun S1 (rFin X1) sg))) k := by rw [a2.pT, hmx]; exact p2
    have hbd2 : gBody (plS so (xRun S1 (rFin X1) sg)) m = gBody (plS sg S) m := by
      unfold gBody
      by_cases q : inb m 8 = true
      · have hm8 : m.toNatClampNeg < 8 := inb_lt (by decide) q
        rw [if_pos q, if_pos q, a2 2300 (by omega), ← a1 2300 (by omega)]
        show X1 2300 _ = _
        rw [(r5.2.1 _ hm8).1]
        rfl
      · rw [if_neg q, if_neg q]
    have hm2 : ¬ gBody (plS so (xRun S1 (rFin X1) sg)) m = -1 := by rw [hbd2]; exact hm
    have hrun : ∀ Sm, Df [0, 2100, 2200] (gRunE M1 e1) Sm → ProgEq (plS so (xRun S1 (rFin X1) sg)) Sm := fun Sm hD => hpM (p1.df hD rfl)
    obtain ⟨n2, j2, X2, M2, e2, s1, s2, s3, s4, s5⟩ := run_both (x := x) (hrun _ (Df.rf.mono rfl)) hv2 hm2 ho
    obtain ⟨u1, u2⟩ := s2.it
    obtain ⟨v1, v2, v3, v4, v5, v6⟩ := s4.emp
    -- every second run of the reference ends as the class's does
    have hR2 : Run2 (fun Sm M' => Fin e2 X2 M' ∧ cProg (pTM (plS so (xRun S1 (rFin X1) sg)) Sm) X2 M') (gRunE M1 e1) m x o e2 := by
      intro Sm hD
      obtain ⟨n3, j3, X3, M3, e3, t1, t2, t3, t4, t5⟩ := run_both (x := x) (hrun Sm hD) hv2 hm2 ho
      obtain ⟨w1, w2, w3, w4, w5, w6⟩ := t4.emp
      obtain ⟨-, rfl⟩ := CR.uniq t2 s2 w1 v1
      obtain rfl : e3 = e2 := w4.symm.trans v4
      refine ⟨j3, M3, t3, w2, w5, fun i => ?_, fun i => ?_, ?_, t4, t5⟩
      · exact t5.2.2.2.2.2.2.2.1 i
      · exact t5.2.2.2.2.2.2.2.2 i
      · exact (obs_rowOk t4.obs).df (df_gRunE (M := M3) (e := e3)).sy rfl
    have hN : ∀ r, r < 4 → lenN (gRunE M1 e1) r ≤ 800 := fun r hr => by
      have hs := size_eq o1 (nI r)
      rw [if_pos (show inb (nI r) 4 = true from inb_nI (b := 4) hr (by omega)), mLen_e hr] at hs
      rcases obs_row o1 hr with z | ⟨x, len, at_, q1, q2, q3, q4, q5, q6, q7, -⟩
      · rw [lenN, ← hs, z.2]; decide
      · rw [lenN, ← hs, q5, cl len]; omega
    have hok1 : gRowOk M1 := (obs_rowOk o1).df (df_gRunE (M := M1) (e := e1)).sy rfl
    refine ⟨bi (@decide (RunEq (rFin X2) (rFin X1)) (Classical.propDecidable _)), xRun (xRun S1 (rFin X1) sg) (rFin X2) so, wfR (rFin X1) ∧ wfR (rFin X2), fun d Q hQ => ?_, fun hw d Q hQ => ?_⟩
    · refine cx_same (S1 := S1) (F1 := rFin X1) (F2 := rFin X2) n1 n2 h.lat h.wf h.wfo hm hb ho hS1e.symm r1 (by rw [← hbd]; exact i2) (by rw [← hbd, i1]; exact f1) (by rw [← hbd, i1]) s1 (by rw [← hbd2]; exact u2) (by rw [← hbd2, u1]; exact v1) (by rw [← hbd2, u1]) (fun hw1 hw2 bb hbb => ?_)
      have e : bb = @decide (RunEq (rFin X2) (rFin X1)) (Classical.propDecidable _) := by
        have b1 : Ag (plS so (xRun (xRun S1 (rFin X1) sg) (rFin X2) so)) (rFin X2) := by
          have hl2 : LatW S1 so sg := h.lat.swp (by rw [← hS1e]; rfl) (by rw [← hS1e]; rfl)
          exact (ag_cnt h.lat.ge.2).tr hl2.ags
        have b2 : Ag (plS sg (xRun (xRun S1 (rFin X1) sg) (rFin X2) so)) (Mix (plS sg (xRun S1 (rFin X1) sg)) (rFin X2)) := by
          have hl2 : LatW S1 so sg := h.lat.swp (by rw [← hS1e]; rfl) (by rw [← hS1e]; rfl)
          exact (ag_cnt h.lat.ge.1).tr hl2.agx
        have c1 : ∀ f, f < 1700 → ∀ i, plS so (xRun (xRun S1 (rFin X1) sg) (rFin X2) so) f i = rFin X2 f i := fun f hf i => b1 f (by omega) i
        have c2 : ∀ f, f < 1700 → ∀ i, plS sg (xRun (xRun S1 (rFin X1) sg) (rFin X2) so) f i = rFin X1 f i := fun f hf i => by
          rw [b2 f (by omega) i, Mix, if_pos hf]
          exact a2s f (by omega) i
        have hiff : RunEq (plS so (xRun (xRun S1 (rFin X1) sg) (rFin X2) so)) (plS sg (xRun (xRun S1 (rFin X1) sg) (rFin X2) so)) ↔ RunEq (rFin X2) (rFin X1) := ⟨fun z => z.cg (fun f hf i => (c1 f hf i).symm) (fun f hf i => (c2 f hf i).symm), fun z => z.cg c1 c2⟩
        exact @ite_bi _ (Classical.propDecidable _) bb (hbb.trans hiff)
      rw [e]
      exact hQ ⟨hw1, hw2⟩
    · refine sp_X10_same hr.1 hr.2 g6 r3 f2 f5 f3 v3 hok1 hN hR2 (fun Sm M' Sf bb hD hF hDf hbb => ?_)
      obtain ⟨t4, t5⟩ := hF
      have o2 : Obs (rFin X2) (gRunE M' e2) := t4.obs
      have e : bb = @decide (RunEq (rFin X2) (rFin X1)) (Classical.propDecidable _) := @ite_bi _ (Classical.propDecidable _) bb (hbb.trans (same_iff o1 o2 rfl rfl))
      rw [e]
      refine hQ _ ⟨so, sg, k, RelC.m0 ?_ hDf⟩
      have hl2 : LatW S1 so sg := h.lat.swp (by rw [← hS1e]; rfl) (by rw [← hS1e]; rfl)
      obtain ⟨q1, q2⟩ := prog_fin (e := e2) t5 hv2.tm
      have f82 : rFin X2 8 0 = e2 := v4
      refine RelC.by (hl2.cg ?_ ?_) ((ag_cnt h.lat.ge.2).tr hl2.ags) ((ag_cnt h.lat.ge.1).tr (hl2.agx.tr Ag.rf)) hw.2 (Mix.wf (a2s.sy.wf hw.1) hw.2) q1 q2 o2 ?_
      · rw [xRun, xc_lo (by omega), hl2.pslo (by omega), xRun, xc_lo (by omega), h.lat.pslo (by omega)]
      · rw [xRun, xc_lo (by omega), hl2.pslo (by omega), xRun, xc_lo (by omega), h.lat.pslo (by omega)]
      · rw [xRun, f82]
        refine Fin.cnt v6 (fun i hi => ?_)
        rw [hl2.pslo (by omega), xRun, f81, t5.2.2.2.2.2.1 i]
        show _ = Sm 1500 i
        rw [hD.at 1500 i rfl]
        refine Fin.cnt f6 (fun i hi => ?_) i hi
        rw [h.lat.pslo (by omega), ← hS1e]
        show S 100 i = _
        rw [h.cnt i hi]
        exact (r5.2.2.2.2.2.1 i).symm
  · have hb : gBody (plS sg S) m = -1 ∨ inb b 161 = false ∨ inb o 161 = false := by
      by_cases q : gBody (plS sg S) m = -1
      · exact Or.inl q
      · refine Or.inr ?_
        cases z : inb b 161 with
        | false => exact Or.inl rfl
        | true =>
          cases y : inb o 161 with
          | false => exact Or.inr rfl
          | true => exact absurd ⟨(isRun_iff h.prog m b).mpr ⟨q, z⟩, (isRun_iff h.prog m o).mpr ⟨q, y⟩⟩ hr
    refine Pair.of (fun d Q hQ => cx_sameB h.lat h.wf hb hQ) (fun d Q hQ => sp_X10_same_no ?_ (hQ _ ⟨sg, so, k, h.m0 df0⟩))
    cases z : gIsRun M m b with
    | false => exact Or.inl rfl
    | true =>
      cases y : gIsRun M m o with
      | false => exact Or.inr rfl
      | true => exact absurd ⟨z, y⟩ hr
end PAIR2
