/-! ===== what class and reference have in common between calls ===== -/
/-- the program, as the simulation has it -/
def pT (X : Sx) : Sx := fun f i => if f = 0 then X 1800 i else if f = 1 then X 1900 i else if f = 2 then X 2000 i else if f = 3 then X 2100 i else if f = 4 then X 2200 i else if f = 5 then X 2300 i else if f = 6 then X 1706 i else 0
def pTM (X M : Sx) : Sx := fun f i => if f = 7 then M 1500 i else if f = 8 then M 0 i else if f = 9 then M 2100 i else if f = 10 then M 2200 i else pT X f i
def ProgEq (X M : Sx) : Prop := (∀ s, s < 120 → X 1800 s = M 100 s ∧ X 1900 s = M 200 s ∧ X 2000 s = M 300 s ∧ X 2100 s = M 400 s ∧ X 2200 s = M 500 s) ∧ (∀ m, m < 8 → X 2300 m = M 600 m) ∧ X 1706 0 = M 1 0
def Obs (X M : Sx) : Prop := ∃ bu re sb sr u w : Nat, cMem u w X M ∧ cMon bu re sb sr X M ∧ cLim bu re sb sr u w ∧ cLock X M ∧ cLog X M ∧ X 7 0 = M 24 0 ∧ X 5 0 = M 26 0 ∧ rTell X 1 = M 27 0 ∧ rTell X 2 = M 28 0
def LatW (S : Sx) (sg so : List Nat) : Prop := (sg = sgA ∧ so = sgB ∧ S 2 0 = 9 ∧ S 3 0 = 26) ∨ (sg = sgB ∧ so = sgA ∧ S 2 0 = 26 ∧ S 3 0 = 9)
def RelC (sg so : List Nat) (k : Nat) (S M : Sx) : Prop := LatW S sg so ∧ wfR (plS sg S) ∧ wfR (plS so S) ∧ ProgEq (plS sg S) M ∧ PV (pT (plS sg S)) k ∧ Obs (plS sg S) M ∧ ∀ i, i < 4 → S 100 i = M 1500 i
section RELC
variable {sg so : List Nat} {k : Nat} {S M : Sx}
theorem RelC.lat (h : RelC sg so k S M) : LatW S sg so := h.1
theorem RelC.wf (h : RelC sg so k S M) : wfR (plS sg S) := h.2.1
theorem RelC.wfo (h : RelC sg so k S M) : wfR (plS so S) := h.2.2.1
theorem RelC.prog (h : RelC sg so k S M) : ProgEq (plS sg S) M := h.2.2.2.1
theorem RelC.pv (h : RelC sg so k S M) : PV (pT (plS sg S)) k := h.2.2.2.2.1
theorem RelC.obs (h : RelC sg so k S M) : Obs (plS sg S) M := h.2.2.2.2.2.1
theorem RelC.cnt (h : RelC sg so k S M) : ∀ i, i < 4 → S 100 i = M 1500 i := h.2.2.2.2.2.2
end RELC
def Rel (S M : Sx) : Prop := ∃ sg so k, RelC sg so k S M
theorem ProgEq.c {X M : Sx} (h : ProgEq X M) : cProg (pTM X M) X M := by
  obtain ⟨h1, h2, h3⟩ := h
  refine ⟨fun s hs => ?_, fun m hm => ?_, rfl, fun i hi => ?_, ?_, fun i => rfl, rfl, fun i => rfl, fun i => rfl⟩
  · obtain ⟨a1, a2, a3, a4, a5⟩ := h1 s hs
    exact ⟨rfl, rfl, rfl, rfl, a1.symm, a2.symm, a3.symm, a4.symm⟩
  · exact ⟨rfl, (h2 m hm).symm⟩
  · exact ⟨rfl, (h1 i hi).2.2.2.2.symm⟩
  · exact h3.symm
theorem cProg.eq {T X M : Sx} (h : cProg T X M) : ProgEq X M := by
  obtain ⟨h1, h2, h3, h4, h5, -⟩ := h
  refine ⟨fun s hs => ?_, fun m hm => (h2 m hm).1.trans (h2 m hm).2.symm, h3.trans h5.symm⟩
  obtain ⟨a1, a2, a3, a4, a5, a6, a7, a8⟩ := h1 s hs
  exact ⟨a1.trans a5.symm, a2.trans a6.symm, a3.trans a7.symm, a4.trans a8.symm, (h4 s hs).1.trans (h4 s hs).2.symm⟩
theorem PV.tr {T T' : Sx} {k : Nat} (h : PV T k) (h1 : ∀ f, f < 5 → ∀ s, s < 120 → T' f s = T f s) (h5 : ∀ m, m < 8 → T' 5 m = T 5 m) (h6 : T' 6 0 = T 6 0) : PV T' k := by
  obtain ⟨a1, a2, a3, a4⟩ := h
  refine ⟨h6.trans a1, a2, fun s hs => ?_, fun m hm => by rw [h5 m hm]; exact a4 m hm⟩
  have hh : ∀ v, v < 120 → ht T' v = ht T v := fun v hv => by unfold ht; rw [h1 4 (by omega) v hv]
  have e0 := h1 0 (by omega) s (by omega)
  have e1 := h1 1 (by omega) s (by omega)
  have e2 := h1 2 (by omega) s (by omega)
  have e3 := h1 3 (by omega) s (by omega)
  have hK : ∀ x, Kid T' s x = Kid T s x := fun x => propext ⟨fun ⟨v, q1, q2, q3⟩ => ⟨v, q1, q2, by rw [← hh v (by omega), ← hh s (by omega)]; exact q3⟩, fun ⟨v, q1, q2, q3⟩ => ⟨v, q1, q2, by rw [hh v (by omega), hh s (by omega)]; exact q3⟩⟩
  obtain ⟨b1, b2, b3⟩ := a3 s hs
  refine ⟨by rw [hh s (by omega)]; exact b1, by rw [hh s (by omega)]; exact b2, ?_⟩
  simpa only [SV, hK, e0, e1, e2, e3] using b3
theorem cProg.pv {T X M : Sx} {k : Nat} (h : cProg T X M) (hv : PV T k) : PV (pT X) k := by
  obtain ⟨h1, h2, h3, h4, h5, -⟩ := h
  refine hv.tr (fun f hf s hs => ?_) (fun m hm => (h2 m hm).1) h3
  obtain ⟨a1, a2, a3, a4, -⟩ := h1 s hs
  rcases (show f = 0 ∨ f = 1 ∨ f = 2 ∨ f = 3 ∨ f = 4 by omega) with rfl | rfl | rfl | rfl | rfl
  · exact a1
  · exact a2
  · exact a3
  · exact a4
  · exact (h4 s hs).1
theorem PV.tm {X M : Sx} {k : Nat} (h : PV (pT X) k) : PV (pTM X M) k := h.tr (fun f hf s _ => by
  rcases (show f = 0 ∨ f = 1 ∨ f = 2 ∨ f = 3 ∨ f = 4 by omega) with rfl | rfl | rfl | rfl | rfl <;> rfl) (fun _ _ => rfl) rfl
theorem Ag.pT {X Y : Sx} (h : Ag X Y) : pT X = pT Y := by
  funext f i
  show (if f = 0 then _ else _) = (if f = 0 then _ else _)
  simp only [h 1800 (by omega), h 1900 (by omega), h 2000 (by omega), h 2100 (by omega), h 2200 (by omega), h 2300 (by omega), h 1706 (by omega)]
theorem Ag.prog {X Y M : Sx} (h : Ag X Y) (hp : ProgEq X M) : ProgEq Y M := by
  unfold ProgEq at hp ⊢
  simpa only [h 1800 (by omega), h 1900 (by omega), h 2000 (by omega), h 2100 (by omega), h 2200 (by omega), h 2300 (by omega), h 1706 (by omega)] using hp
theorem Ag.obs {X Y M : Sx} (h : Ag X Y) (hp : Obs X M) : Obs Y M := by
  unfold Obs cMem cMon cLock cLog rTell lSum at hp ⊢
  simpa only [h 200 (by omega), h 105 (by omega), h 104 (by omega), h 400 (by omega), h 300 (by omega), h 500 (by omega), h 603 (by omega), h 604 (by omega), h 605 (by omega), h 606 (by omega), h 700 (by omega), h 1000 (by omega), h 901 (by omega), h 602 (by omega), h 800 (by omega), h 7 (by omega), h 5 (by omega), h 9 (by omega), h 10 (by omega)] using hp
theorem ProgEq.df {E : List Nat} {X M M' : Sx} (h : ProgEq X M) (d : Df E M M') (hd : disj E [100, 200, 300, 400, 500, 600, 1] = true) : ProgEq X M' := by
  unfold ProgEq at h ⊢
  simpa only [d 100 (disj.at hd (by decide)), d 200 (disj.at hd (by decide)), d 300 (disj.at hd (by decide)), d 400 (disj.at hd (by decide)), d 500 (disj.at hd (by decide)), d 600 (disj.at hd (by decide)), d 1 (disj.at hd (by decide))] using h
theorem Obs.df {E : List Nat} {X M M' : Sx} (h : Obs X M) (d : Df E M M') (hd : disj E [700, 23, 14, 11, 800, 1000, 1100, 1200, 16, 17, 18, 19, 1300, 900, 25, 21, 1400, 24, 26, 27, 28] = true) : Obs X M' := by
  unfold Obs cMem cMon cLock cLog at h ⊢
  simpa only [d 700 (disj.at hd (by decide)), d 23 (disj.at hd (by decide)), d 14 (disj.at hd (by decide)), d 11 (disj.at hd (by decide)), d 800 (disj.at hd (by decide)), d 1000 (disj.at hd (by decide)), d 1100 (disj.at hd (by decide)), d 1200 (disj.at hd (by decide)), d 16 (disj.at hd (by decide)), d 17 (disj.at hd (by decide)), d 18 (disj.at hd (by decide)), d 19 (disj.at hd (by decide)), d 1300 (disj.at hd (by decide)), d 900 (disj.at hd (by decide)), d 25 (disj.at hd (by decide)), d 21 (disj.at hd (by decide)), d 1400 (disj.at hd (by decide)), d 24 (disj.at hd (by decide)), d 26 (disj.at hd (by decide)), d 27 (disj.at hd (by decide)), d 28 (disj.at hd (by decide))] using h
theorem Obs.dfx {D : List Nat} {X Y M : Sx} (h : Obs X M) (d : Df D X Y) (hd : disj D [200, 105, 104, 400, 300, 500, 603, 604, 605, 606, 700, 1000, 901, 602, 800, 7, 5, 9, 10] = true) : Obs Y M := by
  unfold Obs cMem cMon cLock cLog rTell lSum at h ⊢
  simpa only [d 200 (disj.at hd (by decide)), d 105 (disj.at hd (by decide)), d 104 (disj.at hd (by decide)), d 400 (disj.at hd (by decide)), d 300 (disj.at hd (by decide)), d 500 (disj.at hd (by decide)), d 603 (disj.at hd (by decide)), d 604 (disj.at hd (by decide)), d 605 (disj.at hd (by decide)), d 606 (disj.at hd (by decide)), d 700 (disj.at hd (by decide)), d 1000 (disj.at hd (by decide)), d 901 (disj.at hd (by decide)), d 602 (disj.at hd (by decide)), d 800 (disj.at hd (by decide)), d 7 (disj.at hd (by decide)), d 5 (disj.at hd (by decide)), d 9 (disj.at hd (by decide)), d 10 (disj.at hd (by decide))] using h
theorem RelC.m0 {sg so : List Nat} {k : Nat} {S M M' : Sx} (h : RelC sg so k S M) (d : Df [0] M M') : RelC sg so k S M' := ⟨h.lat, h.wf, h.wfo, h.prog.df d rfl, h.pv, h.obs.df d rfl, fun i hi => by rw [d.at 1500 i rfl]; exact h.cnt i hi⟩
theorem df0 {M : Sx} {v : Int32} : Df [0] M (sw M 0 0 v) := Df.rf.to 0 0 v
/-- a call that writes the latest run and the program -/
theorem RelC.up {sg so : List Nat} {k k' : Nat} {S M M' F : Sx} (h : RelC sg so k S M) (hF : wfR F) (hp : ProgEq F M') (hv : PV (pT F) k') (ho : Obs F M') (hc : ∀ i, i < 4 → S 100 i = M' 1500 i) : RelC sg so k' (psS sg S F) M' := by
  have hwo := h.wfo
  rcases h.lat with ⟨rfl, rfl, l1, l2⟩ | ⟨rfl, rfl, l1, l2⟩
  · refine ⟨Or.inl ⟨rfl, rfl, by rw [psA_lo (by omega)]; exact l1, by rw [psA_lo (by omega)]; exact l2⟩, agA.sy.wf hF, agAB.sy.wf (Mix.wf hwo hF), agA.sy.prog hp, by rw [agA.pT]; exact hv, agA.sy.obs ho, fun i hi => by rw [psA_lo (by omega)]; exact hc i hi⟩
  · refine ⟨Or.inr ⟨rfl, rfl, by rw [psB_lo (by omega)]; exact l1, by rw [psB_lo (by omega)]; exact l2⟩, agB.sy.wf hF, agBA.sy.wf (Mix.wf hwo hF), agB.sy.prog hp, by rw [agB.pT]; exact hv, agB.sy.obs ho, fun i hi => by rw [psB_lo (by omega)]; exact hc i hi⟩
/-- both answer alike, and stay alike -/
def Pair (kX kM : MK) (as : List Value) (S M : Sx) : Prop := ∃ (v : Int32) (S' : Sx) (G : Prop), (∀ (d : Nat) (Q : Option Value → Sx → Prop), (G → Q (some (.int v)) S') → CC (d + 12) kX layX (.ref 0 :: as) S Q) ∧ (G → ∀ (d : Nat) (Q : Option Value → Sx → Prop), (∀ M', Rel S' M' → Q (some (.int v)) M') → CC (d + 12) kM layM (.ref 0 :: as) M Q)
theorem Pair.of {kX kM : MK} {as : List Value} {S M : Sx} {v : Int32} {S' : Sx} (h1 : ∀ (d : Nat) (Q : Option Value → Sx → Prop), Q (some (.int v)) S' → CC (d + 12) kX layX (.ref 0 :: as) S Q) (h2 : ∀ (d : Nat) (Q : Option Value → Sx → Prop), (∀ M', Rel S' M' → Q (some (.int v)) M') → CC (d + 12) kM layM (.ref 0 :: as) M Q) : Pair kX kM as S M := ⟨v, S', True, fun d Q h => h1 d Q (h trivial), fun _ => h2⟩
