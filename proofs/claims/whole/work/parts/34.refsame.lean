theorem gSz_df {D : List Nat} {M S : Sx} {r : Int32} (h : Df D M S) (hd : disj D [800, 1000] = true) : gSize S r = gSize M r := by
  have h8 := h 800 (disj.at hd (by decide))
  have h10 := h 1000 (disj.at hd (by decide))
  simp only [gSize, h8, h10]
theorem gIt_df {D : List Nat} {M S : Sx} {r i : Int32} (h : Df D M S) (hd : disj D [800, 1000, 1100, 1200] = true) : gItV S r i = gItV M r i ∧ gItK S r i = gItK M r i := by
  have h8 := h 800 (disj.at hd (by decide))
  have h10 := h 1000 (disj.at hd (by decide))
  have h11 := h 1100 (disj.at hd (by decide))
  have h12 := h 1200 (disj.at hd (by decide))
  simp only [gItV, gItK, h8, h10, h11, h12, and_self]
theorem gRowOk.df {D : List Nat} {M S : Sx} (g : gRowOk M) (h : Df D M S) (hd : disj D [800, 1000, 1100] = true) : gRowOk S := by
  have h8 := h 800 (disj.at hd (by decide))
  have h10 := h 1000 (disj.at hd (by decide))
  have h11 := h 1100 (disj.at hd (by decide))
  intro r hr
  simp only [h8, h10, h11]
  exact g r hr
theorem nI_neM {x : Nat} (h : x < 2 ^ 31) : ¬ nI x = -1 := by
  intro z
  have h1 := congrArg Int32.toInt z
  rw [nI_toInt h] at h1
  have e1 : (-1 : Int32).toInt = -1 := by decide
  omega
def lenN (M : Sx) (r : Nat) : Nat := (gSize M (nI r)).toNatClampNeg
def offN (N : Nat → Nat) : Nat → Nat
  | 0 => 0
  | r + 1 => offN N r + N r
theorem off_mono {N : Nat → Nat} {q : Nat} : ∀ {r : Nat}, q < r → offN N q + N q ≤ offN N r := by
  intro r
  induction r with
  | zero => intro h; omega
  | succ r ih =>
    intro h
    rcases (show q < r ∨ q = r by omega) with e | rfl
    · have := ih e
      show _ ≤ offN N r + N r
      omega
    · exact Nat.le_refl _
theorem off_le {N : Nat → Nat} (h : ∀ r, r < 4 → N r ≤ 800) : ∀ {r : Nat}, r ≤ 4 → offN N r ≤ 800 * r := by
  intro r
  induction r with
  | zero => intro _; exact Nat.le_refl _
  | succ r ih =>
    intro h4
    have := ih (by omega)
    have := h r (by omega)
    show offN N r + N r ≤ _
    omega
theorem gSz_len {M : Sx} {r : Nat} (hr : r < 4) (h : gRowOk M) (hN : lenN M r ≤ 800) : gSize M (nI r) = -1 ∧ lenN M r = 0 ∨ gSize M (nI r) = nI (lenN M r) ∧ lenN M r ≤ 800 := by
  have e : gSize M (nI r) = (if M 800 r = -1 then -1 else M 1000 (M 800 r).toNatClampNeg) := by
    rw [gSize, if_pos (show inb (nI r) 4 = true from inb_nI (b := 4) hr (by omega)), cl r]
  rcases h r hr with q | ⟨x, len, at_, q1, q2, q3, q4, q5⟩
  · rw [if_pos q] at e
    exact Or.inl ⟨e, by rw [lenN, e]; decide⟩
  · rw [if_neg (by rw [q1]; exact nI_neM (by omega)), q1, cl x, q3] at e
    have e2 : lenN M r = len := by rw [lenN, e, cl len]
    exact Or.inr ⟨by rw [e, e2], hN⟩
theorem gItK_0 {M : Sx} {r i : Nat} (hr : r < 4) (h : gRowOk M) (hN : lenN M r ≤ 800) (hi : i < lenN M r) : gItK M (nI r) (nI i) = 0 := by
  have e : gSize M (nI r) = (if M 800 r = -1 then -1 else M 1000 (M 800 r).toNatClampNeg) := by
    rw [gSize, if_pos (show inb (nI r) 4 = true from inb_nI (b := 4) hr (by omega)), cl r]
  rw [gItK, if_pos (show inb (nI r) 4 = true from inb_nI (b := 4) hr (by omega)), cl r]
  rcases gSz_len hr h hN with ⟨q1, q2⟩ | ⟨q1, q2⟩
  · omega
  · by_cases z : M 800 r = -1
    · rw [if_pos z] at e
      rw [lenN, e] at hi
      rw [show (-1 : Int32).toNatClampNeg = 0 by decide] at hi
      omega
    · rw [if_neg z] at e
      rw [if_neg z, ← e, q1, if_pos (inb_nI hi (by omega))]
section SAMEM
variable {M1 M2 : Sx} {e1 e2 m x b o : Int32} {d : Nat} {Q : Option Value → Sx → Prop}
def RowFill (M1 : Sx) (q n : Nat) (S : Sx) : Prop := S 2100 (12 + q) = gSize M1 (nI q) ∧ ∀ i, i < n → S 2200 (offN (lenN M1) q + i) = gItV M1 (nI q) (nI i)
def Fst (M1 : Sx) (e1 : Int32) (k : Nat) (S : Sx) : Prop := S 2100 0 = e1 ∧ S 2100 1 = M1 27 0 ∧ S 2100 2 = M1 28 0 ∧ S 2100 3 = M1 23 0 ∧ ∀ i, i < k → S 2100 (4 + i) = M1 700 i
def Fst2 (M1 : Sx) (e1 : Int32) (r : Nat) (S : Sx) : Prop := Fst M1 e1 8 S ∧ ∀ q, q < r → RowFill M1 q (lenN M1 q) S
theorem Fst.ix {k : Nat} {S S' : Sx} (h : Fst M1 e1 k S) (hk : k ≤ 8) (h1 : ∀ j, j < 4 + k → S' 2100 j = S 2100 j) : Fst M1 e1 k S' := by
  obtain ⟨a1, a2, a3, a4, a5⟩ := h
  exact ⟨by rw [h1 0 (by omega)]; exact a1, by rw [h1 1 (by omega)]; exact a2, by rw [h1 2 (by omega)]; exact a3, by rw [h1 3 (by omega)]; exact a4, fun i hi => by rw [h1 (4 + i) (by omega)]; exact a5 i hi⟩
theorem RowFill.ix {q n : Nat} {S S' : Sx} (h : RowFill M1 q n S) (h1 : S' 2100 (12 + q) = S 2100 (12 + q)) (h2 : ∀ i, i < n → S' 2200 (offN (lenN M1) q + i) = S 2200 (offN (lenN M1) q + i)) : RowFill M1 q n S' := ⟨by rw [h1]; exact h.1, fun i hi => by rw [h2 i hi]; exact h.2 i hi⟩
theorem same_l1 {z6 z7 z8 : Option Value} (K : (∀ S, Df [0, 2100, 2200] M1 S → Fst M1 e1 8 S → AJ (d + 7) kX10_same layM 102 [some (.ref 0), some (.int m), some (.int x), some (.int b), some (.int o), some (.int (nI 8)), z6, z7, z8] [] S Q)) : ∀ (t i : Nat) (S : Sx), i + t = 8 → Df [0, 2100, 2200] M1 S → Fst M1 e1 i S → AJ (d + 7) kX10_same layM 73 [some (.ref 0), some (.int m), some (.int x), some (.int b), some (.int o), some (.int (nI i)), z6, z7, z8] [] S Q := by
  intro t
  induction t with
  | zero =>
    intro i S hi hD hF
    obtain rfl : i = 8 := by omega
    refine aj_iload (q := 75) (i := 5) dX10_same_73 rfl rfl ?_
    refine aj_bipush (q := 77) (v := 8) dX10_same_75 rfl (by decide) ?_
    refine aj_icmp_ge (q := 80) (tgt := 102) dX10_same_77 rfl (by decide) (fun _ => ?_) (fun c => absurd (show (8 : Int32) ≤ nI 8 by decide) c)
    exact K S hD hF
  | succ t ih =>
    intro i S hi hD hF
    have h4 : (4 : Int32) + nI i = nI (4 + i) := nI_add 4 i
    refine aj_iload (q := 75) (i := 5) dX10_same_73 rfl rfl ?_
    refine aj_bipush (q := 77) (v := 8) dX10_same_75 rfl (by decide) ?_
    refine aj_icmp_ge (q := 80) (tgt := 102) dX10_same_77 rfl (by decide) (fun c => absurd (show nI 8 ≤ nI i from c) (nI_ge (by omega) (by omega))) (fun _ => ?_)
    refine aj_aload_n (q := 81) (i := 0) dX10_same_80 rfl rfl rfl ?_
    refine aj_getR (q := 84) fl_X10_77 dX10_same_81 rfl lM_0 rfl ?_
    refine aj_iconst (q := 85) (v := 4) dX10_same_84 rfl (by decide) ?_
    refine aj_iload (q := 87) (i := 5) dX10_same_85 rfl rfl ?_
    refine aj_iadd (q := 88) dX10_same_87 rfl ?_
    try simp only [cl i, h4]
    refine aj_aload_n (q := 89) (i := 0) dX10_same_88 rfl rfl rfl ?_
    refine aj_getR (q := 92) fl_X10_32 dX10_same_89 rfl lM_0 rfl ?_
    refine aj_iload (q := 94) (i := 5) dX10_same_92 rfl rfl ?_
    refine aj_iaload (q := 95) (f := 700) dX10_same_94 rfl lM_7 rfl (vp_in_nI (by omega) (by omega)) ?_
    try simp only [cl i, h4]
    refine aj_iastore (q := 96) (f := 2100) okM dX10_same_95 rfl lM_21 rfl (vp_in_nI (by omega) (by omega)) ?_
    refine aj_iinc (q := 99) (i := 5) (ls' := [_, _, _, _, _, _, _, _, _]) dX10_same_96 rfl rfl (nI_1 i) (by decide) rfl ?_
    refine aj_goto (tgt := 73) dX10_same_99 (by decide) ?_
    rw [cl (4 + i)]
    refine ih (i + 1) _ (by omega) ((hD.to 2100 _ _).mono rfl) ?_
    have hF' : Fst M1 e1 i (sw S 2100 (4 + i) (S 700 i)) := hF.ix (by omega) (fun j hj => sw_ix (by omega))
    refine ⟨hF'.1, hF'.2.1, hF'.2.2.1, hF'.2.2.2.1, fun j hj => ?_⟩
    rcases (show j < i ∨ j = i by omega) with q | rfl
    · exact hF'.2.2.2.2 j q
    · rw [sw_eq]; exact hD.at 700 j rfl
theorem same_l3 {z8 : Option Value} {r : Nat} (hr : r < 4) (hok : gRowOk M1) (hN : ∀ r, r < 4 → lenN M1 r ≤ 800) (K : ∀ S, Df [0, 2100, 2200] M1 S → Fst2 M1 e1 r S → RowFill M1 r (lenN M1 r) S → AJ (d + 7) kX10_same layM 168 [some (.ref 0), some (.int m), some (.int x), some (.int b), some (.int o), some (.int (nI (offN (lenN M1) r + lenN M1 r))), some (.int (nI r)), some (.int (nI (lenN M1 r))), z8] [] S Q) : ∀ (t n : Nat) (S : Sx), n + t = lenN M1 r → Df [0, 2100, 2200] M1 S → Fst2 M1 e1 r S → RowFill M1 r n S → AJ (d + 7) kX10_same layM 133 [some (.ref 0), some (.int m), some (.int x), some (.int b), some (.int o), some (.int (nI (offN (lenN M1) r + n))), some (.int (nI r)), some (.int (nI n)), z8] [] S Q := by
  have hL := gSz_len hr hok (hN r hr)
  have h8 := hN r hr
  have hoff : offN (lenN M1) r ≤ 2400 := Nat.le_trans (off_le hN (by omega)) (by omega)
  intro t
  induction t with
  | zero =>
    intro n S hn hD hF hR
    obtain rfl : n = lenN M1 r := by omega
    have hs : gSize S (nI r) = gSize M1 (nI r) := gSz_df hD rfl
    have hD' : Df [0, 2100, 2200] M1 (sw S 0 0 0) := (hD.to 0 0 0).mono rfl
    have hF' : Fst2 M1 e1 r (sw S 0 0 0) := hF
    have hR' : RowFill M1 r (lenN M1 r) (sw S 0 0 0) := hR
    refine aj_iload (q := 135) (i := 7) dX10_same_133 rfl rfl ?_
    refine aj_aload_n (q := 136) (i := 0) dX10_same_135 rfl rfl rfl ?_
    refine aj_iload (q := 138) (i := 6) dX10_same_136 rfl rfl ?_
    refine aj_callV (q := 141) (As := [_]) cl_X10_229 mk_X10_size dX10_same_138 rfl lM_0 rfl rfl (Nat.le_of_ble_eq_true rfl) (sp_X10_size (hok.df hD rfl) ?_)
    refine aj_icmp_ge (q := 144) (tgt := 168) dX10_same_141 rfl (by decide) (fun _ => ?_) (fun c => absurd ((len_ge hL h8).mpr (Nat.le_refl _)) (hs ▸ c))
    exact K _ hD' hF' hR'
  | succ t ih =>
    intro n S hn hD hF hR
    have hs : gSize S (nI r) = gSize M1 (nI r) := gSz_df hD rfl
    have hD' : Df [0, 2100, 2200] M1 (sw S 0 0 0) := (hD.to 0 0 0).mono rfl
    have hv := (gIt_df (r := nI r) (i := nI n) hD' rfl).1
    have hk1 : nI (offN (lenN M1) r + n) + 1 = nI (offN (lenN M1) r + (n + 1)) := nI_1 _
    refine aj_iload (q := 135) (i := 7) dX10_same_133 rfl rfl ?_
    refine aj_aload_n (q := 136) (i := 0) dX10_same_135 rfl rfl rfl ?_
    refine aj_iload (q := 138) (i := 6) dX10_same_136 rfl rfl ?_
    refine aj_callV (q := 141) (As := [_]) cl_X10_229 mk_X10_size dX10_same_138 rfl lM_0 rfl rfl (Nat.le_of_ble_eq_true rfl) (sp_X10_size (hok.df hD rfl) ?_)
    refine aj_icmp_ge (q := 144) (tgt := 168) dX10_same_141 rfl (by decide) (fun c => absurd ((len_ge hL (by omega)).mp (hs ▸ c)) (by omega)) (fun _ => ?_)
    refine aj_aload_n (q := 145) (i := 0) dX10_same_144 rfl rfl rfl ?_
    refine aj_getR (q := 148) fl_X10_80 dX10_same_145 rfl lM_0 rfl ?_
    refine aj_iload (q := 150) (i := 5) dX10_same_148 rfl rfl ?_
    refine aj_aload_n (q := 151) (i := 0) dX10_same_150 rfl rfl rfl ?_
    refine aj_iload (q := 153) (i := 6) dX10_same_151 rfl rfl ?_
    refine aj_iload (q := 155) (i := 7) dX10_same_153 rfl rfl ?_
    refine aj_callV (q := 158) (As := [_, _]) cl_X10_232 mk_X10_item dX10_same_155 rfl lM_0 rfl rfl (Nat.le_of_ble_eq_true rfl) (sp_X10_item (hok.df (show Df [0, 2100, 2200] M1 (sw S 0 0 0) from (hD.to 0 0 0).mono rfl) rfl) ?_)
    refine aj_iastore (q := 159) (f := 2200) okM dX10_same_158 rfl lM_22 rfl (vp_in_nI (by omega) (by omega)) ?_
    refine aj_iinc (q := 162) (i := 5) (ls' := [_, _, _, _, _, _, _, _, _]) dX10_same_159 rfl rfl hk1 (by decide) rfl ?_
    refine aj_iinc (q := 165) (i := 7) (ls' := [_, _, _, _, _, _, _, _, _]) dX10_same_162 rfl rfl (nI_1 n) (by decide) rfl ?_
    refine aj_goto (tgt := 133) dX10_same_165 (by decide) ?_
    rw [cl (offN (lenN M1) r + n)]
    refine ih (n + 1) _ (by omega) (((hD'.to 0 0 _).to 2200 _ _).mono rfl) ?_ ?_
    · refine ⟨hF.1, fun q hq => RowFill.ix (S := S) (hF.2 q hq) rfl (fun i hi => ?_)⟩
      have := off_mono (N := lenN M1) hq
      rw [sw_ix (by omega)]
      rfl
    · refine ⟨hR.1, fun i hi => ?_⟩
      rcases (show i < n ∨ i = n by omega) with q | rfl
      · rw [sw_ix (by omega)]
        exact hR.2 i q
      · rw [sw_eq]
        exact hv
theorem same_l2 {z8 : Option Value} (hok : gRowOk M1) (hN : ∀ r, r < 4 → lenN M1 r ≤ 800) (K : ∀ (S : Sx) (z7 : Option Value), Df [0, 2100, 2200] M1 S → Fst2 M1 e1 4 S → AJ (d + 7) kX10_same layM 174 [some (.ref 0), some (.int m), some (.int x), some (.int b), some (.int o), some (.int (nI (offN (lenN M1) 4))), some (.int (nI 4)), z7, z8] [] S Q) : ∀ (t r : Nat) (S : Sx) (z7 : Option Value), r + t = 4 → Df [0, 2100, 2200] M1 S → Fst2 M1 e1 r S → AJ (d + 7) kX10_same layM 108 [some (.ref 0), some (.int m), some (.int x), some (.int b), some (.int o), some (.int (nI (offN (lenN M1) r))), some (.int (nI r)), z7, z8] [] S Q := by
  intro t
  induction t with
  | zero =>
    intro r S z7 hr hD hF
    obtain rfl : r = 4 := by omega
    refine aj_iload (q := 110) (i := 6) dX10_same_108 rfl rfl ?_
    refine aj_iconst (q := 111) (v := 4) dX10_same_110 rfl (by decide) ?_
    refine aj_icmp_ge (q := 114) (tgt := 174) dX10_same_111 rfl (by decide) (fun _ => ?_) (fun c => absurd (show (4 : Int32) ≤ nI 4 by decide) c)
    exact K S z7 hD hF
  | succ t ih =>
    intro r S z7 hr hD hF
    have h12 : (12 : Int32) + nI r = nI (12 + r) := nI_add 12 r
    have hs : gSize S (nI r) = gSize M1 (nI r) := gSz_df hD rfl
    refine aj_iload (q := 110) (i := 6) dX10_same_108 rfl rfl ?_
    refine aj_iconst (q := 111) (v := 4) dX10_same_110 rfl (by decide) ?_
    refine aj_icmp_ge (q := 114) (tgt := 174) dX10_same_111 rfl (by decide) (fun c => absurd (show nI 4 ≤ nI r from c) (nI_ge (by omega) (by omega))) (fun _ => ?_)
    refine aj_aload_n (q := 115) (i := 0) dX10_same_114 rfl rfl rfl ?_
    refine aj_getR (q := 118) fl_X10_77 dX10_same_115 rfl lM_0 rfl ?_
    refine aj_bipush (q := 120) (v := 12) dX10_same_118 rfl (by decide) ?_
    refine aj_iload (q := 122) (i := 6) dX10_same_120 rfl rfl ?_
    refine aj_iadd (q := 123) dX10_same_122 rfl ?_
    try simp only [h12]
    refine aj_aload_n (q := 124) (i := 0) dX10_same_123 rfl rfl rfl ?_
    refine aj_iload (q := 126) (i := 6) dX10_same_124 rfl rfl ?_
    refine aj_callV (q := 129) (As := [_]) cl_X10_229 mk_X10_size dX10_same_126 rfl lM_0 rfl rfl (Nat.le_of_ble_eq_true rfl) (sp_X10_size (hok.df hD rfl) ?_)
    refine aj_iastore (q := 130) (f := 2100) okM dX10_same_129 rfl lM_21 rfl (vp_in_nI (by omega) (by omega)) ?_
    refine aj_iconst (q := 131) (v := 0) dX10_same_130 rfl (by decide) ?_
    refine aj_istore (q := 133) (i := 7) (ls' := [_, _, _, _, _, _, _, _, _]) dX10_same_131 rfl (by decide) rfl ?_
    rw [cl (12 + r)]
    refine same_l3 (by omega) hok hN (fun S' hD' hF' hR' => ?_) (lenN M1 r) 0 _ (by omega) (((hD.to 0 0 0).to 2100 _ _).mono rfl) ⟨hF.1.ix (by omega) (fun j hj => sw_ix (by omega)), fun q hq => (hF.2 q hq).ix (sw_ix (by omega)) (fun i hi => rfl)⟩ ⟨by rw [sw_eq]; exact hs, fun i hi => by omega⟩
    refine aj_iinc (q := 171) (i := 6) (ls' := [_, _, _, _, _, _, _, _, _]) dX10_same_168 rfl rfl (nI_1 r) (by decide) rfl ?_
    refine aj_goto (tgt := 108) dX10_same_171 (by decide) ?_
    refine ih (r + 1) S' _ (by omega) hD' ⟨hF'.1, fun q hq => ?_⟩
    rcases (show q < r ∨ q = r by omega) with e | rfl
    · exact hF'.2 q e
    · exact hR'
def RowEqM (M1 M2 : Sx) (r : Nat) : Prop := gSize M1 (nI r) = gSize M2 (nI r) ∧ ∀ i, i < lenN M1 r → gItV M1 (nI r) (nI i) = gItV M2 (nI r) (nI i)
def EqA (M1 M2 : Sx) (e1 e2 : Int32) : Prop := e1 = e2 ∧ M1 27 0 = M2 27 0 ∧ M1 28 0 = M2 28 0 ∧ M1 23 0 = M2 23 0
def SameM (M1 M2 : Sx) (e1 e2 : Int32) : Prop := (EqA M1 M2 e1 e2 ∧ ∀ k, k < 8 → M1 700 k = M2 700 k) ∧ ∀ r, r < 4 → RowEqM M1 M2 r
theorem Fst2.df {S : Sx} (h : Fst2 M1 e1 4 M2) (hD : Df [0] M2 S) : Fst2 M1 e1 4 S := by
  have h1 := hD 2100 (by decide)
  have h2 := hD 2200 (by decide)
  exact ⟨h.1.ix (by omega) (fun j _ => h1 j), fun q hq => (h.2 q hq).ix (h1 _) (fun i _ => h2 _)⟩
theorem ite_bi {c : Prop} [Decidable c] (b : Bool) (h : b = true ↔ c) : b = decide c := by
  by_cases q : c <;> simp [q] at h ⊢ <;> exact h
theorem same_l5 {A : Prop} {z5 z8 : Option Value} (hF2 : Fst2 M1 e1 4 M2) (K : (∀ (S : Sx) (bb : Bool), Df [0] M2 S → (bb = true ↔ A ∧ ∀ k, k < 8 → M1 700 k = M2 700 k) → AJ (d + 7) kX10_same layM 284 [some (.ref 0), some (.int m), some (.int x), some (.int b), some (.int o), z5, some (.int (bi bb)), some (.int (nI 8)), z8] [] S Q)) : ∀ (t i : Nat) (S : Sx) (bb : Bool), i + t = 8 → Df [0] M2 S → (bb = true ↔ A ∧ ∀ k, k < i → M1 700 k = M2 700 k) → AJ (d + 7) kX10_same layM 240 [some (.ref 0), some (.int m), some (.int x), some (.int b), some (.int o), z5, some (.int (bi bb)), some (.int (nI i)), z8] [] S Q := by
  intro t
  induction t with
  | zero =>
    intro i S bb hi hD hb
    obtain rfl : i = 8 := by omega
    refine aj_iload (q := 242) (i := 7) dX10_same_240 rfl rfl ?_
    refine aj_bipush (q := 244) (v := 8) dX10_same_242 rfl (by decide) ?_
    refine aj_icmp_ge (q := 247) (tgt := 284) dX10_same_244 rfl (by decide) (fun _ => ?_) (fun c => absurd (show (8 : Int32) ≤ nI 8 by decide) c)
    exact K S bb hD hb
  | succ t ih =>
    intro i S bb hi hD hb
    have hF := hF2.df hD
    have h4 : (4 : Int32) + nI i = nI (4 + i) := nI_add 4 i
    have e1' : S 2100 (4 + i) = M1 700 i := hF.1.2.2.2.2 i (by omega)
    have e2' : S 700 i = M2 700 i := hD.at 700 i rfl
    cases bb with
    | false =>
      refine aj_iload (q := 242) (i := 7) dX10_same_240 rfl rfl ?_
      refine aj_bipush (q := 244) (v := 8) dX10_same_242 rfl (by decide) ?_
      refine aj_icmp_ge (q := 247) (tgt := 284) dX10_same_244 rfl (by decide) (fun c => absurd (show nI 8 ≤ nI i from c) (nI_ge (by omega) (by omega))) (fun _ => ?_)
      refine aj_iload (q := 249) (i := 6) dX10_same_247 rfl rfl ?_
      refine aj_if_eq (q := 252) (tgt := 275) dX10_same_249 rfl (by decide) (fun _ => ?_) (fun c => absurd (show bi false = 0 from rfl) c)
      refine aj_iconst (q := 276) (v := 0) dX10_same_275 rfl (by decide) ?_
      refine aj_istore (q := 278) (i := 6) (ls' := [_, _, _, _, _, _, _, _, _]) dX10_same_276 rfl (by decide) rfl ?_
      refine aj_iinc (q := 281) (i := 7) (ls' := [_, _, _, _, _, _, _, _, _]) dX10_same_278 rfl rfl (nI_1 i) (by decide) rfl ?_
      refine aj_goto (tgt := 240) dX10_same_281 (by decide) ?_
      exact ih (i + 1) S false (by omega) hD ⟨fun h => (by cases h), fun h => hb.mpr ⟨h.1, fun k hk => h.2 k (by omega)⟩⟩
    | true =>
      have hb1 := hb.mp rfl
      refine aj_iload (q := 242) (i := 7) dX10_same_240 rfl rfl ?_
      refine aj_bipush (q := 244) (v := 8) dX10_same_242 rfl (by decide) ?_
      refine aj_icmp_ge (q := 247) (tgt := 284) dX10_same_244 rfl (by decide) (fun c => absurd (show nI 8 ≤ nI i from c) (nI_ge (by omega) (by omega))) (fun _ => ?_)
      refine aj_iload (q := 249) (i := 6) dX10_same_247 rfl rfl ?_
      refine aj_if_eq (q := 252) (tgt := 275) dX10_same_249 rfl (by decide) (fun c => absurd (show bi true = 0 from c) (by decide)) (fun _ => ?_)
      refine aj_aload_n (q := 253) (i := 0) dX10_same_252 rfl rfl rfl ?_
      refine aj_getR (q := 256) fl_X10_77 dX10_same_253 rfl lM_0 rfl ?_
      refine aj_iconst (q := 257) (v := 4) dX10_same_256 rfl (by decide) ?_
      refine aj_iload (q := 259) (i := 7) dX10_same_257 rfl rfl ?_
      refine aj_iadd (q := 260) dX10_same_259 rfl ?_
      try simp only [h4, cl i, cl (4 + i), e1', e2']
      refine aj_iaload (q := 261) (f := 2100) dX10_same_260 rfl lM_21 rfl (vp_in_nI (by omega) (by omega)) ?_
      try simp only [h4, cl i, cl (4 + i), e1', e2']
      refine aj_aload_n (q := 262) (i := 0) dX10_same_261 rfl rfl rfl ?_
      refine aj_getR (q := 265) fl_X10_32 dX10_same_262 rfl lM_0 rfl ?_
      refine aj_iload (q := 267) (i := 7) dX10_same_265 rfl rfl ?_
      refine aj_iaload (q := 268) (f := 700) dX10_same_267 rfl lM_7 rfl (vp_in_nI (by omega) (by omega)) ?_
      try simp only [h4, cl i, cl (4 + i), e1', e2']
      refine aj_icmp_ne (q := 271) (tgt := 275) dX10_same_268 rfl (by decide) (fun c268_3 => ?_) (fun c268_3 => ?_)
      · refine aj_iconst (q := 276) (v := 0) dX10_same_275 rfl (by decide) ?_
        refine aj_istore (q := 278) (i := 6) (ls' := [_, _, _, _, _, _, _, _, _]) dX10_same_276 rfl (by decide) rfl ?_
        refine aj_iinc (q := 281) (i := 7) (ls' := [_, _, _, _, _, _, _, _, _]) dX10_same_278 rfl rfl (nI_1 i) (by decide) rfl ?_
        refine aj_goto (tgt := 240) dX10_same_281 (by decide) ?_
        first
          | exact ih (i + 1) S true (by omega) hD ⟨fun _ => ⟨hb1.1, fun k hk => by
              rcases (show k < i ∨ k = i by omega) with q | rfl
              · exact hb1.2 k q
              · assumption⟩, fun _ => rfl⟩
          | exact ih (i + 1) S false (by omega) hD ⟨fun h => (by cases h), fun h => absurd (h.2 i (by omega)) (by assumption)⟩
      · refine aj_iconst (q := 272) (v := 1) dX10_same_271 rfl (by decide) ?_
        refine aj_goto (tgt := 276) dX10_same_272 (by decide) ?_
        refine aj_istore (q := 278) (i := 6) (ls' := [_, _, _, _, _, _, _, _, _]) dX10_same_276 rfl (by decide) rfl ?_
        refine aj_iinc (q := 281) (i := 7) (ls' := [_, _, _, _, _, _, _, _, _]) dX10_same_278 rfl rfl (nI_1 i) (by decide) rfl ?_
        refine aj_goto (tgt := 240) dX10_same_281 (by decide) ?_
        first
          | exact ih (i + 1) S true (by omega) hD ⟨fun _ => ⟨hb1.1, fun k hk => by
              rcases (show k < i ∨ k = i by omega) with q | rfl
              · exact hb1.2 k q
              · assumption⟩, fun _ => rfl⟩
          | exact ih (i + 1) S false (by omega) hD ⟨fun h => (by cases h), fun h => absurd (h.2 i (by omega)) (by assumption)⟩
theorem same_l7 {A : Prop} {r : Nat} (hr : r < 4) (hok : gRowOk M2) (hok1 : gRowOk M1) (hN : ∀ r, r < 4 → lenN M1 r ≤ 800) (hF2 : Fst2 M1 e1 4 M2) (hA : A → gSize M1 (nI r) = gSize M2 (nI r))
    (K : ∀ (S : Sx) (bb : Bool) (v : Int32) (z8 : Option Value), Df [0] M2 S → (bb = true ↔ A ∧ ∀ i, i < lenN M1 r → gItV M1 (nI r) (nI i) = gItV M2 (nI r) (nI i)) → (bb = true → v = nI (offN (lenN M1) r + lenN M1 r)) → AJ (d + 7) kX10_same layM 380 [some (.ref 0), some (.int m), some (.int x), some (.int b), some (.int o), some (.int v), some (.int (bi bb)), some (.int (nI r)), z8] [] S Q) :
    ∀ (t n : Nat) (S : Sx) (bb : Bool) (v : Int32), n + t = lenN M1 r → Df [0] M2 S → (bb = true ↔ A ∧ ∀ i, i < n → gItV M1 (nI r) (nI i) = gItV M2 (nI r) (nI i)) → (bb = true → v = nI (offN (lenN M1) r + n)) → AJ (d + 7) kX10_same layM 330 [some (.ref 0), some (.int m), some (.int x), some (.int b), some (.int o), some (.int v), some (.int (bi bb)), some (.int (nI r)), some (.int (nI n))] [] S Q := by
  have hL := gSz_len hr hok1 (hN r hr)
  have h8 := hN r hr
  have hoff : offN (lenN M1) r ≤ 2400 := Nat.le_trans (off_le hN (by omega)) (by omega)
  intro t
  induction t with
  | zero =>
    intro n S bb v hn hD hb hv
    obtain rfl : n = lenN M1 r := by omega
    have hs : gSize S (nI r) = gSize M2 (nI r) := gSz_df hD rfl
    have hD' : Df [0] M2 (sw S 0 0 0) := (hD.to 0 0 0).mono rfl
    cases bb with
    | false =>
      refine aj_iload (q := 332) (i := 6) dX10_same_330 rfl rfl ?_
      refine aj_if_eq (q := 335) (tgt := 380) dX10_same_332 rfl (by decide) (fun _ => ?_) (fun c => absurd (show bi false = 0 from rfl) c)
      exact K S false v _ hD hb hv
    | true =>
      have hz := hs.trans (hA (hb.mp rfl).1).symm
      refine aj_iload (q := 332) (i := 6) dX10_same_330 rfl rfl ?_
      refine aj_if_eq (q := 335) (tgt := 380) dX10_same_332 rfl (by decide) (fun c => absurd (show bi true = 0 from c) (by decide)) (fun _ => ?_)
      refine aj_iload (q := 337) (i := 8) dX10_same_335 rfl rfl ?_
      refine aj_aload_n (q := 338) (i := 0) dX10_same_337 rfl rfl rfl ?_
      refine aj_iload (q := 340) (i := 7) dX10_same_338 rfl rfl ?_
      refine aj_callV (q := 343) (As := [_]) cl_X10_229 mk_X10_size dX10_same_340 rfl lM_0 rfl rfl (Nat.le_of_ble_eq_true rfl) (sp_X10_size (hok.df hD rfl) ?_)
      refine aj_icmp_ge (q := 346) (tgt := 380) dX10_same_343 rfl (by decide) (fun _ => ?_) (fun c => absurd ((len_ge hL h8).mpr (Nat.le_refl _)) (hz ▸ c))
      exact K _ true v _ hD' hb hv
  | succ t ih =>
    intro n S bb v hn hD hb hv
    have hs : gSize S (nI r) = gSize M2 (nI r) := gSz_df hD rfl
    have hD' : Df [0] M2 (sw S 0 0 0) := (hD.to 0 0 0).mono rfl
    cases bb with
    | false =>
      refine aj_iload (q := 332) (i := 6) dX10_same_330 rfl rfl ?_
      refine aj_if_eq (q := 335) (tgt := 380) dX10_same_332 rfl (by decide) (fun _ => ?_) (fun c => absurd (show bi false = 0 from rfl) c)
      exact K S false v _ hD ⟨fun h => (by cases h), fun h => hb.mpr ⟨h.1, fun i hi => h.2 i (by omega)⟩⟩ (fun h => by cases h)
    | true =>
      have hb1 := hb.mp rfl
      have hz := hs.trans (hA hb1.1).symm
      obtain rfl := hv rfl
      have hc := (hF2.df hD').2 r hr
      have e1' : sw S 0 0 0 2200 (offN (lenN M1) r + n) = gItV M1 (nI r) (nI n) := hc.2 n (by omega)
      have e2' := (gIt_df (r := nI r) (i := nI n) hD' rfl).1
      have hk1 : nI (offN (lenN M1) r + n) + 1 = nI (offN (lenN M1) r + (n + 1)) := nI_1 _
      have hD2 : ∀ w, Df [0] M2 (sw (sw S 0 0 0) 0 0 w) := fun w => (hD'.to 0 0 w).mono rfl
      refine aj_iload (q := 332) (i := 6) dX10_same_330 rfl rfl ?_
      refine aj_if_eq (q := 335) (tgt := 380) dX10_same_332 rfl (by decide) (fun c => absurd (show bi true = 0 from c) (by decide)) (fun _ => ?_)
      refine aj_iload (q := 337) (i := 8) dX10_same_335 rfl rfl ?_
      refine aj_aload_n (q := 338) (i := 0) dX10_same_337 rfl rfl rfl ?_
      refine aj_iload (q := 340) (i := 7) dX10_same_338 rfl rfl ?_
      refine aj_callV (q := 343) (As := [_]) cl_X10_229 mk_X10_size dX10_same_340 rfl lM_0 rfl rfl (Nat.le_of_ble_eq_true rfl) (sp_X10_size (hok.df hD rfl) ?_)
      refine aj_icmp_ge (q := 346) (tgt := 380) dX10_same_343 rfl (by decide) (fun c => absurd ((len_ge hL (by omega)).mp (hz ▸ c)) (by omega)) (fun _ => ?_)
      refine aj_aload_n (q := 347) (i := 0) dX10_same_346 rfl rfl rfl ?_
      refine aj_getR (q := 350) fl_X10_80 dX10_same_347 rfl lM_0 rfl ?_
      refine aj_iload (q := 352) (i := 5) dX10_same_350 rfl rfl ?_
      refine aj_iaload (q := 353) (f := 2200) dX10_same_352 rfl lM_22 rfl (vp_in_nI (by omega) (by omega)) ?_
      try simp only [cl (offN (lenN M1) r + n), e1']
      refine aj_aload_n (q := 354) (i := 0) dX10_same_353 rfl rfl rfl ?_
      refine aj_iload (q := 356) (i := 7) dX10_same_354 rfl rfl ?_
      refine aj_iload (q := 358) (i := 8) dX10_same_356 rfl rfl ?_
      refine aj_callV (q := 361) (As := [_, _]) cl_X10_232 mk_X10_item dX10_same_358 rfl lM_0 rfl rfl (Nat.le_of_ble_eq_true rfl) (sp_X10_item (hok.df hD' rfl) ?_)
      rw [e2']
      refine aj_icmp_ne (q := 364) (tgt := 368) dX10_same_361 rfl (by decide) (fun c361_3 => ?_) (fun c361_3 => ?_)
      · refine aj_iconst (q := 369) (v := 0) dX10_same_368 rfl (by decide) ?_
        refine aj_istore (q := 371) (i := 6) (ls' := [_, _, _, _, _, _, _, _, _]) dX10_same_369 rfl (by decide) rfl ?_
        refine aj_iinc (q := 374) (i := 5) (ls' := [_, _, _, _, _, _, _, _, _]) dX10_same_371 rfl rfl hk1 (by decide) rfl ?_
        refine aj_iinc (q := 377) (i := 8) (ls' := [_, _, _, _, _, _, _, _, _]) dX10_same_374 rfl rfl (nI_1 n) (by decide) rfl ?_
        refine aj_goto (tgt := 330) dX10_same_377 (by decide) ?_
        first
          | exact ih (n + 1) _ true _ (by omega) (hD2 _) ⟨fun _ => ⟨hb1.1, fun k hk => by
              rcases (show k < n ∨ k = n by omega) with q | rfl
              · exact hb1.2 k q
              · assumption⟩, fun _ => rfl⟩ (fun _ => rfl)
          | exact ih (n + 1) _ false _ (by omega) (hD2 _) ⟨fun h => (by cases h), fun h => absurd (h.2 n (by omega)) (by assumption)⟩ (fun h => by cases h)
      · refine aj_iconst (q := 365) (v := 1) dX10_same_364 rfl (by decide) ?_
        refine aj_goto (tgt := 369) dX10_same_365 (by decide) ?_
        refine aj_istore (q := 371) (i := 6) (ls' := [_, _, _, _, _, _, _, _, _]) dX10_same_369 rfl (by decide) rfl ?_
        refine aj_iinc (q := 374) (i := 5) (ls' := [_, _, _, _, _, _, _, _, _]) dX10_same_371 rfl rfl hk1 (by decide) rfl ?_
        refine aj_iinc (q := 377) (i := 8) (ls' := [_, _, _, _, _, _, _, _, _]) dX10_same_374 rfl rfl (nI_1 n) (by decide) rfl ?_
        refine aj_goto (tgt := 330) dX10_same_377 (by decide) ?_
        first
          | exact ih (n + 1) _ true _ (by omega) (hD2 _) ⟨fun _ => ⟨hb1.1, fun k hk => by
              rcases (show k < n ∨ k = n by omega) with q | rfl
              · exact hb1.2 k q
              · assumption⟩, fun _ => rfl⟩ (fun _ => rfl)
          | exact ih (n + 1) _ false _ (by omega) (hD2 _) ⟨fun h => (by cases h), fun h => absurd (h.2 n (by omega)) (by assumption)⟩ (fun h => by cases h)
theorem same_l6 {A : Prop} (hok : gRowOk M2) (hok1 : gRowOk M1) (hN : ∀ r, r < 4 → lenN M1 r ≤ 800) (hF2 : Fst2 M1 e1 4 M2)
    (hQ : ∀ (S : Sx) (bb : Bool), Df [0] M2 S → (bb = true ↔ A ∧ ∀ r, r < 4 → RowEqM M1 M2 r) → Q (some (.int (bi bb))) S) :
    ∀ (t r : Nat) (S : Sx) (bb : Bool) (v : Int32) (z8 : Option Value), r + t = 4 → Df [0] M2 S → (bb = true ↔ A ∧ ∀ q, q < r → RowEqM M1 M2 q) → (bb = true → v = nI (offN (lenN M1) r)) → AJ (d + 7) kX10_same layM 290 [some (.ref 0), some (.int m), some (.int x), some (.int b), some (.int o), some (.int v), some (.int (bi bb)), some (.int (nI r)), z8] [] S Q := by
  intro t
  induction t with
  | zero =>
    intro r S bb v z8 hr hD hb hv
    obtain rfl : r = 4 := by omega
    cases bb with
    | false =>
      refine aj_iload (q := 292) (i := 7) dX10_same_290 rfl rfl ?_
      refine aj_iconst (q := 293) (v := 4) dX10_same_292 rfl (by decide) ?_
      refine aj_icmp_ge (q := 296) (tgt := 386) dX10_same_293 rfl (by decide) (fun _ => ?_) (fun c => absurd (show (4 : Int32) ≤ nI 4 by decide) c)
      refine aj_iload (q := 388) (i := 6) dX10_same_386 rfl rfl ?_
      refine aj_if_eq (q := 391) (tgt := 395) dX10_same_388 rfl (by decide) (fun _ => ?_) (fun c => absurd (show bi false = 0 from rfl) c)
      refine aj_iconst (q := 396) (v := 0) dX10_same_395 rfl (by decide) ?_
      refine aj_ireturn dX10_same_396 rfl ?_
      exact hQ S false hD hb
    | true =>
      refine aj_iload (q := 292) (i := 7) dX10_same_290 rfl rfl ?_
      refine aj_iconst (q := 293) (v := 4) dX10_same_292 rfl (by decide) ?_
      refine aj_icmp_ge (q := 296) (tgt := 386) dX10_same_293 rfl (by decide) (fun _ => ?_) (fun c => absurd (show (4 : Int32) ≤ nI 4 by decide) c)
      refine aj_iload (q := 388) (i := 6) dX10_same_386 rfl rfl ?_
      refine aj_if_eq (q := 391) (tgt := 395) dX10_same_388 rfl (by decide) (fun c => absurd (show bi true = 0 from c) (by decide)) (fun _ => ?_)
      refine aj_iconst (q := 392) (v := 1) dX10_same_391 rfl (by decide) ?_
      refine aj_goto (tgt := 396) dX10_same_392 (by decide) ?_
      refine aj_ireturn dX10_same_396 rfl ?_
      exact hQ S true hD hb
  | succ t ih =>
    intro r S bb v z8 hr hD hb hv
    have hr4 : r < 4 := by omega
    have hs : gSize S (nI r) = gSize M2 (nI r) := gSz_df hD rfl
    have hD' : Df [0] M2 (sw S 0 0 0) := (hD.to 0 0 0).mono rfl
    have h12 : (12 : Int32) + nI r = nI (12 + r) := nI_add 12 r
    have e1' : S 2100 (12 + r) = gSize M1 (nI r) := ((hF2.df hD).2 r hr4).1
    -- behind the row
    have hback : ∀ (S : Sx) (bb : Bool) (v : Int32) (z8 : Option Value), Df [0] M2 S → (bb = true ↔ ((A ∧ ∀ q, q < r → RowEqM M1 M2 q) ∧ gSize M1 (nI r) = gSize M2 (nI r)) ∧ ∀ i, i < lenN M1 r → gItV M1 (nI r) (nI i) = gItV M2 (nI r) (nI i)) → (bb = true → v = nI (offN (lenN M1) r + lenN M1 r)) → AJ (d + 7) kX10_same layM 380 [some (.ref 0), some (.int m), some (.int x), some (.int b), some (.int o), some (.int v), some (.int (bi bb)), some (.int (nI r)), z8] [] S Q := by
      intro S bb v z8 hD hb hv
      refine aj_iinc (q := 383) (i := 7) (ls' := [_, _, _, _, _, _, _, _, _]) dX10_same_380 rfl rfl (nI_1 r) (by decide) rfl ?_
      refine aj_goto (tgt := 290) dX10_same_383 (by decide) ?_
      refine ih (r + 1) S bb v _ (by omega) hD ⟨fun h => ?_, fun h => ?_⟩ hv
      · obtain ⟨⟨⟨a1, a2⟩, a3⟩, a4⟩ := hb.mp h
        refine ⟨a1, fun q hq => ?_⟩
        rcases (show q < r ∨ q = r by omega) with e | rfl
        · exact a2 q e
        · exact ⟨a3, a4⟩
      · exact hb.mpr ⟨⟨⟨h.1, fun q hq => h.2 q (by omega)⟩, (h.2 r (by omega)).1⟩, (h.2 r (by omega)).2⟩
    have hin := same_l7 (A := (A ∧ ∀ q, q < r → RowEqM M1 M2 q) ∧ gSize M1 (nI r) = gSize M2 (nI r)) hr4 hok hok1 hN hF2 (fun h => h.2) hback (lenN M1 r) 0
    cases bb with
    | false =>
      refine aj_iload (q := 292) (i := 7) dX10_same_290 rfl rfl ?_
      refine aj_iconst (q := 293) (v := 4) dX10_same_292 rfl (by decide) ?_
      refine aj_icmp_ge (q := 296) (tgt := 386) dX10_same_293 rfl (by decide) (fun c => absurd (show nI 4 ≤ nI r from c) (nI_ge (by omega) (by omega))) (fun _ => ?_)
      refine aj_iload (q := 298) (i := 6) dX10_same_296 rfl rfl ?_
      refine aj_if_eq (q := 301) (tgt := 324) dX10_same_298 rfl (by decide) (fun _ => ?_) (fun c => absurd (show bi false = 0 from rfl) c)
      refine aj_iconst (q := 325) (v := 0) dX10_same_324 rfl (by decide) ?_
      refine aj_istore (q := 327) (i := 6) (ls' := [_, _, _, _, _, _, _, _, _]) dX10_same_325 rfl (by decide) rfl ?_
      refine aj_iconst (q := 328) (v := 0) dX10_same_327 rfl (by decide) ?_
      refine aj_istore (q := 330) (i := 8) (ls' := [_, _, _, _, _, _, _, _, _]) dX10_same_328 rfl (by decide) rfl ?_
      exact hin S false v (by omega) hD ⟨fun h => (by cases h), fun h => hb.mpr h.1.1⟩ (fun h => by cases h)
    | true =>
      have hb1 := hb.mp rfl
      refine aj_iload (q := 292) (i := 7) dX10_same_290 rfl rfl ?_
      refine aj_iconst (q := 293) (v := 4) dX10_same_292 rfl (by decide) ?_
      refine aj_icmp_ge (q := 296) (tgt := 386) dX10_same_293 rfl (by decide) (fun c => absurd (show nI 4 ≤ nI r from c) (nI_ge (by omega) (by omega))) (fun _ => ?_)
      refine aj_iload (q := 298) (i := 6) dX10_same_296 rfl rfl ?_
      refine aj_if_eq (q := 301) (tgt := 324) dX10_same_298 rfl (by decide) (fun c => absurd (show bi true = 0 from c) (by decide)) (fun _ => ?_)
      refine aj_aload_n (q := 302) (i := 0) dX10_same_301 rfl rfl rfl ?_
      refine aj_getR (q := 305) fl_X10_77 dX10_same_302 rfl lM_0 rfl ?_
      refine aj_bipush (q := 307) (v := 12) dX10_same_305 rfl (by decide) ?_
      refine aj_iload (q := 309) (i := 7) dX10_same_307 rfl rfl ?_
      refine aj_iadd (q := 310) dX10_same_309 rfl ?_
      try simp only [h12, cl (12 + r), e1']
      refine aj_iaload (q := 311) (f := 2100) dX10_same_310 rfl lM_21 rfl (vp_in_nI (by omega) (by omega)) ?_
      try simp only [h12, cl (12 + r), e1']
      refine aj_aload_n (q := 312) (i := 0) dX10_same_311 rfl rfl rfl ?_
      refine aj_iload (q := 314) (i := 7) dX10_same_312 rfl rfl ?_
      refine aj_callV (q := 317) (As := [_]) cl_X10_229 mk_X10_size dX10_same_314 rfl lM_0 rfl rfl (Nat.le_of_ble_eq_true rfl) (sp_X10_size (hok.df hD rfl) ?_)
      rw [hs]
      refine aj_icmp_ne (q := 320) (tgt := 324) dX10_same_317 rfl (by decide) (fun c317_3 => ?_) (fun c317_3 => ?_)
      · refine aj_iconst (q := 325) (v := 0) dX10_same_324 rfl (by decide) ?_
        refine aj_istore (q := 327) (i := 6) (ls' := [_, _, _, _, _, _, _, _, _]) dX10_same_325 rfl (by decide) rfl ?_
        refine aj_iconst (q := 328) (v := 0) dX10_same_327 rfl (by decide) ?_
        refine aj_istore (q := 330) (i := 8) (ls' := [_, _, _, _, _, _, _, _, _]) dX10_same_328 rfl (by decide) rfl ?_
        first
          | exact hin _ true v (by omega) hD' ⟨fun _ => ⟨⟨hb1, by assumption⟩, fun i hi => by omega⟩, fun _ => rfl⟩ hv
          | exact hin _ false v (by omega) hD' ⟨fun h => (by cases h), fun h => absurd h.1.2 (by assumption)⟩ (fun h => by cases h)
      · refine aj_iconst (q := 321) (v := 1) dX10_same_320 rfl (by decide) ?_
        refine aj_goto (tgt := 325) dX10_same_321 (by decide) ?_
        refine aj_istore (q := 327) (i := 6) (ls' := [_, _, _, _, _, _, _, _, _]) dX10_same_325 rfl (by decide) rfl ?_
        refine aj_iconst (q := 328) (v := 0) dX10_same_327 rfl (by decide) ?_
        refine aj_istore (q := 330) (i := 8) (ls' := [_, _, _, _, _, _, _, _, _]) dX10_same_328 rfl (by decide) rfl ?_
        first
          | exact hin _ true v (by omega) hD' ⟨fun _ => ⟨⟨hb1, by assumption⟩, fun i hi => by omega⟩, fun _ => rfl⟩ hv
          | exact hin _ false v (by omega) hD' ⟨fun h => (by cases h), fun h => absurd h.1.2 (by assumption)⟩ (fun h => by cases h)
end SAMEM
theorem df_gRunE {M : Sx} {e : Int32} : Df [1500, 28, 27, 26] M (gRunE M e) := (((Df.rf.to _ _ _).to _ _ _).to _ _ _).to _ _ _
/-- what the second run does, from every state that the first leaves -/
def Run2 (R2 : Sx → Sx → Prop) (M1 : Sx) (m x o e2 : Int32) : Prop := ∀ S, Df [0, 2100, 2200] M1 S → ∃ (j : Nat) (M' : Sx), MR j (gStart S m x o) M' ∧ M' 30 0 ≤ 0 ∧ M' 37 0 = e2 ∧ (∀ i, M' 2100 i = S 2100 i) ∧ (∀ i, M' 2200 i = S 2200 i) ∧ gRowOk M' ∧ R2 S M'
theorem sp_X10_same {d : Nat} {M M1' : Sx} {m x b o e1 e2 : Int32} {j : Nat} {R2 : Sx → Sx → Prop} {Q : Option Value → Sx → Prop} (hr1 : gIsRun M m b = true) (hr2 : gIsRun M m o = true) (hm : vp_in m 8) (hMR : MR j (gStart (sw M 0 0 0) m x b) M1') (hend : M1' 30 0 ≤ 0) (he : M1' 37 0 = e1) (hin : vp_in e1 4) (hin2 : vp_in e2 4) (hok1 : gRowOk M1') (hN : ∀ r, r < 4 → lenN (gRunE M1' e1) r ≤ 800) (h2 : Run2 R2 (gRunE M1' e1) m x o e2)
    (hQ : ∀ (S1 M' S : Sx) (bb : Bool), Df [0, 2100, 2200] (gRunE M1' e1) S1 → R2 S1 M' → Df [0] (gRunE M' e2) S → (bb = true ↔ SameM (gRunE M1' e1) (gRunE M' e2) e1 e2) → Q (some (.int (bi bb))) S) : CC (d + 7) kX10_same layM [.ref 0, .int m, .int x, .int b, .int o] M Q := by
  have hok : gRowOk (gRunE M1' e1) := hok1.df df_gRunE rfl
  refine cc_intro [some _, some _, some _, some _, some _, none, none, none, none] (by decide) (cc_cat (by rfl)) (Nat.le_of_ble_eq_true rfl) (cc_ls (by rfl)) ?_
  refine aj_aload_n (q := 1) (i := 0) dX10_same_0 rfl rfl rfl ?_
  refine aj_iconst (q := 2) (v := 0) dX10_same_1 rfl (by decide) ?_
  refine aj_putI (q := 5) (f := 0) okM fp_X10_1 dX10_same_2 rfl lM_0 rfl rfl ?_
  refine aj_aload_n (q := 6) (i := 0) dX10_same_5 rfl rfl rfl ?_
  refine aj_iload_n (q := 7) (i := 1) dX10_same_6 rfl rfl rfl ?_
  refine aj_iload_n (q := 8) (i := 3) dX10_same_7 rfl rfl rfl ?_
  refine aj_callV (q := 11) (As := [_, _]) cl_X10_219 mk_X10_isRun dX10_same_8 rfl lM_0 rfl rfl (Nat.le_of_ble_eq_true rfl) (sp_isRun0 ?_)
  refine aj_ifB_eq (q := 14) (tgt := 24) dX10_same_11 rfl (by decide) (fun c => absurd (hr1.symm.trans c) (by decide)) (fun _ => ?_)
  refine aj_aload_n (q := 15) (i := 0) dX10_same_14 rfl rfl rfl ?_
  refine aj_iload_n (q := 16) (i := 1) dX10_same_15 rfl rfl rfl ?_
  refine aj_iload (q := 18) (i := 4) dX10_same_16 rfl rfl ?_
  refine aj_callV (q := 21) (As := [_, _]) cl_X10_219 mk_X10_isRun dX10_same_18 rfl lM_0 rfl rfl (Nat.le_of_ble_eq_true rfl) (sp_isRun0 ?_)
  refine aj_ifB_ne (q := 24) (tgt := 27) dX10_same_21 rfl (by decide) (fun _ => ?_) (fun c => absurd (hr2.symm.trans c) (by decide))
  refine aj_aload_n (q := 28) (i := 0) dX10_same_27 rfl rfl rfl ?_
  refine aj_getR (q := 31) fl_X10_77 dX10_same_28 rfl lM_0 rfl ?_
  refine aj_iconst (q := 32) (v := 0) dX10_same_31 rfl (by decide) ?_
  refine aj_aload_n (q := 33) (i := 0) dX10_same_32 rfl rfl rfl ?_
  refine aj_iload_n (q := 34) (i := 1) dX10_same_33 rfl rfl rfl ?_
  refine aj_iload_n (q := 35) (i := 2) dX10_same_34 rfl rfl rfl ?_
  refine aj_iload_n (q := 36) (i := 3) dX10_same_35 rfl rfl rfl ?_
  refine aj_callV (q := 39) (As := [_, _, _]) cl_X10_222 mk_X10_runs dX10_same_36 rfl lM_0 rfl rfl (Nat.le_of_ble_eq_true rfl) (sp_X10_runs hm hMR hend he hin ?_)
  refine aj_iastore (q := 40) (f := 2100) okM dX10_same_39 rfl lM_21 rfl (vp_in_iff.mpr (by decide)) ?_
  refine aj_aload_n (q := 41) (i := 0) dX10_same_40 rfl rfl rfl ?_
  refine aj_getR (q := 44) fl_X10_77 dX10_same_41 rfl lM_0 rfl ?_
  refine aj_iconst (q := 45) (v := 1) dX10_same_44 rfl (by decide) ?_
  refine aj_aload_n (q := 46) (i := 0) dX10_same_45 rfl rfl rfl ?_
  refine aj_getI (q := 49) (f := 27) fl_X10_112 dX10_same_46 rfl lM_0 rfl rfl ?_
  refine aj_iastore (q := 50) (f := 2100) okM dX10_same_49 rfl lM_21 rfl (vp_in_iff.mpr (by decide)) ?_
  refine aj_aload_n (q := 51) (i := 0) dX10_same_50 rfl rfl rfl ?_
  refine aj_getR (q := 54) fl_X10_77 dX10_same_51 rfl lM_0 rfl ?_
  refine aj_iconst (q := 55) (v := 2) dX10_same_54 rfl (by decide) ?_
  refine aj_aload_n (q := 56) (i := 0) dX10_same_55 rfl rfl rfl ?_
  refine aj_getI (q := 59) (f := 28) fl_X10_115 dX10_same_56 rfl lM_0 rfl rfl ?_
  refine aj_iastore (q := 60) (f := 2100) okM dX10_same_59 rfl lM_21 rfl (vp_in_iff.mpr (by decide)) ?_
  refine aj_aload_n (q := 61) (i := 0) dX10_same_60 rfl rfl rfl ?_
  refine aj_getR (q := 64) fl_X10_77 dX10_same_61 rfl lM_0 rfl ?_
  refine aj_iconst (q := 65) (v := 3) dX10_same_64 rfl (by decide) ?_
  refine aj_aload_n (q := 66) (i := 0) dX10_same_65 rfl rfl rfl ?_
  refine aj_getI (q := 69) (f := 23) fl_X10_168 dX10_same_66 rfl lM_0 rfl rfl ?_
  refine aj_iastore (q := 70) (f := 2100) okM dX10_same_69 rfl lM_21 rfl (vp_in_iff.mpr (by decide)) ?_
  refine aj_iconst (q := 71) (v := 0) dX10_same_70 rfl (by decide) ?_
  refine aj_istore (q := 73) (i := 5) (ls' := [_, _, _, _, _, _, _, _, _]) dX10_same_71 rfl (by decide) rfl ?_
  refine same_l1 (M1 := gRunE M1' e1) (e1 := e1) (fun S1 hD1 hF1 => ?_) 8 0 _ (by omega) (((((Df.rf.to 2100 _ _).to 2100 _ _).to 2100 _ _).to 2100 _ _).mono rfl) ⟨rfl, rfl, rfl, rfl, fun i hi => by omega⟩
  refine aj_iconst (q := 103) (v := 0) dX10_same_102 rfl (by decide) ?_
  refine aj_istore (q := 105) (i := 5) (ls' := [_, _, _, _, _, _, _, _, _]) dX10_same_103 rfl (by decide) rfl ?_
  refine aj_iconst (q := 106) (v := 0) dX10_same_105 rfl (by decide) ?_
  refine aj_istore (q := 108) (i := 6) (ls' := [_, _, _, _, _, _, _, _, _]) dX10_same_106 rfl (by decide) rfl ?_
  refine same_l2 (M1 := gRunE M1' e1) (e1 := e1) hok hN (fun S2 z7 hD2 hF2 => ?_) 4 0 S1 _ (by omega) hD1 ⟨hF1, fun q hq => by omega⟩
  obtain ⟨j2, M', g1, g2, g3, g4, g5, g6, g7⟩ := h2 S2 hD2
  have dE : Df [1500, 28, 27, 26] M' (gRunE M' e2) := df_gRunE
  have hF3 : Fst2 (gRunE M1' e1) e1 4 (gRunE M' e2) := ⟨hF2.1.ix (by omega) (fun j _ => by rw [dE.at 2100 j rfl, g4]), fun q hq => (hF2.2 q hq).ix (by rw [dE.at 2100 _ rfl, g4]) (fun i _ => by rw [dE.at 2200 _ rfl, g5])⟩
  have hok2 : gRowOk (gRunE M' e2) := g6.df dE rfl
  have hf0 : S2 2100 (Int32.toNatClampNeg 0) = e1 := hF2.1.1
  have hf1 : gRunE M' e2 2100 (Int32.toNatClampNeg 1) = gRunE M1' e1 27 0 := hF3.1.2.1
  have hf2 : gRunE M' e2 2100 (Int32.toNatClampNeg 2) = gRunE M1' e1 28 0 := hF3.1.2.2.1
  have hf3 : gRunE M' e2 2100 (Int32.toNatClampNeg 3) = gRunE M1' e1 23 0 := hF3.1.2.2.2.1
  have hnext : ∀ bb : Bool, (bb = true ↔ EqA (gRunE M1' e1) (gRunE M' e2) e1 e2) → AJ (d + 7) kX10_same layM 235 [some (.ref 0), some (.int m), some (.int x), some (.int b), some (.int o), some (.int (nI (offN (lenN (gRunE M1' e1)) 4))), some (.int (nI 4)), z7, none] [.int (bi bb)] (gRunE M' e2) Q := by
    intro bb hbb
    refine aj_istore (q := 237) (i := 6) (ls' := [_, _, _, _, _, _, _, _, _]) dX10_same_235 rfl (by decide) rfl ?_
    refine aj_iconst (q := 238) (v := 0) dX10_same_237 rfl (by decide) ?_
    refine aj_istore (q := 240) (i := 7) (ls' := [_, _, _, _, _, _, _, _, _]) dX10_same_238 rfl (by decide) rfl ?_
    refine same_l5 (M1 := gRunE M1' e1) (M2 := gRunE M' e2) (e1 := e1) (A := EqA (gRunE M1' e1) (gRunE M' e2) e1 e2) hF3 (fun S3 bb3 hD3 hb3 => ?_) 8 0 _ bb (by omega) (Df.rf.mono rfl) ⟨fun h => ⟨hbb.mp h, fun k hk => by omega⟩, fun h => hbb.mpr h.1⟩
    refine aj_iconst (q := 285) (v := 0) dX10_same_284 rfl (by decide) ?_
    refine aj_istore (q := 287) (i := 5) (ls' := [_, _, _, _, _, _, _, _, _]) dX10_same_285 rfl (by decide) rfl ?_
    refine aj_iconst (q := 288) (v := 0) dX10_same_287 rfl (by decide) ?_
    refine aj_istore (q := 290) (i := 7) (ls' := [_, _, _, _, _, _, _, _, _]) dX10_same_288 rfl (by decide) rfl ?_
    exact same_l6 (M1 := gRunE M1' e1) (M2 := gRunE M' e2) (e1 := e1) (A := EqA (gRunE M1' e1) (gRunE M' e2) e1 e2 ∧ ∀ k, k < 8 → gRunE M1' e1 700 k = gRunE M' e2 700 k) hok2 hok hN hF3 (fun S4 bb4 hD4 hb4 => hQ S2 M' S4 bb4 hD2 g7 hD4 hb4) 4 0 S3 bb3 _ _ (by omega) hD3 ⟨fun h => ⟨hb3.mp h, fun q hq => by omega⟩, fun h => hb3.mpr h.1⟩ (fun _ => rfl)
  refine aj_aload_n (q := 175) (i := 0) dX10_same_174 rfl rfl rfl ?_
  refine aj_getR (q := 178) fl_X10_77 dX10_same_175 rfl lM_0 rfl ?_
  refine aj_iconst (q := 179) (v := 0) dX10_same_178 rfl (by decide) ?_
  refine aj_iaload (q := 180) (f := 2100) dX10_same_179 rfl lM_21 rfl (vp_in_iff.mpr (by decide)) ?_
  try simp only [hf0, hf1, hf2, hf3]
  refine aj_aload_n (q := 181) (i := 0) dX10_same_180 rfl rfl rfl ?_
  refine aj_iload_n (q := 182) (i := 1) dX10_same_181 rfl rfl rfl ?_
  refine aj_iload_n (q := 183) (i := 2) dX10_same_182 rfl rfl rfl ?_
  refine aj_iload (q := 185) (i := 4) dX10_same_183 rfl rfl ?_
  refine aj_callV (q := 188) (As := [_, _, _]) cl_X10_222 mk_X10_runs dX10_same_185 rfl lM_0 rfl rfl (Nat.le_of_ble_eq_true rfl) (sp_X10_runs hm g1 g2 g3 hin2 ?_)
  refine aj_icmp_ne (q := 191) (tgt := 234) dX10_same_188 rfl (by decide) (fun c188_1 => ?_) (fun c188_1 => ?_)
  · refine aj_iconst (q := 235) (v := 0) dX10_same_234 rfl (by decide) ?_
    first
      | exact hnext true ⟨fun _ => ⟨by assumption, by assumption, by assumption, by assumption⟩, fun _ => rfl⟩
      | exact hnext false ⟨fun h => (by cases h), fun h => absurd h.1 (by assumption)⟩
      | exact hnext false ⟨fun h => (by cases h), fun h => absurd h.2.1 (by assumption)⟩
      | exact hnext false ⟨fun h => (by cases h), fun h => absurd h.2.2.1 (by assumption)⟩
      | exact hnext false ⟨fun h => (by cases h), fun h => absurd h.2.2.2 (by assumption)⟩
  · refine aj_aload_n (q := 192) (i := 0) dX10_same_191 rfl rfl rfl ?_
    refine aj_getR (q := 195) fl_X10_77 dX10_same_192 rfl lM_0 rfl ?_
    refine aj_iconst (q := 196) (v := 1) dX10_same_195 rfl (by decide) ?_
    refine aj_iaload (q := 197) (f := 2100) dX10_same_196 rfl lM_21 rfl (vp_in_iff.mpr (by decide)) ?_
    try simp only [hf0, hf1, hf2, hf3]
    refine aj_aload_n (q := 198) (i := 0) dX10_same_197 rfl rfl rfl ?_
    refine aj_getI (q := 201) (f := 27) fl_X10_112 dX10_same_198 rfl lM_0 rfl rfl ?_
    try simp only [hf0, hf1, hf2, hf3]
    refine aj_icmp_ne (q := 204) (tgt := 234) dX10_same_201 rfl (by decide) (fun c201_2 => ?_) (fun c201_2 => ?_)
    · refine aj_iconst (q := 235) (v := 0) dX10_same_234 rfl (by decide) ?_
      first
        | exact hnext true ⟨fun _ => ⟨by assumption, by assumption, by assumption, by assumption⟩, fun _ => rfl⟩
        | exact hnext false ⟨fun h => (by cases h), fun h => absurd h.1 (by assumption)⟩
        | exact hnext false ⟨fun h => (by cases h), fun h => absurd h.2.1 (by assumption)⟩
        | exact hnext false ⟨fun h => (by cases h), fun h => absurd h.2.2.1 (by assumption)⟩
        | exact hnext false ⟨fun h => (by cases h), fun h => absurd h.2.2.2 (by assumption)⟩
    · refine aj_aload_n (q := 205) (i := 0) dX10_same_204 rfl rfl rfl ?_
      refine aj_getR (q := 208) fl_X10_77 dX10_same_205 rfl lM_0 rfl ?_
      refine aj_iconst (q := 209) (v := 2) dX10_same_208 rfl (by decide) ?_
      refine aj_iaload (q := 210) (f := 2100) dX10_same_209 rfl lM_21 rfl (vp_in_iff.mpr (by decide)) ?_
      try simp only [hf0, hf1, hf2, hf3]
      refine aj_aload_n (q := 211) (i := 0) dX10_same_210 rfl rfl rfl ?_
      refine aj_getI (q := 214) (f := 28) fl_X10_115 dX10_same_211 rfl lM_0 rfl rfl ?_
      try simp only [hf0, hf1, hf2, hf3]
      refine aj_icmp_ne (q := 217) (tgt := 234) dX10_same_214 rfl (by decide) (fun c214_3 => ?_) (fun c214_3 => ?_)
      · refine aj_iconst (q := 235) (v := 0) dX10_same_234 rfl (by decide) ?_
        first
          | exact hnext true ⟨fun _ => ⟨by assumption, by assumption, by assumption, by assumption⟩, fun _ => rfl⟩
          | exact hnext false ⟨fun h => (by cases h), fun h => absurd h.1 (by assumption)⟩
          | exact hnext false ⟨fun h => (by cases h), fun h => absurd h.2.1 (by assumption)⟩
          | exact hnext false ⟨fun h => (by cases h), fun h => absurd h.2.2.1 (by assumption)⟩
          | exact hnext false ⟨fun h => (by cases h), fun h => absurd h.2.2.2 (by assumption)⟩
      · refine aj_aload_n (q := 218) (i := 0) dX10_same_217 rfl rfl rfl ?_
        refine aj_getR (q := 221) fl_X10_77 dX10_same_218 rfl lM_0 rfl ?_
        refine aj_iconst (q := 222) (v := 3) dX10_same_221 rfl (by decide) ?_
        refine aj_iaload (q := 223) (f := 2100) dX10_same_222 rfl lM_21 rfl (vp_in_iff.mpr (by decide)) ?_
        try simp only [hf0, hf1, hf2, hf3]
        refine aj_aload_n (q := 224) (i := 0) dX10_same_223 rfl rfl rfl ?_
        refine aj_getI (q := 227) (f := 23) fl_X10_168 dX10_same_224 rfl lM_0 rfl rfl ?_
        try simp only [hf0, hf1, hf2, hf3]
        refine aj_icmp_ne (q := 230) (tgt := 234) dX10_same_227 rfl (by decide) (fun c227_4 => ?_) (fun c227_4 => ?_)
        · refine aj_iconst (q := 235) (v := 0) dX10_same_234 rfl (by decide) ?_
          first
            | exact hnext true ⟨fun _ => ⟨by assumption, by assumption, by assumption, by assumption⟩, fun _ => rfl⟩
            | exact hnext false ⟨fun h => (by cases h), fun h => absurd h.1 (by assumption)⟩
            | exact hnext false ⟨fun h => (by cases h), fun h => absurd h.2.1 (by assumption)⟩
            | exact hnext false ⟨fun h => (by cases h), fun h => absurd h.2.2.1 (by assumption)⟩
            | exact hnext false ⟨fun h => (by cases h), fun h => absurd h.2.2.2 (by assumption)⟩
        · refine aj_iconst (q := 231) (v := 1) dX10_same_230 rfl (by decide) ?_
          refine aj_goto (tgt := 235) dX10_same_231 (by decide) ?_
          first
            | exact hnext true ⟨fun _ => ⟨by assumption, by assumption, by assumption, by assumption⟩, fun _ => rfl⟩
            | exact hnext false ⟨fun h => (by cases h), fun h => absurd h.1 (by assumption)⟩
            | exact hnext false ⟨fun h => (by cases h), fun h => absurd h.2.1 (by assumption)⟩
            | exact hnext false ⟨fun h => (by cases h), fun h => absurd h.2.2.1 (by assumption)⟩
            | exact hnext false ⟨fun h => (by cases h), fun h => absurd h.2.2.2 (by assumption)⟩
theorem sp_X10_same_no {d : Nat} {S : Sx} {Q : Option Value → Sx → Prop} {m x b o : Int32} (h : gIsRun S m b = false ∨ gIsRun S m o = false) (hQ : Q (some (.int (-2))) (sw S 0 0 0)) : CC (d + 7) kX10_same layM [.ref 0, .int m, .int x, .int b, .int o] S Q := by
  refine cc_intro [some _, some _, some _, some _, some _, none, none, none, none] (by decide) (cc_cat (by rfl)) (Nat.le_of_ble_eq_true rfl) (cc_ls (by rfl)) ?_
  refine aj_aload_n (q := 1) (i := 0) dX10_same_0 rfl rfl rfl ?_
  refine aj_iconst (q := 2) (v := 0) dX10_same_1 rfl (by decide) ?_
  refine aj_putI (q := 5) (f := 0) okM fp_X10_1 dX10_same_2 rfl lM_0 rfl rfl ?_
  refine aj_aload_n (q := 6) (i := 0) dX10_same_5 rfl rfl rfl ?_
  refine aj_iload_n (q := 7) (i := 1) dX10_same_6 rfl rfl rfl ?_
  refine aj_iload_n (q := 8) (i := 3) dX10_same_7 rfl rfl rfl ?_
  refine aj_callV (q := 11) (As := [_, _]) cl_X10_219 mk_X10_isRun dX10_same_8 rfl lM_0 rfl rfl (Nat.le_of_ble_eq_true rfl) (sp_isRun0 ?_)
  refine aj_ifB_eq (q := 14) (tgt := 24) dX10_same_11 rfl (by decide) (fun c11_1 => ?_) (fun c11_1 => ?_)
  · refine aj_bipush (q := 26) (v := (-2)) dX10_same_24 rfl (by decide) ?_
    refine aj_ireturn dX10_same_26 rfl ?_
    exact hQ
  · refine aj_aload_n (q := 15) (i := 0) dX10_same_14 rfl rfl rfl ?_
    refine aj_iload_n (q := 16) (i := 1) dX10_same_15 rfl rfl rfl ?_
    refine aj_iload (q := 18) (i := 4) dX10_same_16 rfl rfl ?_
    refine aj_callV (q := 21) (As := [_, _]) cl_X10_219 mk_X10_isRun dX10_same_18 rfl lM_0 rfl rfl (Nat.le_of_ble_eq_true rfl) (sp_isRun0 ?_)
    refine aj_ifB_ne (q := 24) (tgt := 27) dX10_same_21 rfl (by decide) (fun c21_2 => ?_) (fun c21_2 => ?_)
    · rcases h with q | q
      · rw [show gIsRun S m b = true by assumption] at q
        cases q
      · rw [show gIsRun S m o = true by assumption] at q
        cases q
    · refine aj_bipush (q := 26) (v := (-2)) dX10_same_24 rfl (by decide) ?_
      refine aj_ireturn dX10_same_26 rfl ?_
      exact hQ
