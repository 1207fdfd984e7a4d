section LAWK
variable {p : Program} {l : Launch} {e : Env} {s : State} {m : MethodId} {below : List Frame} {meth : Method} {c : Code} {b L : Nat} {xs : Nat → Int32} {dC : Nat → ClassId} {dI : Nat → Nat → Nat} {cA cL : ClassId} {aX aM : List Nat} {o : Nat} {S M : Sx} {f : Nat → Int64} {H : Heap} {locs : List Loc} {ls : Array Slot} {j : Nat}
/-- the locals of the loop -/
abbrev lvL (b o : Nat) (aX aM : List Nat) (j : Nat) : List (Nat × Value) := [(4, .int (nI (5 * j))), (3, .ref o), (2, .ref (aM.getD 0 0)), (1, .ref (aX.getD 0 0)), (0, .ref b)]
/-- from the end of a turn all is well -/
def At539 (p : Program) (l : Launch) (e : Env) (s : State) (m : MethodId) (below : List Frame) (meth : Method) (c : Code) (b : Nat) (dC : Nat → ClassId) (dI : Nat → Nat → Nat) (cA cL : ClassId) (aX aM : List Nat) (o j : Nat) : Prop :=
  ∀ (S M : Sx) (f : Nat → Int64) (H : Heap) (locs : List Loc) (ls : Array Slot), Rel S M → LI dC dI cA cL aX aM o s S M f H locs → lv_has ls 7 (lvL b o aX aM j) → W p l e room_1 s m #[.ref b] below meth c H locs (67 + (j + 1)) (11300 + 8 * (j + 1)) (lw_Z below #[.ref b] s) (F0 m 539 ls [])
theorem sc_in {k : Nat} {v : Int32} (hk : v = nI k) (hk5 : k < 5) (hj : 5 * j + 5 ≤ L) (hL : L ≤ 2560) : vp_in (nI (5 * j) + v) L := by
  subst hk
  rw [nI_add]
  intro h
  rcases h with h | h
  · have h1 := Int32.lt_iff_toInt_lt.mp h
    rw [nI_toInt (by omega)] at h1
    have : (0 : Int32).toInt = 0 := rfl
    omega
  · rw [nI_clamp (by omega)] at h
    omega
theorem sc_in0 (hj : 5 * j + 5 ≤ L) (hL : L ≤ 2560) : vp_in (nI (5 * j)) L := by
  intro h
  rcases h with h | h
  · have h1 := Int32.lt_iff_toInt_lt.mp h
    rw [nI_toInt (by omega)] at h1
    have : (0 : Int32).toInt = 0 := rfl
    omega
  · rw [nI_clamp (by omega)] at h
    omega
theorem lg_same (x : Int64) : lg_cmp x x = 0 := by
  unfold lg_cmp
  rw [if_neg (by exact Int64.lt_irrefl), if_pos rfl]
set_option maxHeartbeats 4000000 in
theorem case_0 (hLC : LC p l s m meth c b L xs dC dI cA cL aX aM o) (hj : 5 * j + 5 ≤ L) (hR : Rel S M) (hI : LI dC dI cA cL aX aM o s S M f H locs) (hl : lv_has ls 7 (lvL b o aX aM j)) (hend : At539 p l e s m below meth c b dC dI cA cL aX aM o j) : W p l e room_1 s m #[.ref b] below meth c H locs (67 + j) (11300 + 8 * j) (lw_Z below #[.ref b] s) (F0 m 100 ls []) := by
  have hAt := hLC.1
  have hx := hAt.1
  have hb := hAt.2.1
  have hL := hLC.2.2.2.2.2.2.2
  refine lv_aload_n hx hb dL_law_100 rfl (lv_at hl 3 rfl) ?_
  refine lv_aload_n hx hb dL_law_101 rfl (lv_at hl 4 rfl) ?_
  refine lv_iload hx hb dL_law_102 (lv_at hl 0 rfl) ?_
  refine lv_iconst (v := 1) hx hb dL_law_104 (by decide) ?_
  refine lv_iadd hx hb dL_law_105 ?_
  refine va_sld hx hb hAt.2.2.2.2.2.2.1 hAt.2.2.2.2.2.2.2.1 (Nat.not_le.mpr hAt.2.2.2.2.2.2.2.1) hI.2.2.2 (sc_in (k := 1) rfl (by decide) hj hL) dL_law_106 ?_
  refine lv_aload_n hx hb dL_law_107 rfl (lv_at hl 4 rfl) ?_
  refine lv_iload hx hb dL_law_108 (lv_at hl 0 rfl) ?_
  refine lv_iconst (v := 2) hx hb dL_law_110 (by decide) ?_
  refine lv_iadd hx hb dL_law_111 ?_
  refine va_sld hx hb hAt.2.2.2.2.2.2.1 hAt.2.2.2.2.2.2.2.1 (Nat.not_le.mpr hAt.2.2.2.2.2.2.2.1) hI.2.2.2 (sc_in (k := 2) rfl (by decide) hj hL) dL_law_112 ?_
  refine lv_aload_n hx hb dL_law_113 rfl (lv_at hl 4 rfl) ?_
  refine lv_iload hx hb dL_law_114 (lv_at hl 0 rfl) ?_
  refine lv_iconst (v := 3) hx hb dL_law_116 (by decide) ?_
  refine lv_iadd hx hb dL_law_117 ?_
  refine va_sld hx hb hAt.2.2.2.2.2.2.1 hAt.2.2.2.2.2.2.2.1 (Nat.not_le.mpr hAt.2.2.2.2.2.2.2.1) hI.2.2.2 (sc_in (k := 3) rfl (by decide) hj hL) dL_law_118 ?_
  refine lv_aload_n hx hb dL_law_119 rfl (lv_at hl 4 rfl) ?_
  refine lv_iload hx hb dL_law_120 (lv_at hl 0 rfl) ?_
  refine lv_iconst (v := 4) hx hb dL_law_122 (by decide) ?_
  refine lv_iadd hx hb dL_law_123 ?_
  refine va_sld hx hb hAt.2.2.2.2.2.2.1 hAt.2.2.2.2.2.2.2.1 (Nat.not_le.mpr hAt.2.2.2.2.2.2.2.1) hI.2.2.2 (sc_in (k := 4) rfl (by decide) hj hL) dL_law_124 ?_
  obtain ⟨v, S1, G1, hX1, hM1⟩ := pair_make hR (xs (nI (5 * j) + 1).toNatClampNeg) (xs (nI (5 * j) + 2).toNatClampNeg) (xs (nI (5 * j) + 3).toNatClampNeg) (xs (nI (5 * j) + 4).toNatClampNeg)
  refine lw_cX (as := [.int (xs (nI (5 * j) + 1).toNatClampNeg), .int (xs (nI (5 * j) + 2).toNatClampNeg), .int (xs (nI (5 * j) + 3).toNatClampNeg), .int (xs (nI (5 * j) + 4).toNatClampNeg)]) (rest := []) hLC (hX1 0 (fun r S' => G1 ∧ r = some (.int v) ∧ S' = S1) (fun g => ⟨g, rfl, rfl⟩)) cl_L_21 mk_X9_make rfl rfl dL_law_125 (Nat.le_of_ble_eq_true rfl) hl.1 hI (by omega) (by omega) (fun r S' H locs hQ hI => ?_)
  obtain ⟨hg, rfl, rfl⟩ := hQ
  show W _ _ _ _ _ _ _ _ _ _ _ _ _ _ _ (F0 m 128 ls [.int v])
  refine lv_aload_n hx hb dL_law_128 rfl (lv_at hl 2 rfl) ?_
  refine lv_aload_n hx hb dL_law_129 rfl (lv_at hl 4 rfl) ?_
  refine lv_iload hx hb dL_law_130 (lv_at hl 0 rfl) ?_
  refine lv_iconst (v := 1) hx hb dL_law_132 (by decide) ?_
  refine lv_iadd hx hb dL_law_133 ?_
  refine va_sld hx hb hAt.2.2.2.2.2.2.1 hAt.2.2.2.2.2.2.2.1 (Nat.not_le.mpr hAt.2.2.2.2.2.2.2.1) hI.2.2.2 (sc_in (k := 1) rfl (by decide) hj hL) dL_law_134 ?_
  refine lv_aload_n hx hb dL_law_135 rfl (lv_at hl 4 rfl) ?_
  refine lv_iload hx hb dL_law_136 (lv_at hl 0 rfl) ?_
  refine lv_iconst (v := 2) hx hb dL_law_138 (by decide) ?_
  refine lv_iadd hx hb dL_law_139 ?_
  refine va_sld hx hb hAt.2.2.2.2.2.2.1 hAt.2.2.2.2.2.2.2.1 (Nat.not_le.mpr hAt.2.2.2.2.2.2.2.1) hI.2.2.2 (sc_in (k := 2) rfl (by decide) hj hL) dL_law_140 ?_
  refine lv_aload_n hx hb dL_law_141 rfl (lv_at hl 4 rfl) ?_
  refine lv_iload hx hb dL_law_142 (lv_at hl 0 rfl) ?_
  refine lv_iconst (v := 3) hx hb dL_law_144 (by decide) ?_
  refine lv_iadd hx hb dL_law_145 ?_
  refine va_sld hx hb hAt.2.2.2.2.2.2.1 hAt.2.2.2.2.2.2.2.1 (Nat.not_le.mpr hAt.2.2.2.2.2.2.2.1) hI.2.2.2 (sc_in (k := 3) rfl (by decide) hj hL) dL_law_146 ?_
  refine lv_aload_n hx hb dL_law_147 rfl (lv_at hl 4 rfl) ?_
  refine lv_iload hx hb dL_law_148 (lv_at hl 0 rfl) ?_
  refine lv_iconst (v := 4) hx hb dL_law_150 (by decide) ?_
  refine lv_iadd hx hb dL_law_151 ?_
  refine va_sld hx hb hAt.2.2.2.2.2.2.1 hAt.2.2.2.2.2.2.2.1 (Nat.not_le.mpr hAt.2.2.2.2.2.2.2.1) hI.2.2.2 (sc_in (k := 4) rfl (by decide) hj hL) dL_law_152 ?_
  refine lw_cM (as := [.int (xs (nI (5 * j) + 1).toNatClampNeg), .int (xs (nI (5 * j) + 2).toNatClampNeg), .int (xs (nI (5 * j) + 3).toNatClampNeg), .int (xs (nI (5 * j) + 4).toNatClampNeg)]) (rest := [.int v]) hLC (hM1 hg 0 (fun r M' => r = some (.int v) ∧ Rel S' M') (fun M' h => ⟨rfl, h⟩)) cl_L_25 mk_X10_make rfl rfl dL_law_153 (Nat.le_of_ble_eq_true rfl) hl.1 hI (by omega) (by omega) (fun r M' H locs hQ hI => ?_)
  obtain ⟨rfl, hR⟩ := hQ
  show W _ _ _ _ _ _ _ _ _ _ _ _ _ _ _ (F0 m 156 ls [.int v, .int v])
  refine lv_icmp_eq (tgt := 539) hx hb dL_law_156 (by decide) (fun _ => ?_) (fun h => absurd rfl h)
  refine W.widen (k := 67 + (j + 1)) (n := 11300 + 8 * (j + 1)) (by omega) (by omega) ?_
  exact hend _ _ _ _ _ _ hR hI hl
set_option maxHeartbeats 4000000 in
theorem case_1 (hLC : LC p l s m meth c b L xs dC dI cA cL aX aM o) (hj : 5 * j + 5 ≤ L) (hR : Rel S M) (hI : LI dC dI cA cL aX aM o s S M f H locs) (hl : lv_has ls 7 (lvL b o aX aM j)) (hend : At539 p l e s m below meth c b dC dI cA cL aX aM o j) : W p l e room_1 s m #[.ref b] below meth c H locs (67 + j) (11300 + 8 * j) (lw_Z below #[.ref b] s) (F0 m 161 ls []) := by
  have hAt := hLC.1
  have hx := hAt.1
  have hb := hAt.2.1
  have hL := hLC.2.2.2.2.2.2.2
  refine lv_aload_n hx hb dL_law_161 rfl (lv_at hl 3 rfl) ?_
  obtain ⟨v, S1, G1, hX1, hM1⟩ := pair_drop hR
  refine lw_cX (as := []) (rest := []) hLC (hX1 0 (fun r S' => G1 ∧ r = some (.int v) ∧ S' = S1) (fun g => ⟨g, rfl, rfl⟩)) cl_L_26 mk_X9_drop rfl rfl dL_law_162 (Nat.le_of_ble_eq_true rfl) hl.1 hI (by omega) (by omega) (fun r S' H locs hQ hI => ?_)
  obtain ⟨hg, rfl, rfl⟩ := hQ
  show W _ _ _ _ _ _ _ _ _ _ _ _ _ _ _ (F0 m 165 ls [.int v])
  refine lv_aload_n hx hb dL_law_165 rfl (lv_at hl 2 rfl) ?_
  refine lw_cM (as := []) (rest := [.int v]) hLC (hM1 hg 0 (fun r M' => r = some (.int v) ∧ Rel S' M') (fun M' h => ⟨rfl, h⟩)) cl_L_30 mk_X10_drop rfl rfl dL_law_166 (Nat.le_of_ble_eq_true rfl) hl.1 hI (by omega) (by omega) (fun r M' H locs hQ hI => ?_)
  obtain ⟨rfl, hR⟩ := hQ
  show W _ _ _ _ _ _ _ _ _ _ _ _ _ _ _ (F0 m 169 ls [.int v, .int v])
  refine lv_icmp_eq (tgt := 539) hx hb dL_law_169 (by decide) (fun _ => ?_) (fun h => absurd rfl h)
  refine W.widen (k := 67 + (j + 1)) (n := 11300 + 8 * (j + 1)) (by omega) (by omega) ?_
  exact hend _ _ _ _ _ _ hR hI hl
set_option maxHeartbeats 4000000 in
theorem case_2 (hLC : LC p l s m meth c b L xs dC dI cA cL aX aM o) (hj : 5 * j + 5 ≤ L) (hR : Rel S M) (hI : LI dC dI cA cL aX aM o s S M f H locs) (hl : lv_has ls 7 (lvL b o aX aM j)) (hend : At539 p l e s m below meth c b dC dI cA cL aX aM o j) : W p l e room_1 s m #[.ref b] below meth c H locs (67 + j) (11300 + 8 * j) (lw_Z below #[.ref b] s) (F0 m 174 ls []) := by
  have hAt := hLC.1
  have hx := hAt.1
  have hb := hAt.2.1
  have hL := hLC.2.2.2.2.2.2.2
  refine lv_aload_n hx hb dL_law_174 rfl (lv_at hl 3 rfl) ?_
  refine lv_aload_n hx hb dL_law_175 rfl (lv_at hl 4 rfl) ?_
  refine lv_iload hx hb dL_law_176 (lv_at hl 0 rfl) ?_
  refine lv_iconst (v := 1) hx hb dL_law_178 (by decide) ?_
  refine lv_iadd hx hb dL_law_179 ?_
  refine va_sld hx hb hAt.2.2.2.2.2.2.1 hAt.2.2.2.2.2.2.2.1 (Nat.not_le.mpr hAt.2.2.2.2.2.2.2.1) hI.2.2.2 (sc_in (k := 1) rfl (by decide) hj hL) dL_law_180 ?_
  refine lv_aload_n hx hb dL_law_181 rfl (lv_at hl 4 rfl) ?_
  refine lv_iload hx hb dL_law_182 (lv_at hl 0 rfl) ?_
  refine lv_iconst (v := 2) hx hb dL_law_184 (by decide) ?_
  refine lv_iadd hx hb dL_law_185 ?_
  refine va_sld hx hb hAt.2.2.2.2.2.2.1 hAt.2.2.2.2.2.2.2.1 (Nat.not_le.mpr hAt.2.2.2.2.2.2.2.1) hI.2.2.2 (sc_in (k := 2) rfl (by decide) hj hL) dL_law_186 ?_
  obtain ⟨v, S1, G1, hX1, hM1⟩ := pair_body hR (xs (nI (5 * j) + 1).toNatClampNeg) (xs (nI (5 * j) + 2).toNatClampNeg)
  refine lw_cX (as := [.int (xs (nI (5 * j) + 1).toNatClampNeg), .int (xs (nI (5 * j) + 2).toNatClampNeg)]) (rest := []) hLC (hX1 0 (fun r S' => G1 ∧ r = some (.int v) ∧ S' = S1) (fun g => ⟨g, rfl, rfl⟩)) cl_L_31 mk_X9_body rfl rfl dL_law_187 (Nat.le_of_ble_eq_true rfl) hl.1 hI (by omega) (by omega) (fun r S' H locs hQ hI => ?_)
  obtain ⟨hg, rfl, rfl⟩ := hQ
  show W _ _ _ _ _ _ _ _ _ _ _ _ _ _ _ (F0 m 190 ls [.int v])
  refine lv_aload_n hx hb dL_law_190 rfl (lv_at hl 2 rfl) ?_
  refine lv_aload_n hx hb dL_law_191 rfl (lv_at hl 4 rfl) ?_
  refine lv_iload hx hb dL_law_192 (lv_at hl 0 rfl) ?_
  refine lv_iconst (v := 1) hx hb dL_law_194 (by decide) ?_
  refine lv_iadd hx hb dL_law_195 ?_
  refine va_sld hx hb hAt.2.2.2.2.2.2.1 hAt.2.2.2.2.2.2.2.1 (Nat.not_le.mpr hAt.2.2.2.2.2.2.2.1) hI.2.2.2 (sc_in (k := 1) rfl (by decide) hj hL) dL_law_196 ?_
  refine lv_aload_n hx hb dL_law_197 rfl (lv_at hl 4 rfl) ?_
  refine lv_iload hx hb dL_law_198 (lv_at hl 0 rfl) ?_
  refine lv_iconst (v := 2) hx hb dL_law_200 (by decide) ?_
  refine lv_iadd hx hb dL_law_201 ?_
  refine va_sld hx hb hAt.2.2.2.2.2.2.1 hAt.2.2.2.2.2.2.2.1 (Nat.not_le.mpr hAt.2.2.2.2.2.2.2.1) hI.2.2.2 (sc_in (k := 2) rfl (by decide) hj hL) dL_law_202 ?_
  refine lw_cM (as := [.int (xs (nI (5 * j) + 1).toNatClampNeg), .int (xs (nI (5 * j) + 2).toNatClampNeg)]) (rest := [.int v]) hLC (hM1 hg 0 (fun r M' => r = some (.int v) ∧ Rel S' M') (fun M' h => ⟨rfl, h⟩)) cl_L_34 mk_X10_body rfl rfl dL_law_203 (Nat.le_of_ble_eq_true rfl) hl.1 hI (by omega) (by omega) (fun r M' H locs hQ hI => ?_)
  obtain ⟨rfl, hR⟩ := hQ
  show W _ _ _ _ _ _ _ _ _ _ _ _ _ _ _ (F0 m 206 ls [.int v, .int v])
  refine lv_icmp_eq (tgt := 539) hx hb dL_law_206 (by decide) (fun _ => ?_) (fun h => absurd rfl h)
  refine W.widen (k := 67 + (j + 1)) (n := 11300 + 8 * (j + 1)) (by omega) (by omega) ?_
  exact hend _ _ _ _ _ _ hR hI hl
set_option maxHeartbeats 4000000 in
theorem case_3 (hLC : LC p l s m meth c b L xs dC dI cA cL aX aM o) (hj : 5 * j + 5 ≤ L) (hR : Rel S M) (hI : LI dC dI cA cL aX aM o s S M f H locs) (hl : lv_has ls 7 (lvL b o aX aM j)) (hend : At539 p l e s m below meth c b dC dI cA cL aX aM o j) : W p l e room_1 s m #[.ref b] below meth c H locs (67 + j) (11300 + 8 * j) (lw_Z below #[.ref b] s) (F0 m 211 ls []) := by
  have hAt := hLC.1
  have hx := hAt.1
  have hb := hAt.2.1
  have hL := hLC.2.2.2.2.2.2.2
  refine lv_aload_n hx hb dL_law_211 rfl (lv_at hl 3 rfl) ?_
  refine lv_aload_n hx hb dL_law_212 rfl (lv_at hl 4 rfl) ?_
  refine lv_iload hx hb dL_law_213 (lv_at hl 0 rfl) ?_
  refine lv_iconst (v := 1) hx hb dL_law_215 (by decide) ?_
  refine lv_iadd hx hb dL_law_216 ?_
  refine va_sld hx hb hAt.2.2.2.2.2.2.1 hAt.2.2.2.2.2.2.2.1 (Nat.not_le.mpr hAt.2.2.2.2.2.2.2.1) hI.2.2.2 (sc_in (k := 1) rfl (by decide) hj hL) dL_law_217 ?_
  refine lv_aload_n hx hb dL_law_218 rfl (lv_at hl 4 rfl) ?_
  refine lv_iload hx hb dL_law_219 (lv_at hl 0 rfl) ?_
  refine lv_iconst (v := 2) hx hb dL_law_221 (by decide) ?_
  refine lv_iadd hx hb dL_law_222 ?_
  refine va_sld hx hb hAt.2.2.2.2.2.2.1 hAt.2.2.2.2.2.2.2.1 (Nat.not_le.mpr hAt.2.2.2.2.2.2.2.1) hI.2.2.2 (sc_in (k := 2) rfl (by decide) hj hL) dL_law_223 ?_
  refine lv_aload_n hx hb dL_law_224 rfl (lv_at hl 4 rfl) ?_
  refine lv_iload hx hb dL_law_225 (lv_at hl 0 rfl) ?_
  refine lv_iconst (v := 3) hx hb dL_law_227 (by decide) ?_
  refine lv_iadd hx hb dL_law_228 ?_
  refine va_sld hx hb hAt.2.2.2.2.2.2.1 hAt.2.2.2.2.2.2.2.1 (Nat.not_le.mpr hAt.2.2.2.2.2.2.2.1) hI.2.2.2 (sc_in (k := 3) rfl (by decide) hj hL) dL_law_229 ?_
  obtain ⟨v, S1, G1, hX1, hM1⟩ := pair_run hR (xs (nI (5 * j) + 1).toNatClampNeg) (xs (nI (5 * j) + 2).toNatClampNeg) (xs (nI (5 * j) + 3).toNatClampNeg)
  refine lw_cX (as := [.int (xs (nI (5 * j) + 1).toNatClampNeg), .int (xs (nI (5 * j) + 2).toNatClampNeg), .int (xs (nI (5 * j) + 3).toNatClampNeg)]) (rest := []) hLC (hX1 0 (fun r S' => G1 ∧ r = some (.int v) ∧ S' = S1) (fun g => ⟨g, rfl, rfl⟩)) cl_L_35 mk_X9_run rfl rfl dL_law_230 (Nat.le_of_ble_eq_true rfl) hl.1 hI (by omega) (by omega) (fun r S' H locs hQ hI => ?_)
  obtain ⟨hg, rfl, rfl⟩ := hQ
  show W _ _ _ _ _ _ _ _ _ _ _ _ _ _ _ (F0 m 233 ls [.int v])
  refine lv_aload_n hx hb dL_law_233 rfl (lv_at hl 2 rfl) ?_
  refine lv_aload_n hx hb dL_law_234 rfl (lv_at hl 4 rfl) ?_
  refine lv_iload hx hb dL_law_235 (lv_at hl 0 rfl) ?_
  refine lv_iconst (v := 1) hx hb dL_law_237 (by decide) ?_
  refine lv_iadd hx hb dL_law_238 ?_
  refine va_sld hx hb hAt.2.2.2.2.2.2.1 hAt.2.2.2.2.2.2.2.1 (Nat.not_le.mpr hAt.2.2.2.2.2.2.2.1) hI.2.2.2 (sc_in (k := 1) rfl (by decide) hj hL) dL_law_239 ?_
  refine lv_aload_n hx hb dL_law_240 rfl (lv_at hl 4 rfl) ?_
  refine lv_iload hx hb dL_law_241 (lv_at hl 0 rfl) ?_
  refine lv_iconst (v := 2) hx hb dL_law_243 (by decide) ?_
  refine lv_iadd hx hb dL_law_244 ?_
  refine va_sld hx hb hAt.2.2.2.2.2.2.1 hAt.2.2.2.2.2.2.2.1 (Nat.not_le.mpr hAt.2.2.2.2.2.2.2.1) hI.2.2.2 (sc_in (k := 2) rfl (by decide) hj hL) dL_law_245 ?_
  refine lv_aload_n hx hb dL_law_246 rfl (lv_at hl 4 rfl) ?_
  refine lv_iload hx hb dL_law_247 (lv_at hl 0 rfl) ?_
  refine lv_iconst (v := 3) hx hb dL_law_249 (by decide) ?_
  refine lv_iadd hx hb dL_law_250 ?_
  refine va_sld hx hb hAt.2.2.2.2.2.2.1 hAt.2.2.2.2.2.2.2.1 (Nat.not_le.mpr hAt.2.2.2.2.2.2.2.1) hI.2.2.2 (sc_in (k := 3) rfl (by decide) hj hL) dL_law_251 ?_
  refine lw_cM (as := [.int (xs (nI (5 * j) + 1).toNatClampNeg), .int (xs (nI (5 * j) + 2).toNatClampNeg), .int (xs (nI (5 * j) + 3).toNatClampNeg)]) (rest := [.int v]) hLC (hM1 hg 0 (fun r M' => r = some (.int v) ∧ Rel S' M') (fun M' h => ⟨rfl, h⟩)) cl_L_39 mk_X10_run rfl rfl dL_law_252 (Nat.le_of_ble_eq_true rfl) hl.1 hI (by omega) (by omega) (fun r M' H locs hQ hI => ?_)
  obtain ⟨rfl, hR⟩ := hQ
  show W _ _ _ _ _ _ _ _ _ _ _ _ _ _ _ (F0 m 255 ls [.int v, .int v])
  refine lv_icmp_eq (tgt := 539) hx hb dL_law_255 (by decide) (fun _ => ?_) (fun h => absurd rfl h)
  refine W.widen (k := 67 + (j + 1)) (n := 11300 + 8 * (j + 1)) (by omega) (by omega) ?_
  exact hend _ _ _ _ _ _ hR hI hl
set_option maxHeartbeats 4000000 in
theorem case_4 (hLC : LC p l s m meth c b L xs dC dI cA cL aX aM o) (hj : 5 * j + 5 ≤ L) (hR : Rel S M) (hI : LI dC dI cA cL aX aM o s S M f H locs) (hl : lv_has ls 7 (lvL b o aX aM j)) (hend : At539 p l e s m below meth c b dC dI cA cL aX aM o j) : W p l e room_1 s m #[.ref b] below meth c H locs (67 + j) (11300 + 8 * j) (lw_Z below #[.ref b] s) (F0 m 260 ls []) := by
  have hAt := hLC.1
  have hx := hAt.1
  have hb := hAt.2.1
  have hL := hLC.2.2.2.2.2.2.2
  refine lv_aload_n hx hb dL_law_260 rfl (lv_at hl 3 rfl) ?_
  refine lv_aload_n hx hb dL_law_261 rfl (lv_at hl 4 rfl) ?_
  refine lv_iload hx hb dL_law_262 (lv_at hl 0 rfl) ?_
  refine lv_iconst (v := 1) hx hb dL_law_264 (by decide) ?_
  refine lv_iadd hx hb dL_law_265 ?_
  refine va_sld hx hb hAt.2.2.2.2.2.2.1 hAt.2.2.2.2.2.2.2.1 (Nat.not_le.mpr hAt.2.2.2.2.2.2.2.1) hI.2.2.2 (sc_in (k := 1) rfl (by decide) hj hL) dL_law_266 ?_
  obtain ⟨v, S1, G1, hX1, hM1⟩ := pair_told hR (xs (nI (5 * j) + 1).toNatClampNeg)
  refine lw_cX (as := [.int (xs (nI (5 * j) + 1).toNatClampNeg)]) (rest := []) hLC (hX1 0 (fun r S' => G1 ∧ r = some (.int v) ∧ S' = S1) (fun g => ⟨g, rfl, rfl⟩)) cl_L_40 mk_X9_told rfl rfl dL_law_267 (Nat.le_of_ble_eq_true rfl) hl.1 hI (by omega) (by omega) (fun r S' H locs hQ hI => ?_)
  obtain ⟨hg, rfl, rfl⟩ := hQ
  show W _ _ _ _ _ _ _ _ _ _ _ _ _ _ _ (F0 m 270 ls [.int v])
  refine lv_aload_n hx hb dL_law_270 rfl (lv_at hl 2 rfl) ?_
  refine lv_aload_n hx hb dL_law_271 rfl (lv_at hl 4 rfl) ?_
  refine lv_iload hx hb dL_law_272 (lv_at hl 0 rfl) ?_
  refine lv_iconst (v := 1) hx hb dL_law_274 (by decide) ?_
  refine lv_iadd hx hb dL_law_275 ?_
  refine va_sld hx hb hAt.2.2.2.2.2.2.1 hAt.2.2.2.2.2.2.2.1 (Nat.not_le.mpr hAt.2.2.2.2.2.2.2.1) hI.2.2.2 (sc_in (k := 1) rfl (by decide) hj hL) dL_law_276 ?_
  refine lw_cM (as := [.int (xs (nI (5 * j) + 1).toNatClampNeg)]) (rest := [.int v]) hLC (hM1 hg 0 (fun r M' => r = some (.int v) ∧ Rel S' M') (fun M' h => ⟨rfl, h⟩)) cl_L_44 mk_X10_told rfl rfl dL_law_277 (Nat.le_of_ble_eq_true rfl) hl.1 hI (by omega) (by omega) (fun r M' H locs hQ hI => ?_)
  obtain ⟨rfl, hR⟩ := hQ
  show W _ _ _ _ _ _ _ _ _ _ _ _ _ _ _ (F0 m 280 ls [.int v, .int v])
  refine lv_icmp_eq (tgt := 539) hx hb dL_law_280 (by decide) (fun _ => ?_) (fun h => absurd rfl h)
  refine W.widen (k := 67 + (j + 1)) (n := 11300 + 8 * (j + 1)) (by omega) (by omega) ?_
  exact hend _ _ _ _ _ _ hR hI hl
set_option maxHeartbeats 4000000 in
theorem case_5 (hLC : LC p l s m meth c b L xs dC dI cA cL aX aM o) (hj : 5 * j + 5 ≤ L) (hR : Rel S M) (hI : LI dC dI cA cL aX aM o s S M f H locs) (hl : lv_has ls 7 (lvL b o aX aM j)) (hend : At539 p l e s m below meth c b dC dI cA cL aX aM o j) : W p l e room_1 s m #[.ref b] below meth c H locs (67 + j) (11300 + 8 * j) (lw_Z below #[.ref b] s) (F0 m 285 ls []) := by
  have hAt := hLC.1
  have hx := hAt.1
  have hb := hAt.2.1
  have hL := hLC.2.2.2.2.2.2.2
  refine lv_aload_n hx hb dL_law_285 rfl (lv_at hl 3 rfl) ?_
  refine lv_aload_n hx hb dL_law_286 rfl (lv_at hl 4 rfl) ?_
  refine lv_iload hx hb dL_law_287 (lv_at hl 0 rfl) ?_
  refine lv_iconst (v := 1) hx hb dL_law_289 (by decide) ?_
  refine lv_iadd hx hb dL_law_290 ?_
  refine va_sld hx hb hAt.2.2.2.2.2.2.1 hAt.2.2.2.2.2.2.2.1 (Nat.not_le.mpr hAt.2.2.2.2.2.2.2.1) hI.2.2.2 (sc_in (k := 1) rfl (by decide) hj hL) dL_law_291 ?_
  obtain ⟨v, S1, G1, hX1, hM1⟩ := pair_marks hR (xs (nI (5 * j) + 1).toNatClampNeg)
  refine lw_cX (as := [.int (xs (nI (5 * j) + 1).toNatClampNeg)]) (rest := []) hLC (hX1 0 (fun r S' => G1 ∧ r = some (.int v) ∧ S' = S1) (fun g => ⟨g, rfl, rfl⟩)) cl_L_45 mk_X9_marks rfl rfl dL_law_292 (Nat.le_of_ble_eq_true rfl) hl.1 hI (by omega) (by omega) (fun r S' H locs hQ hI => ?_)
  obtain ⟨hg, rfl, rfl⟩ := hQ
  show W _ _ _ _ _ _ _ _ _ _ _ _ _ _ _ (F0 m 295 ls [.int v])
  refine lv_aload_n hx hb dL_law_295 rfl (lv_at hl 2 rfl) ?_
  refine lv_aload_n hx hb dL_law_296 rfl (lv_at hl 4 rfl) ?_
  refine lv_iload hx hb dL_law_297 (lv_at hl 0 rfl) ?_
  refine lv_iconst (v := 1) hx hb dL_law_299 (by decide) ?_
  refine lv_iadd hx hb dL_law_300 ?_
  refine va_sld hx hb hAt.2.2.2.2.2.2.1 hAt.2.2.2.2.2.2.2.1 (Nat.not_le.mpr hAt.2.2.2.2.2.2.2.1) hI.2.2.2 (sc_in (k := 1) rfl (by decide) hj hL) dL_law_301 ?_
  refine lw_cM (as := [.int (xs (nI (5 * j) + 1).toNatClampNeg)]) (rest := [.int v]) hLC (hM1 hg 0 (fun r M' => r = some (.int v) ∧ Rel S' M') (fun M' h => ⟨rfl, h⟩)) cl_L_48 mk_X10_marks rfl rfl dL_law_302 (Nat.le_of_ble_eq_true rfl) hl.1 hI (by omega) (by omega) (fun r M' H locs hQ hI => ?_)
  obtain ⟨rfl, hR⟩ := hQ
  show W _ _ _ _ _ _ _ _ _ _ _ _ _ _ _ (F0 m 305 ls [.int v, .int v])
  refine lv_icmp_eq (tgt := 539) hx hb dL_law_305 (by decide) (fun _ => ?_) (fun h => absurd rfl h)
  refine W.widen (k := 67 + (j + 1)) (n := 11300 + 8 * (j + 1)) (by omega) (by omega) ?_
  exact hend _ _ _ _ _ _ hR hI hl
set_option maxHeartbeats 4000000 in
theorem case_6 (hLC : LC p l s m meth c b L xs dC dI cA cL aX aM o) (hj : 5 * j + 5 ≤ L) (hR : Rel S M) (hI : LI dC dI cA cL aX aM o s S M f H locs) (hl : lv_has ls 7 (lvL b o aX aM j)) (hend : At539 p l e s m below meth c b dC dI cA cL aX aM o j) : W p l e room_1 s m #[.ref b] below meth c H locs (67 + j) (11300 + 8 * j) (lw_Z below #[.ref b] s) (F0 m 310 ls []) := by
  have hAt := hLC.1
  have hx := hAt.1
  have hb := hAt.2.1
  have hL := hLC.2.2.2.2.2.2.2
  refine lv_aload_n hx hb dL_law_310 rfl (lv_at hl 3 rfl) ?_
  refine lv_aload_n hx hb dL_law_311 rfl (lv_at hl 4 rfl) ?_
  refine lv_iload hx hb dL_law_312 (lv_at hl 0 rfl) ?_
  refine lv_iconst (v := 1) hx hb dL_law_314 (by decide) ?_
  refine lv_iadd hx hb dL_law_315 ?_
  refine va_sld hx hb hAt.2.2.2.2.2.2.1 hAt.2.2.2.2.2.2.2.1 (Nat.not_le.mpr hAt.2.2.2.2.2.2.2.1) hI.2.2.2 (sc_in (k := 1) rfl (by decide) hj hL) dL_law_316 ?_
  obtain ⟨v, S1, G1, hX1, hM1⟩ := pair_began hR (xs (nI (5 * j) + 1).toNatClampNeg)
  refine lw_cX (as := [.int (xs (nI (5 * j) + 1).toNatClampNeg)]) (rest := []) hLC (hX1 0 (fun r S' => G1 ∧ r = some (.int v) ∧ S' = S1) (fun g => ⟨g, rfl, rfl⟩)) cl_L_49 mk_X9_began rfl rfl dL_law_317 (Nat.le_of_ble_eq_true rfl) hl.1 hI (by omega) (by omega) (fun r S' H locs hQ hI => ?_)
  obtain ⟨hg, rfl, rfl⟩ := hQ
  show W _ _ _ _ _ _ _ _ _ _ _ _ _ _ _ (F0 m 320 ls [.int v])
  refine lv_aload_n hx hb dL_law_320 rfl (lv_at hl 2 rfl) ?_
  refine lv_aload_n hx hb dL_law_321 rfl (lv_at hl 4 rfl) ?_
  refine lv_iload hx hb dL_law_322 (lv_at hl 0 rfl) ?_
  refine lv_iconst (v := 1) hx hb dL_law_324 (by decide) ?_
  refine lv_iadd hx hb dL_law_325 ?_
  refine va_sld hx hb hAt.2.2.2.2.2.2.1 hAt.2.2.2.2.2.2.2.1 (Nat.not_le.mpr hAt.2.2.2.2.2.2.2.1) hI.2.2.2 (sc_in (k := 1) rfl (by decide) hj hL) dL_law_326 ?_
  refine lw_cM (as := [.int (xs (nI (5 * j) + 1).toNatClampNeg)]) (rest := [.int v]) hLC (hM1 hg 0 (fun r M' => r = some (.int v) ∧ Rel S' M') (fun M' h => ⟨rfl, h⟩)) cl_L_52 mk_X10_began rfl rfl dL_law_327 (Nat.le_of_ble_eq_true rfl) hl.1 hI (by omega) (by omega) (fun r M' H locs hQ hI => ?_)
  obtain ⟨rfl, hR⟩ := hQ
  show W _ _ _ _ _ _ _ _ _ _ _ _ _ _ _ (F0 m 330 ls [.int v, .int v])
  refine lv_icmp_eq (tgt := 539) hx hb dL_law_330 (by decide) (fun _ => ?_) (fun h => absurd rfl h)
  refine W.widen (k := 67 + (j + 1)) (n := 11300 + 8 * (j + 1)) (by omega) (by omega) ?_
  exact hend _ _ _ _ _ _ hR hI hl
set_option maxHeartbeats 4000000 in
theorem case_7 (hLC : LC p l s m meth c b L xs dC dI cA cL aX aM o) (hj : 5 * j + 5 ≤ L) (hR : Rel S M) (hI : LI dC dI cA cL aX aM o s S M f H locs) (hl : lv_has ls 7 (lvL b o aX aM j)) (hend : At539 p l e s m below meth c b dC dI cA cL aX aM o j) : W p l e room_1 s m #[.ref b] below meth c H locs (67 + j) (11300 + 8 * j) (lw_Z below #[.ref b] s) (F0 m 335 ls []) := by
  have hAt := hLC.1
  have hx := hAt.1
  have hb := hAt.2.1
  have hL := hLC.2.2.2.2.2.2.2
  refine lv_aload_n hx hb dL_law_335 rfl (lv_at hl 3 rfl) ?_
  refine lv_aload_n hx hb dL_law_336 rfl (lv_at hl 4 rfl) ?_
  refine lv_iload hx hb dL_law_337 (lv_at hl 0 rfl) ?_
  refine lv_iconst (v := 1) hx hb dL_law_339 (by decide) ?_
  refine lv_iadd hx hb dL_law_340 ?_
  refine va_sld hx hb hAt.2.2.2.2.2.2.1 hAt.2.2.2.2.2.2.2.1 (Nat.not_le.mpr hAt.2.2.2.2.2.2.2.1) hI.2.2.2 (sc_in (k := 1) rfl (by decide) hj hL) dL_law_341 ?_
  obtain ⟨v, S1, G1, hX1, hM1⟩ := pair_variable hR (xs (nI (5 * j) + 1).toNatClampNeg)
  refine lw_cX (as := [.int (xs (nI (5 * j) + 1).toNatClampNeg)]) (rest := []) hLC (hX1 0 (fun r S' => G1 ∧ r = some (.int v) ∧ S' = S1) (fun g => ⟨g, rfl, rfl⟩)) cl_L_53 mk_X9_variable rfl rfl dL_law_342 (Nat.le_of_ble_eq_true rfl) hl.1 hI (by omega) (by omega) (fun r S' H locs hQ hI => ?_)
  obtain ⟨hg, rfl, rfl⟩ := hQ
  show W _ _ _ _ _ _ _ _ _ _ _ _ _ _ _ (F0 m 345 ls [.int v])
  refine lv_aload_n hx hb dL_law_345 rfl (lv_at hl 2 rfl) ?_
  refine lv_aload_n hx hb dL_law_346 rfl (lv_at hl 4 rfl) ?_
  refine lv_iload hx hb dL_law_347 (lv_at hl 0 rfl) ?_
  refine lv_iconst (v := 1) hx hb dL_law_349 (by decide) ?_
  refine lv_iadd hx hb dL_law_350 ?_
  refine va_sld hx hb hAt.2.2.2.2.2.2.1 hAt.2.2.2.2.2.2.2.1 (Nat.not_le.mpr hAt.2.2.2.2.2.2.2.1) hI.2.2.2 (sc_in (k := 1) rfl (by decide) hj hL) dL_law_351 ?_
  refine lw_cM (as := [.int (xs (nI (5 * j) + 1).toNatClampNeg)]) (rest := [.int v]) hLC (hM1 hg 0 (fun r M' => r = some (.int v) ∧ Rel S' M') (fun M' h => ⟨rfl, h⟩)) cl_L_56 mk_X10_variable rfl rfl dL_law_352 (Nat.le_of_ble_eq_true rfl) hl.1 hI (by omega) (by omega) (fun r M' H locs hQ hI => ?_)
  obtain ⟨rfl, hR⟩ := hQ
  show W _ _ _ _ _ _ _ _ _ _ _ _ _ _ _ (F0 m 355 ls [.int v, .int v])
  refine lv_icmp_eq (tgt := 539) hx hb dL_law_355 (by decide) (fun _ => ?_) (fun h => absurd rfl h)
  refine W.widen (k := 67 + (j + 1)) (n := 11300 + 8 * (j + 1)) (by omega) (by omega) ?_
  exact hend _ _ _ _ _ _ hR hI hl
set_option maxHeartbeats 4000000 in
theorem case_8 (hLC : LC p l s m meth c b L xs dC dI cA cL aX aM o) (hj : 5 * j + 5 ≤ L) (hR : Rel S M) (hI : LI dC dI cA cL aX aM o s S M f H locs) (hl : lv_has ls 7 (lvL b o aX aM j)) (hend : At539 p l e s m below meth c b dC dI cA cL aX aM o j) : W p l e room_1 s m #[.ref b] below meth c H locs (67 + j) (11300 + 8 * j) (lw_Z below #[.ref b] s) (F0 m 360 ls []) := by
  have hAt := hLC.1
  have hx := hAt.1
  have hb := hAt.2.1
  have hL := hLC.2.2.2.2.2.2.2
  refine lv_aload_n hx hb dL_law_360 rfl (lv_at hl 3 rfl) ?_
  refine lv_aload_n hx hb dL_law_361 rfl (lv_at hl 4 rfl) ?_
  refine lv_iload hx hb dL_law_362 (lv_at hl 0 rfl) ?_
  refine lv_iconst (v := 1) hx hb dL_law_364 (by decide) ?_
  refine lv_iadd hx hb dL_law_365 ?_
  refine va_sld hx hb hAt.2.2.2.2.2.2.1 hAt.2.2.2.2.2.2.2.1 (Nat.not_le.mpr hAt.2.2.2.2.2.2.2.1) hI.2.2.2 (sc_in (k := 1) rfl (by decide) hj hL) dL_law_366 ?_
  obtain ⟨v, S1, G1, hX1, hM1⟩ := pair_size hR (xs (nI (5 * j) + 1).toNatClampNeg)
  refine lw_cX (as := [.int (xs (nI (5 * j) + 1).toNatClampNeg)]) (rest := []) hLC (hX1 0 (fun r S' => G1 ∧ r = some (.int v) ∧ S' = S1) (fun g => ⟨g, rfl, rfl⟩)) cl_L_57 mk_X9_size rfl rfl dL_law_367 (Nat.le_of_ble_eq_true rfl) hl.1 hI (by omega) (by omega) (fun r S' H locs hQ hI => ?_)
  obtain ⟨hg, rfl, rfl⟩ := hQ
  show W _ _ _ _ _ _ _ _ _ _ _ _ _ _ _ (F0 m 370 ls [.int v])
  refine lv_aload_n hx hb dL_law_370 rfl (lv_at hl 2 rfl) ?_
  refine lv_aload_n hx hb dL_law_371 rfl (lv_at hl 4 rfl) ?_
  refine lv_iload hx hb dL_law_372 (lv_at hl 0 rfl) ?_
  refine lv_iconst (v := 1) hx hb dL_law_374 (by decide) ?_
  refine lv_iadd hx hb dL_law_375 ?_
  refine va_sld hx hb hAt.2.2.2.2.2.2.1 hAt.2.2.2.2.2.2.2.1 (Nat.not_le.mpr hAt.2.2.2.2.2.2.2.1) hI.2.2.2 (sc_in (k := 1) rfl (by decide) hj hL) dL_law_376 ?_
  refine lw_cM (as := [.int (xs (nI (5 * j) + 1).toNatClampNeg)]) (rest := [.int v]) hLC (hM1 hg 0 (fun r M' => r = some (.int v) ∧ Rel S' M') (fun M' h => ⟨rfl, h⟩)) cl_L_60 mk_X10_size rfl rfl dL_law_377 (Nat.le_of_ble_eq_true rfl) hl.1 hI (by omega) (by omega) (fun r M' H locs hQ hI => ?_)
  obtain ⟨rfl, hR⟩ := hQ
  show W _ _ _ _ _ _ _ _ _ _ _ _ _ _ _ (F0 m 380 ls [.int v, .int v])
  refine lv_icmp_eq (tgt := 539) hx hb dL_law_380 (by decide) (fun _ => ?_) (fun h => absurd rfl h)
  refine W.widen (k := 67 + (j + 1)) (n := 11300 + 8 * (j + 1)) (by omega) (by omega) ?_
  exact hend _ _ _ _ _ _ hR hI hl
set_option maxHeartbeats 4000000 in
theorem case_9 (hLC : LC p l s m meth c b L xs dC dI cA cL aX aM o) (hj : 5 * j + 5 ≤ L) (hR : Rel S M) (hI : LI dC dI cA cL aX aM o s S M f H locs) (hl : lv_has ls 7 (lvL b o aX aM j)) (hend : At539 p l e s m below meth c b dC dI cA cL aX aM o j) : W p l e room_1 s m #[.ref b] below meth c H locs (67 + j) (11300 + 8 * j) (lw_Z below #[.ref b] s) (F0 m 385 ls []) := by
  have hAt := hLC.1
  have hx := hAt.1
  have hb := hAt.2.1
  have hL := hLC.2.2.2.2.2.2.2
  refine lv_aload_n hx hb dL_law_385 rfl (lv_at hl 3 rfl) ?_
  refine lv_aload_n hx hb dL_law_386 rfl (lv_at hl 4 rfl) ?_
  refine lv_iload hx hb dL_law_387 (lv_at hl 0 rfl) ?_
  refine lv_iconst (v := 1) hx hb dL_law_389 (by decide) ?_
  refine lv_iadd hx hb dL_law_390 ?_
  refine va_sld hx hb hAt.2.2.2.2.2.2.1 hAt.2.2.2.2.2.2.2.1 (Nat.not_le.mpr hAt.2.2.2.2.2.2.2.1) hI.2.2.2 (sc_in (k := 1) rfl (by decide) hj hL) dL_law_391 ?_
  refine lv_aload_n hx hb dL_law_392 rfl (lv_at hl 4 rfl) ?_
  refine lv_iload hx hb dL_law_393 (lv_at hl 0 rfl) ?_
  refine lv_iconst (v := 2) hx hb dL_law_395 (by decide) ?_
  refine lv_iadd hx hb dL_law_396 ?_
  refine va_sld hx hb hAt.2.2.2.2.2.2.1 hAt.2.2.2.2.2.2.2.1 (Nat.not_le.mpr hAt.2.2.2.2.2.2.2.1) hI.2.2.2 (sc_in (k := 2) rfl (by decide) hj hL) dL_law_397 ?_
  refine lv_aload_n hx hb dL_law_398 rfl (lv_at hl 1 rfl) ?_
  obtain ⟨sg, so, k, hRC⟩ := id hR
  refine lw_cI (r := (xs (nI (5 * j) + 1).toNatClampNeg)) (i := (xs (nI (5 * j) + 2).toNatClampNeg)) hRC.lat hRC.wf hLC dL_law_399 hl.1 hI (by omega) (by omega) (fun f H locs hf hI => ?_)
  obtain ⟨he1, he2⟩ := item_eq hRC.obs (xs (nI (5 * j) + 1).toNatClampNeg) (xs (nI (5 * j) + 2).toNatClampNeg)
  refine lv_istore (lv' := (5, .int (xItK (plS sg S) (xs (nI (5 * j) + 1).toNatClampNeg) (xs (nI (5 * j) + 2).toNatClampNeg))) :: lvL b o aX aM j) hx hb dL_law_402 hl (by decide) rfl (fun ls hl => ?_)
  refine lv_aload_n hx hb dL_law_404 rfl (lv_at hl 3 rfl) ?_
  refine lv_aload_n hx hb dL_law_405 rfl (lv_at hl 5 rfl) ?_
  refine lv_iload hx hb dL_law_406 (lv_at hl 1 rfl) ?_
  refine lv_iconst (v := 1) hx hb dL_law_408 (by decide) ?_
  refine lv_iadd hx hb dL_law_409 ?_
  refine va_sld hx hb hAt.2.2.2.2.2.2.1 hAt.2.2.2.2.2.2.2.1 (Nat.not_le.mpr hAt.2.2.2.2.2.2.2.1) hI.2.2.2 (sc_in (k := 1) rfl (by decide) hj hL) dL_law_410 ?_
  refine lv_aload_n hx hb dL_law_411 rfl (lv_at hl 5 rfl) ?_
  refine lv_iload hx hb dL_law_412 (lv_at hl 1 rfl) ?_
  refine lv_iconst (v := 2) hx hb dL_law_414 (by decide) ?_
  refine lv_iadd hx hb dL_law_415 ?_
  refine va_sld hx hb hAt.2.2.2.2.2.2.1 hAt.2.2.2.2.2.2.2.1 (Nat.not_le.mpr hAt.2.2.2.2.2.2.2.1) hI.2.2.2 (sc_in (k := 2) rfl (by decide) hj hL) dL_law_416 ?_
  refine lw_cM (as := [.int (xs (nI (5 * j) + 1).toNatClampNeg), .int (xs (nI (5 * j) + 2).toNatClampNeg)]) (rest := []) hLC (sp_X10_item (d := 11) (Q := fun r M' => r = some (.int (gItV M (xs (nI (5 * j) + 1).toNatClampNeg) (xs (nI (5 * j) + 2).toNatClampNeg))) ∧ M' = sw M 0 0 (gItK M (xs (nI (5 * j) + 1).toNatClampNeg) (xs (nI (5 * j) + 2).toNatClampNeg))) (obs_rowOk hRC.obs) ⟨rfl, rfl⟩) cl_L_66 mk_X10_item rfl rfl dL_law_417 (Nat.le_of_ble_eq_true rfl) hl.1 hI (by omega) (by omega) (fun r M' H locs hQ hI => ?_)
  obtain ⟨rfl, rfl⟩ := hQ
  show W _ _ _ _ _ _ _ _ _ _ _ _ _ _ _ (F0 m 420 ls [.int (gItV M (xs (nI (5 * j) + 1).toNatClampNeg) (xs (nI (5 * j) + 2).toNatClampNeg))])
  refine lv_istore (lv' := (6, .int (gItV M (xs (nI (5 * j) + 1).toNatClampNeg) (xs (nI (5 * j) + 2).toNatClampNeg))) :: (5, .int (xItK (plS sg S) (xs (nI (5 * j) + 1).toNatClampNeg) (xs (nI (5 * j) + 2).toNatClampNeg))) :: lvL b o aX aM j) hx hb dL_law_420 hl (by decide) rfl (fun ls hl => ?_)
  refine lv_aload_n hx hb dL_law_422 rfl (lv_at hl 4 rfl) ?_
  refine lw_cM (as := []) (rest := []) hLC (sp_X10_thrown (d := 12) (Q := fun r M' => r = some (.int (gItK M (xs (nI (5 * j) + 1).toNatClampNeg) (xs (nI (5 * j) + 2).toNatClampNeg))) ∧ M' = sw M 0 0 (gItK M (xs (nI (5 * j) + 1).toNatClampNeg) (xs (nI (5 * j) + 2).toNatClampNeg))) ⟨by rw [sw_eq], rfl⟩) cl_L_67 mk_X10_thrown rfl rfl dL_law_423 (Nat.le_of_ble_eq_true rfl) hl.1 hI (by omega) (by omega) (fun r M' H locs hQ hI => ?_)
  obtain ⟨rfl, rfl⟩ := hQ
  show W _ _ _ _ _ _ _ _ _ _ _ _ _ _ _ (F0 m 426 ls [.int (gItK M (xs (nI (5 * j) + 1).toNatClampNeg) (xs (nI (5 * j) + 2).toNatClampNeg))])
  refine lv_iload hx hb dL_law_426 (lv_at hl 1 rfl) ?_
  refine lv_icmp_eq (tgt := 433) hx hb dL_law_428 (by decide) (fun _ => ?_) (fun h => absurd he1 h)
  refine lv_iload hx hb dL_law_433 (lv_at hl 1 rfl) ?_
  have hR2 : Rel S (sw M 0 0 (gItK M (xs (nI (5 * j) + 1).toNatClampNeg) (xs (nI (5 * j) + 2).toNatClampNeg))) := ⟨sg, so, k, hRC.m0 df0⟩
  have hl9 : lv_has ls 7 (lvL b o aX aM j) := ⟨hl.1, hl.2.1, fun q hq => hl.2.2 q (List.mem_cons_of_mem _ (List.mem_cons_of_mem _ hq))⟩
  have hgo : W p l e room_1 s m #[.ref b] below meth c H locs (67 + j + 1) (11300 + 8 * j + 8) (lw_Z below #[.ref b] s) (F0 m 450 ls []) := lv_goto (tgt := 539) hx hb dL_law_450 (by decide) (hend _ _ _ _ _ _ hR2 hI hl9)
  refine lv_if_ne (tgt := 450) hx hb dL_law_435 (by decide) (fun _ => hgo) (fun h0 => ?_)
  refine lv_aload_n hx hb dL_law_438 rfl (lv_at hl 3 rfl) ?_
  refine lv_iconst (v := 0) hx hb dL_law_439 (by decide) ?_
  refine va_lald (D := (dC, dI)) hx hb hLC.2.2.1 hI.2.2.1 0 1 rfl rfl (vp_in_iff.mpr (by decide)) dL_law_440 ?_
  show W _ _ _ _ _ _ _ _ _ _ _ _ _ _ _ (F0 m 441 ls [.long (f 0)])
  rw [hf h0]
  refine lv_iload hx hb dL_law_441 (lv_at hl 0 rfl) ?_
  refine lv_i2l (v := _) hx hb dL_law_443 rfl ?_
  refine W.lcmp hx hb dL_law_444 ?_
  refine lv_if_eq (tgt := 450) hx hb dL_law_445 (by decide) (fun _ => hgo) (fun h => absurd ?_ h)
  rw [he2 h0]
  exact lg_same _
set_option maxHeartbeats 4000000 in
theorem case_10 (hLC : LC p l s m meth c b L xs dC dI cA cL aX aM o) (hj : 5 * j + 5 ≤ L) (hR : Rel S M) (hI : LI dC dI cA cL aX aM o s S M f H locs) (hl : lv_has ls 7 (lvL b o aX aM j)) (hend : At539 p l e s m below meth c b dC dI cA cL aX aM o j) : W p l e room_1 s m #[.ref b] below meth c H locs (67 + j) (11300 + 8 * j) (lw_Z below #[.ref b] s) (F0 m 453 ls []) := by
  have hAt := hLC.1
  have hx := hAt.1
  have hb := hAt.2.1
  have hL := hLC.2.2.2.2.2.2.2
  refine lv_aload_n hx hb dL_law_453 rfl (lv_at hl 3 rfl) ?_
  refine lv_aload_n hx hb dL_law_454 rfl (lv_at hl 4 rfl) ?_
  refine lv_iload hx hb dL_law_455 (lv_at hl 0 rfl) ?_
  refine lv_iconst (v := 1) hx hb dL_law_457 (by decide) ?_
  refine lv_iadd hx hb dL_law_458 ?_
  refine va_sld hx hb hAt.2.2.2.2.2.2.1 hAt.2.2.2.2.2.2.2.1 (Nat.not_le.mpr hAt.2.2.2.2.2.2.2.1) hI.2.2.2 (sc_in (k := 1) rfl (by decide) hj hL) dL_law_459 ?_
  refine lv_aload_n hx hb dL_law_460 rfl (lv_at hl 4 rfl) ?_
  refine lv_iload hx hb dL_law_461 (lv_at hl 0 rfl) ?_
  refine lv_iconst (v := 2) hx hb dL_law_463 (by decide) ?_
  refine lv_iadd hx hb dL_law_464 ?_
  refine va_sld hx hb hAt.2.2.2.2.2.2.1 hAt.2.2.2.2.2.2.2.1 (Nat.not_le.mpr hAt.2.2.2.2.2.2.2.1) hI.2.2.2 (sc_in (k := 2) rfl (by decide) hj hL) dL_law_465 ?_
  refine lv_aload_n hx hb dL_law_466 rfl (lv_at hl 4 rfl) ?_
  refine lv_iload hx hb dL_law_467 (lv_at hl 0 rfl) ?_
  refine lv_iconst (v := 3) hx hb dL_law_469 (by decide) ?_
  refine lv_iadd hx hb dL_law_470 ?_
  refine va_sld hx hb hAt.2.2.2.2.2.2.1 hAt.2.2.2.2.2.2.2.1 (Nat.not_le.mpr hAt.2.2.2.2.2.2.2.1) hI.2.2.2 (sc_in (k := 3) rfl (by decide) hj hL) dL_law_471 ?_
  refine lv_aload_n hx hb dL_law_472 rfl (lv_at hl 4 rfl) ?_
  refine lv_iload hx hb dL_law_473 (lv_at hl 0 rfl) ?_
  refine lv_iconst (v := 4) hx hb dL_law_475 (by decide) ?_
  refine lv_iadd hx hb dL_law_476 ?_
  refine va_sld hx hb hAt.2.2.2.2.2.2.1 hAt.2.2.2.2.2.2.2.1 (Nat.not_le.mpr hAt.2.2.2.2.2.2.2.1) hI.2.2.2 (sc_in (k := 4) rfl (by decide) hj hL) dL_law_477 ?_
  obtain ⟨v, S1, G1, hX1, hM1⟩ := pair_same hR (xs (nI (5 * j) + 1).toNatClampNeg) (xs (nI (5 * j) + 2).toNatClampNeg) (xs (nI (5 * j) + 3).toNatClampNeg) (xs (nI (5 * j) + 4).toNatClampNeg)
  refine lw_cX (as := [.int (xs (nI (5 * j) + 1).toNatClampNeg), .int (xs (nI (5 * j) + 2).toNatClampNeg), .int (xs (nI (5 * j) + 3).toNatClampNeg), .int (xs (nI (5 * j) + 4).toNatClampNeg)]) (rest := []) hLC (hX1 0 (fun r S' => G1 ∧ r = some (.int v) ∧ S' = S1) (fun g => ⟨g, rfl, rfl⟩)) cl_L_70 mk_X9_same rfl rfl dL_law_478 (Nat.le_of_ble_eq_true rfl) hl.1 hI (by omega) (by omega) (fun r S' H locs hQ hI => ?_)
  obtain ⟨hg, rfl, rfl⟩ := hQ
  show W _ _ _ _ _ _ _ _ _ _ _ _ _ _ _ (F0 m 481 ls [.int v])
  refine lv_aload_n hx hb dL_law_481 rfl (lv_at hl 2 rfl) ?_
  refine lv_aload_n hx hb dL_law_482 rfl (lv_at hl 4 rfl) ?_
  refine lv_iload hx hb dL_law_483 (lv_at hl 0 rfl) ?_
  refine lv_iconst (v := 1) hx hb dL_law_485 (by decide) ?_
  refine lv_iadd hx hb dL_law_486 ?_
  refine va_sld hx hb hAt.2.2.2.2.2.2.1 hAt.2.2.2.2.2.2.2.1 (Nat.not_le.mpr hAt.2.2.2.2.2.2.2.1) hI.2.2.2 (sc_in (k := 1) rfl (by decide) hj hL) dL_law_487 ?_
  refine lv_aload_n hx hb dL_law_488 rfl (lv_at hl 4 rfl) ?_
  refine lv_iload hx hb dL_law_489 (lv_at hl 0 rfl) ?_
  refine lv_iconst (v := 2) hx hb dL_law_491 (by decide) ?_
  refine lv_iadd hx hb dL_law_492 ?_
  refine va_sld hx hb hAt.2.2.2.2.2.2.1 hAt.2.2.2.2.2.2.2.1 (Nat.not_le.mpr hAt.2.2.2.2.2.2.2.1) hI.2.2.2 (sc_in (k := 2) rfl (by decide) hj hL) dL_law_493 ?_
  refine lv_aload_n hx hb dL_law_494 rfl (lv_at hl 4 rfl) ?_
  refine lv_iload hx hb dL_law_495 (lv_at hl 0 rfl) ?_
  refine lv_iconst (v := 3) hx hb dL_law_497 (by decide) ?_
  refine lv_iadd hx hb dL_law_498 ?_
  refine va_sld hx hb hAt.2.2.2.2.2.2.1 hAt.2.2.2.2.2.2.2.1 (Nat.not_le.mpr hAt.2.2.2.2.2.2.2.1) hI.2.2.2 (sc_in (k := 3) rfl (by decide) hj hL) dL_law_499 ?_
  refine lv_aload_n hx hb dL_law_500 rfl (lv_at hl 4 rfl) ?_
  refine lv_iload hx hb dL_law_501 (lv_at hl 0 rfl) ?_
  refine lv_iconst (v := 4) hx hb dL_law_503 (by decide) ?_
  refine lv_iadd hx hb dL_law_504 ?_
  refine va_sld hx hb hAt.2.2.2.2.2.2.1 hAt.2.2.2.2.2.2.2.1 (Nat.not_le.mpr hAt.2.2.2.2.2.2.2.1) hI.2.2.2 (sc_in (k := 4) rfl (by decide) hj hL) dL_law_505 ?_
  refine lw_cM (as := [.int (xs (nI (5 * j) + 1).toNatClampNeg), .int (xs (nI (5 * j) + 2).toNatClampNeg), .int (xs (nI (5 * j) + 3).toNatClampNeg), .int (xs (nI (5 * j) + 4).toNatClampNeg)]) (rest := [.int v]) hLC (hM1 hg 0 (fun r M' => r = some (.int v) ∧ Rel S' M') (fun M' h => ⟨rfl, h⟩)) cl_L_73 mk_X10_same rfl rfl dL_law_506 (Nat.le_of_ble_eq_true rfl) hl.1 hI (by omega) (by omega) (fun r M' H locs hQ hI => ?_)
  obtain ⟨rfl, hR⟩ := hQ
  show W _ _ _ _ _ _ _ _ _ _ _ _ _ _ _ (F0 m 509 ls [.int v, .int v])
  refine lv_icmp_eq (tgt := 539) hx hb dL_law_509 (by decide) (fun _ => ?_) (fun h => absurd rfl h)
  refine W.widen (k := 67 + (j + 1)) (n := 11300 + 8 * (j + 1)) (by omega) (by omega) ?_
  exact hend _ _ _ _ _ _ hR hI hl
set_option maxHeartbeats 4000000 in
theorem case_11 (hLC : LC p l s m meth c b L xs dC dI cA cL aX aM o) (hj : 5 * j + 5 ≤ L) (hR : Rel S M) (hI : LI dC dI cA cL aX aM o s S M f H locs) (hl : lv_has ls 7 (lvL b o aX aM j)) (hend : At539 p l e s m below meth c b dC dI cA cL aX aM o j) : W p l e room_1 s m #[.ref b] below meth c H locs (67 + j) (11300 + 8 * j) (lw_Z below #[.ref b] s) (F0 m 514 ls []) := by
  have hAt := hLC.1
  have hx := hAt.1
  have hb := hAt.2.1
  have hL := hLC.2.2.2.2.2.2.2
  refine lv_aload_n hx hb dL_law_514 rfl (lv_at hl 3 rfl) ?_
  refine lv_aload_n hx hb dL_law_515 rfl (lv_at hl 4 rfl) ?_
  refine lv_iload hx hb dL_law_516 (lv_at hl 0 rfl) ?_
  refine lv_iconst (v := 1) hx hb dL_law_518 (by decide) ?_
  refine lv_iadd hx hb dL_law_519 ?_
  refine va_sld hx hb hAt.2.2.2.2.2.2.1 hAt.2.2.2.2.2.2.2.1 (Nat.not_le.mpr hAt.2.2.2.2.2.2.2.1) hI.2.2.2 (sc_in (k := 1) rfl (by decide) hj hL) dL_law_520 ?_
  obtain ⟨v, S1, G1, hX1, hM1⟩ := pair_count hR (xs (nI (5 * j) + 1).toNatClampNeg)
  refine lw_cX (as := [.int (xs (nI (5 * j) + 1).toNatClampNeg)]) (rest := []) hLC (hX1 0 (fun r S' => G1 ∧ r = some (.int v) ∧ S' = S1) (fun g => ⟨g, rfl, rfl⟩)) cl_L_74 mk_X9_count rfl rfl dL_law_521 (Nat.le_of_ble_eq_true rfl) hl.1 hI (by omega) (by omega) (fun r S' H locs hQ hI => ?_)
  obtain ⟨hg, rfl, rfl⟩ := hQ
  show W _ _ _ _ _ _ _ _ _ _ _ _ _ _ _ (F0 m 524 ls [.int v])
  refine lv_aload_n hx hb dL_law_524 rfl (lv_at hl 2 rfl) ?_
  refine lv_aload_n hx hb dL_law_525 rfl (lv_at hl 4 rfl) ?_
  refine lv_iload hx hb dL_law_526 (lv_at hl 0 rfl) ?_
  refine lv_iconst (v := 1) hx hb dL_law_528 (by decide) ?_
  refine lv_iadd hx hb dL_law_529 ?_
  refine va_sld hx hb hAt.2.2.2.2.2.2.1 hAt.2.2.2.2.2.2.2.1 (Nat.not_le.mpr hAt.2.2.2.2.2.2.2.1) hI.2.2.2 (sc_in (k := 1) rfl (by decide) hj hL) dL_law_530 ?_
  refine lw_cM (as := [.int (xs (nI (5 * j) + 1).toNatClampNeg)]) (rest := [.int v]) hLC (hM1 hg 0 (fun r M' => r = some (.int v) ∧ Rel S' M') (fun M' h => ⟨rfl, h⟩)) cl_L_77 mk_X10_count rfl rfl dL_law_531 (Nat.le_of_ble_eq_true rfl) hl.1 hI (by omega) (by omega) (fun r M' H locs hQ hI => ?_)
  obtain ⟨rfl, hR⟩ := hQ
  show W _ _ _ _ _ _ _ _ _ _ _ _ _ _ _ (F0 m 534 ls [.int v, .int v])
  refine lv_icmp_eq (tgt := 539) hx hb dL_law_534 (by decide) (fun _ => ?_) (fun h => absurd rfl h)
  refine W.widen (k := 67 + (j + 1)) (n := 11300 + 8 * (j + 1)) (by omega) (by omega) ?_
  exact hend _ _ _ _ _ _ hR hI hl
end LAWK
