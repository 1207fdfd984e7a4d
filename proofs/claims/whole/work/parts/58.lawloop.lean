section LAWL
variable {p : Program} {l : Launch} {e : Env} {s : State} {m : MethodId} {below : List Frame} {meth : Method} {c : Code} {b L : Nat} {xs : Nat → Int32} {dC : Nat → ClassId} {dI : Nat → Nat → Nat} {cA cL : ClassId} {aX aM : List Nat} {o : Nat} {j : Nat}
def At23 (p : Program) (l : Launch) (e : Env) (s : State) (m : MethodId) (below : List Frame) (meth : Method) (c : Code) (b : Nat) (dC : Nat → ClassId) (dI : Nat → Nat → Nat) (cA cL : ClassId) (aX aM : List Nat) (o j : Nat) : Prop :=
  ∀ (S M : Sx) (f : Nat → Int64) (H : Heap) (locs : List Loc) (ls : Array Slot), Rel S M → LI dC dI cA cL aX aM o s S M f H locs → lv_has ls 7 (lvL b o aX aM j) → W p l e room_1 s m #[.ref b] below meth c H locs (67 + j) (11300 + 8 * j) (lw_Z below #[.ref b] s) (F0 m 23 ls [])
theorem at539 (hLC : LC p l s m meth c b L xs dC dI cA cL aX aM o) (h : At23 p l e s m below meth c b dC dI cA cL aX aM o (j + 1)) : At539 p l e s m below meth c b dC dI cA cL aX aM o j := by
  intro S M f H locs ls hR hI hl
  have hx := hLC.1.1
  have hb := hLC.1.2.1
  refine lv_iinc (v := nI (5 * (j + 1))) (lv' := lvL b o aX aM (j + 1)) hx hb dL_law_539 hl (k := 0) rfl ?_ (by decide) rfl (fun ls hl => ?_)
  · show nI (5 * j) + nI 5 = _
    rw [nI_add]
    rfl
  · exact lv_goto (tgt := 23) hx hb dL_law_542 (by decide) (h S M f H locs ls hR hI hl)
theorem lt_5 (hL : L ≤ 2560) (hj : 5 * j ≤ L) (h : ¬ Int32.ofNat L - 5 < nI (5 * j)) : 5 * j + 5 ≤ L := by
  have e1 : (Int32.ofNat L).toInt = (L : Int) := nI_toInt (by omega)
  have e5 : (5 : Int32).toInt = 5 := rfl
  have e2 : (Int32.ofNat L - 5).toInt = (L : Int) - 5 := by
    rw [i32_sub (by rw [e1, e5]; omega) (by rw [e1, e5]; omega), e1, e5]
  have h1 : ¬ (Int32.ofNat L - 5).toInt < (nI (5 * j)).toInt := fun q => h (Int32.lt_iff_toInt_lt.mpr q)
  rw [e2, nI_toInt (by omega)] at h1
  omega
set_option maxHeartbeats 4000000 in
theorem law_loop (hLC : LC p l s m meth c b L xs dC dI cA cL aX aM o) : ∀ (t j : Nat), L < 5 * j + 5 * t + 5 → 5 * j ≤ L → At23 p l e s m below meth c b dC dI cA cL aX aM o j := by
  have hAt := hLC.1
  have hx := hAt.1
  have hb := hAt.2.1
  have hL := hLC.2.2.2.2.2.2.2
  have hbA : ¬ lA s b := Nat.not_le.mpr hAt.2.2.2.2.2.2.2.1
  intro t
  induction t with
  | zero =>
    intro j hlt hj S M f H locs ls hR hI hl
    refine lv_iload hx hb dL_law_23 (lv_at hl 0 rfl) ?_
    refine lv_aload_n hx hb dL_law_25 rfl (lv_at hl 4 rfl) ?_
    refine va_slen hx hb hAt.2.2.2.2.2.2.1 hAt.2.2.2.2.2.2.2.1 hbA hI.2.2.2 dL_law_26 ?_
    refine lv_iconst (v := 5) hx hb dL_law_27 (by decide) ?_
    refine lv_isub hx hb dL_law_28 ?_
    refine lv_icmp_gt (tgt := 545) hx hb dL_law_29 (by decide) (fun hgt => ?_) (fun hle => absurd (lt_5 hL hj hle) (by omega))
    refine lv_iconst (v := 1) hx hb dL_law_545 (by decide) ?_
    refine W.widen (k := 3142) (n := 130104) (by omega) (by omega) ?_
    refine va_forget (fun q hq => hI.2.2.2.2.2 q hq) ?_
    exact lw_ret hx hb hAt.2.2.1 hAt.2.2.2.2.2.2.2.2.1 dL_law_546
  | succ t ih =>
    intro j hlt hj S M f H locs ls hR hI hl
    refine lv_iload hx hb dL_law_23 (lv_at hl 0 rfl) ?_
    refine lv_aload_n hx hb dL_law_25 rfl (lv_at hl 4 rfl) ?_
    refine va_slen hx hb hAt.2.2.2.2.2.2.1 hAt.2.2.2.2.2.2.2.1 hbA hI.2.2.2 dL_law_26 ?_
    refine lv_iconst (v := 5) hx hb dL_law_27 (by decide) ?_
    refine lv_isub hx hb dL_law_28 ?_
    refine lv_icmp_gt (tgt := 545) hx hb dL_law_29 (by decide) (fun hgt => ?_) (fun hle => ?_)
    · refine lv_iconst (v := 1) hx hb dL_law_545 (by decide) ?_
      refine W.widen (k := 3142) (n := 130104) (by omega) (by omega) ?_
      refine va_forget (fun q hq => hI.2.2.2.2.2 q hq) ?_
      exact lw_ret hx hb hAt.2.2.1 hAt.2.2.2.2.2.2.2.2.1 dL_law_546
    · have hj5 := lt_5 hL hj hle
      have hend : At539 p l e s m below meth c b dC dI cA cL aX aM o j := at539 hLC (ih (j + 1) (by omega) (by omega))
      refine lv_aload_n hx hb dL_law_32 rfl (lv_at hl 4 rfl) ?_
      refine lv_iload hx hb dL_law_33 (lv_at hl 0 rfl) ?_
      refine va_sld hx hb hAt.2.2.2.2.2.2.1 hAt.2.2.2.2.2.2.2.1 hbA hI.2.2.2 (sc_in0 hj5 hL) dL_law_35 ?_
      refine lv_bipush (v := 15) hx hb dL_law_36 (by decide) ?_
      refine lv_iand hx hb dL_law_38 ?_
      generalize (xs (nI (5 * j)).toNatClampNeg &&& 15) = x
      by_cases hout : x.toInt < 0 ∨ 11 < x.toInt
      · refine lv_tableOut (tgt := 539) hx hb dL_law_39 hout (by decide) ?_
        refine W.widen (k := 67 + (j + 1)) (n := 11300 + 8 * (j + 1)) (by omega) (by omega) ?_
        exact hend S M f H locs ls hR hI hl
      · rcases (show x.toInt = 0 ∨ x.toInt = 1 ∨ x.toInt = 2 ∨ x.toInt = 3 ∨ x.toInt = 4 ∨ x.toInt = 5 ∨ x.toInt = 6 ∨ x.toInt = 7 ∨ x.toInt = 8 ∨ x.toInt = 9 ∨ x.toInt = 10 ∨ x.toInt = 11 by omega) with hk | hk | hk | hk | hk | hk | hk | hk | hk | hk | hk | hk
        · exact lv_tableIn (off := 61) (tgt := 100) hx hb dL_law_39 (by omega) (by omega) (by rw [hk]; rfl) (by decide) (case_0 hLC hj5 hR hI hl hend)
        · exact lv_tableIn (off := 122) (tgt := 161) hx hb dL_law_39 (by omega) (by omega) (by rw [hk]; rfl) (by decide) (case_1 hLC hj5 hR hI hl hend)
        · exact lv_tableIn (off := 135) (tgt := 174) hx hb dL_law_39 (by omega) (by omega) (by rw [hk]; rfl) (by decide) (case_2 hLC hj5 hR hI hl hend)
        · exact lv_tableIn (off := 172) (tgt := 211) hx hb dL_law_39 (by omega) (by omega) (by rw [hk]; rfl) (by decide) (case_3 hLC hj5 hR hI hl hend)
        · exact lv_tableIn (off := 221) (tgt := 260) hx hb dL_law_39 (by omega) (by omega) (by rw [hk]; rfl) (by decide) (case_4 hLC hj5 hR hI hl hend)
        · exact lv_tableIn (off := 246) (tgt := 285) hx hb dL_law_39 (by omega) (by omega) (by rw [hk]; rfl) (by decide) (case_5 hLC hj5 hR hI hl hend)
        · exact lv_tableIn (off := 271) (tgt := 310) hx hb dL_law_39 (by omega) (by omega) (by rw [hk]; rfl) (by decide) (case_6 hLC hj5 hR hI hl hend)
        · exact lv_tableIn (off := 296) (tgt := 335) hx hb dL_law_39 (by omega) (by omega) (by rw [hk]; rfl) (by decide) (case_7 hLC hj5 hR hI hl hend)
        · exact lv_tableIn (off := 321) (tgt := 360) hx hb dL_law_39 (by omega) (by omega) (by rw [hk]; rfl) (by decide) (case_8 hLC hj5 hR hI hl hend)
        · exact lv_tableIn (off := 346) (tgt := 385) hx hb dL_law_39 (by omega) (by omega) (by rw [hk]; rfl) (by decide) (case_9 hLC hj5 hR hI hl hend)
        · exact lv_tableIn (off := 414) (tgt := 453) hx hb dL_law_39 (by omega) (by omega) (by rw [hk]; rfl) (by decide) (case_10 hLC hj5 hR hI hl hend)
        · exact lv_tableIn (off := 475) (tgt := 514) hx hb dL_law_39 (by omega) (by omega) (by rw [hk]; rfl) (by decide) (case_11 hLC hj5 hR hI hl hend)
end LAWL
