section LEAF
variable {T S M : Sx} {k n : Nat} {fr : Nat → Nat} {rz : Option Nat} {wk : Nat → Nat} {bu re sb sr u w : Nat}
theorem RunSt.leaf (h : RunSt T k n fr rz wk bu re sb sr u w S M) {v : Int32} (hv : T 0 (fr n) = v) (hl : v ≠ 12 ∧ v ≠ 13 ∧ v ≠ 14 ∧ v ≠ 15 ∧ v ≠ 18 ∧ v ≠ 19 ∧ v ≠ 20) : rStep S = rAtOnce S v (T 1 (fr n)) (T 2 (fr n)) (T 3 (fr n)) := by
  obtain ⟨o1, o2, o3, o4, -⟩ := h.of
  rw [h.step, rBegin, o1, o2, o3, o4, hv, if_neg hl.1, if_neg hl.2.1, if_neg hl.2.2.1, if_neg hl.2.2.2.1, if_neg hl.2.2.2.2.1, if_neg hl.2.2.2.2.2.1, if_neg hl.2.2.2.2.2.2]
theorem RunSt.var (h : RunSt T k n fr rz wk bu re sb sr u w S M) {a : Nat} (ha : a < 8) : mRead (sw S 8 0 0) (nI a) = M 700 a := by
  rw [mRead_e ha, sw_ne (by decide)]
  exact h.1.2.2.1.1 a ha
/-- a variable is written, END -/
theorem write_out {a : Nat} {v : Int32} (h : RunSt T k n fr rz wk bu re sb sr u w S M) (ha : a < 8) (hS : rStep S = fClose (mWrite (sw S 8 0 0) (nI a) v)) (hM : MS M (gComes (sw M 700 a v) n 0)) : Go T k (VV * (bu + re) + sW wk n + w3 (ht T (fr n))) S M := by
  have ht := h.top
  have hd0 := h.2.1
  have hmem := h.1.2.2.1
  have hk := h.1.2.2.2.2.2.2.2.1
  rw [mWrite_e ha] at hS
  have e1 : fClose (sw (sw S 8 0 0) 200 a v) = sw (sw (sw S 8 0 0) 200 a v) 1105 0 (nI n) := fClose_e (by rw [sw_ne (by decide), sw_ne (by decide)]; exact hd0) (by omega)
  rw [e1] at hS
  refine leaf_out (e := 0) h hS hM ((((Df.rf.to 8 0 0).to 200 a v).to 1105 0 _).mono rfl) (((Df.rf.to 700 a v).tr df_gComes).mono rfl) (by rw [sw_eq]) rfl rfl rfl (Or.inl rfl) ?_ hk
  obtain ⟨m1, m2, m3, m4, m5, m6, m7, m8⟩ := hmem
  refine ⟨fun i hi => ?_, m2, m3, m4, m5, m6, m7, m8⟩
  by_cases e : i = a
  · subst e
    simp only [gComes, sw_ne, sw_eq, ne_eq, Nat.reduceEqDiff, not_false_eq_true]
  · simp only [gComes, sw_ne, sw_ix e, ne_eq, Nat.reduceEqDiff, not_false_eq_true]
    exact m1 i hi
theorem run_0 (h : RunSt T k n fr rz wk bu re sb sr u w S M) (hv : T 0 (fr n) = 0) (ha : inN 8 (T 1 (fr n))) : Go T k (VV * (bu + re) + sW wk n + w3 (ht T (fr n))) S M := by
  obtain ⟨a, ea, hab⟩ := ha
  obtain ⟨-, -, -, -, o5, o6, o7, o8⟩ := h.of
  have ht := h.top
  obtain ⟨-, -, hh, -, hs, -, -, h37, -, -⟩ := id h
  refine write_out (a := a) (v := T 2 (fr n)) h hab ?_ (MS.beg h37 fun d Q hQ => sp_X10_begin_0 hh (by omega) hs ht.2.1 (o5.trans hv) (o6.trans ea) hab (by rw [o7]; exact hQ))
  rw [h.leaf hv (by decide), ea]
  rfl
theorem run_calc (h : RunSt T k n fr rz wk bu re sb sr u w S M) (hv : T 0 (fr n) = 1 ∨ T 0 (fr n) = 2 ∨ T 0 (fr n) = 3 ∨ T 0 (fr n) = 4 ∨ T 0 (fr n) = 5) (ha : inN 8 (T 1 (fr n))) (hb : inN 8 (T 2 (fr n))) (hc : inN 8 (T 3 (fr n))) : Go T k (VV * (bu + re) + sW wk n + w3 (ht T (fr n))) S M := by
  obtain ⟨a, ea, hab⟩ := ha
  obtain ⟨b, eb, hbb⟩ := hb
  obtain ⟨c, ec, hcb⟩ := hc
  obtain ⟨-, -, -, -, o5, o6, o7, o8⟩ := h.of
  have ht := h.top
  obtain ⟨-, -, hh, -, hs, -, -, h37, -, -⟩ := id h
  have vb := h.var hbb
  have vc := h.var hcb
  rcases hv with hv | hv | hv | hv | hv
  · refine write_out (a := a) (v := M 700 b + M 700 c) h hab ?_ (MS.beg h37 fun d Q hQ => sp_X10_begin_1 hh (by omega) hs ht.2.1 (o5.trans hv) (o6.trans ea) hab (o7.trans eb) hbb (o8.trans ec) hcb hQ)
    rw [h.leaf hv (by decide), ea, eb, ec, ← vb, ← vc]
    rfl
  · refine write_out (a := a) (v := M 700 b - M 700 c) h hab ?_ (MS.beg h37 fun d Q hQ => sp_X10_begin_2 hh (by omega) hs ht.2.1 (o5.trans hv) (o6.trans ea) hab (o7.trans eb) hbb (o8.trans ec) hcb hQ)
    rw [h.leaf hv (by decide), ea, eb, ec, ← vb, ← vc]
    rfl
  · refine write_out (a := a) (v := M 700 b * M 700 c) h hab ?_ (MS.beg h37 fun d Q hQ => sp_X10_begin_3 hh (by omega) hs ht.2.1 (o5.trans hv) (o6.trans ea) hab (o7.trans eb) hbb (o8.trans ec) hcb hQ)
    rw [h.leaf hv (by decide), ea, eb, ec, ← vb, ← vc]
    rfl
  · by_cases z : M 700 c = 0
    · refine throw_out (kd := 4) (x := 0) h ?_ (MS.beg h37 fun d Q hQ => sp_X10_begin_4 hh (by omega) hs ht.2.1 (o5.trans hv) (o6.trans ea) hab (o7.trans eb) hbb (o8.trans ec) hcb (by rw [if_pos z]; exact hQ))
      rw [h.leaf hv (by decide), ea, eb, ec]
      show fClose (rDivide (sw S 8 0 0) 4 (nI a) (mRead (sw S 8 0 0) (nI b)) (mRead (sw S 8 0 0) (nI c))) = _
      rw [rDivide, vc, if_pos z]
    · refine write_out (a := a) (v := M 700 b / M 700 c) h hab ?_ (MS.beg h37 fun d Q hQ => sp_X10_begin_4 hh (by omega) hs ht.2.1 (o5.trans hv) (o6.trans ea) hab (o7.trans eb) hbb (o8.trans ec) hcb (by rw [if_neg z]; exact hQ))
      rw [h.leaf hv (by decide), ea, eb, ec]
      show fClose (rDivide (sw S 8 0 0) 4 (nI a) (mRead (sw S 8 0 0) (nI b)) (mRead (sw S 8 0 0) (nI c))) = _
      rw [rDivide, vc, vb, if_neg z, if_pos rfl]
  · by_cases z : M 700 c = 0
    · refine throw_out (kd := 4) (x := 0) h ?_ (MS.beg h37 fun d Q hQ => sp_X10_begin_5 hh (by omega) hs ht.2.1 (o5.trans hv) (o6.trans ea) hab (o7.trans eb) hbb (o8.trans ec) hcb (by rw [if_pos z]; exact hQ))
      rw [h.leaf hv (by decide), ea, eb, ec]
      show fClose (rDivide (sw S 8 0 0) 5 (nI a) (mRead (sw S 8 0 0) (nI b)) (mRead (sw S 8 0 0) (nI c))) = _
      rw [rDivide, vc, if_pos z]
    · refine write_out (a := a) (v := M 700 b - M 700 b / M 700 c * M 700 c) h hab ?_ (MS.beg h37 fun d Q hQ => sp_X10_begin_5 hh (by omega) hs ht.2.1 (o5.trans hv) (o6.trans ea) hab (o7.trans eb) hbb (o8.trans ec) hcb (by rw [if_neg z]; exact hQ))
      rw [h.leaf hv (by decide), ea, eb, ec]
      show fClose (rDivide (sw S 8 0 0) 5 (nI a) (mRead (sw S 8 0 0) (nI b)) (mRead (sw S 8 0 0) (nI c))) = _
      rw [rDivide, vc, vb, if_neg z, if_neg (by decide)]
theorem run_21 (h : RunSt T k n fr rz wk bu re sb sr u w S M) (hv : T 0 (fr n) = 21) (ha : inN 8 (T 1 (fr n))) : Go T k (VV * (bu + re) + sW wk n + w3 (ht T (fr n))) S M := by
  obtain ⟨a, ea, hab⟩ := ha
  obtain ⟨-, -, -, -, o5, o6, o7, o8⟩ := h.of
  have ht := h.top
  have hmem := h.1.2.2.1
  obtain ⟨-, -, hh, -, hs, -, -, h37, -, -⟩ := id h
  refine write_out (a := a) (v := M 23 0) h hab ?_ (MS.beg h37 fun d Q hQ => sp_X10_begin_21 hh (by omega) hs ht.2.1 (o5.trans hv) (o6.trans ea) hab hQ)
  rw [h.leaf hv (by decide), ea, ← hmem.2.1]
  rfl
theorem run_17 (h : RunSt T k n fr rz wk bu re sb sr u w S M) (hv : T 0 (fr n) = 17) (ha : inN 8 (T 1 (fr n))) : Go T k (VV * (bu + re) + sW wk n + w3 (ht T (fr n))) S M := by
  obtain ⟨a, ea, hab⟩ := ha
  obtain ⟨-, -, -, -, o5, o6, o7, o8⟩ := h.of
  have ht := h.top
  obtain ⟨-, -, hh, -, hs, -, -, h37, -, -⟩ := id h
  refine throw_out (kd := 5) (x := M 700 a) h ?_ (MS.beg h37 fun d Q hQ => sp_X10_begin_17 hh (by omega) hs ht.2.1 (o5.trans hv) (o6.trans ea) hab hQ)
  rw [h.leaf hv (by decide), ea, ← h.var hab]
  rfl
theorem run_16 (h : RunSt T k n fr rz wk bu re sb sr u w S M) (hv : T 0 (fr n) = 16) (ha : inN 8 (T 1 (fr n))) : Go T k (VV * (bu + re) + sW wk n + w3 (ht T (fr n))) S M := by
  obtain ⟨a, ea, hab⟩ := ha
  obtain ⟨-, -, -, -, o5, o6, o7, o8⟩ := h.of
  have ht := h.top
  have hmem := h.1.2.2.1
  have hk := h.1.2.2.2.2.2.2.2.1
  obtain ⟨-, hd0, hh, -, hs, -, -, h37, -, -⟩ := id h
  have hS : rStep S = sw (sw (sw (sw S 8 0 0) 105 0 (M 700 a)) 8 0 1) 1105 0 (nI n) := by
    rw [h.leaf hv (by decide), ea]
    show fClose (sw (sw (sw S 8 0 0) 105 0 (mRead (sw S 8 0 0) (nI a))) 8 0 1) = _
    rw [h.var hab, fClose_e (n := n) (by rw [sw_ne (by decide), sw_ne (by decide), sw_ne (by decide)]; exact hd0) (by omega)]
  refine leaf_out (e := 1) h hS (MS.beg h37 fun d Q hQ => sp_X10_begin_16 hh (by omega) hs ht.2.1 (o5.trans hv) (o6.trans ea) hab hQ) (((((Df.rf.to 8 0 0).to 105 0 (M 700 a)).to 8 0 1).to 1105 0 _).mono rfl) (((Df.rf.to 23 0 _).tr df_gComes).mono rfl) (by rw [sw_eq]) rfl rfl rfl (Or.inr (Or.inl rfl)) ?_ hk
  obtain ⟨m1, m2, m3, m4, m5, m6, m7, m8⟩ := hmem
  exact ⟨m1, rfl, m3, m4, m5, m6, m7, m8⟩
/-- a row's place in both runs -/
theorem RunSt.row (h : RunSt T k n fr rz wk bu re sb sr u w S M) {r : Nat} (hr : r < 4) : ((M 800 r = -1 ∧ S 400 r = -1) ∨ ∃ x len at_ : Nat, M 800 r = nI x ∧ x < w ∧ M 1000 x = nI len ∧ M 1100 x = nI at_ ∧ S 400 r = nI len ∧ S 300 r = nI at_ ∧ at_ + len ≤ u) ∧ u ≤ 800 ∧ w ≤ 200 ∧ S 104 0 = nI u := by
  obtain ⟨-, -, ⟨-, -, m3, -, -, m6, -, -⟩, -, ⟨l1, l2, l3, l4⟩, -⟩ := h.1
  exact ⟨m6 r hr, by omega, by omega, m3⟩
theorem nI_ne_m1 {x : Nat} (h : x < 2000000000) : ¬ nI x = -1 := by
  intro e
  have := nI_toInt (n := x) (by omega)
  rw [e] at this
  have h2 : (-1 : Int32).toInt = -1 := rfl
  omega
theorem run_9 (h : RunSt T k n fr rz wk bu re sb sr u w S M) (hv : T 0 (fr n) = 9) (ha : inN 8 (T 1 (fr n))) (hb : inN 4 (T 2 (fr n))) : Go T k (VV * (bu + re) + sW wk n + w3 (ht T (fr n))) S M := by
  obtain ⟨a, ea, hab⟩ := ha
  obtain ⟨b, eb, hbb⟩ := hb
  obtain ⟨-, -, -, -, o5, o6, o7, o8⟩ := h.of
  have ht := h.top
  obtain ⟨-, -, hh, -, hs, -, -, h37, -, -⟩ := id h
  have hl := h.leaf hv (by decide)
  rw [ea, eb] at hl
  have hl : rStep S = fClose (rMeasure (sw S 8 0 0) (nI a) (nI b)) := hl
  rw [rMeasure, mLen_e hbb, sw_ne (by decide)] at hl
  obtain ⟨hr, hu, hw, -⟩ := h.row hbb
  rcases hr with ⟨r1, r2⟩ | ⟨x, len, at_, r1, r2, r3, r4, r5, r6, r7⟩
  · refine throw_out (kd := 1) (x := 0) h ?_ (MS.beg h37 fun d Q hQ => sp_X10_begin_9 hh (by omega) hs ht.2.1 (o5.trans hv) (o6.trans ea) hab (o7.trans eb) hbb (fun c => absurd r1 c) (by rw [if_pos r1]; exact hQ))
    rw [hl, if_pos r2]
  · refine write_out (a := a) (v := nI len) h hab ?_ (MS.beg h37 fun d Q hQ => sp_X10_begin_9 hh (by omega) hs ht.2.1 (o5.trans hv) (o6.trans ea) hab (o7.trans eb) hbb (fun _ => by rw [r1]; exact vp_in_nI (by omega) (by omega)) (by rw [if_neg (by rw [r1]; exact nI_ne_m1 (by omega)), r1, cl x, r3]; exact hQ))
    rw [hl, r5, if_neg (nI_ne_m1 (by omega))]
/-- the memory changed, END -/
theorem mem_out {S0 M0 : Sx} (h : RunSt T k n fr rz wk bu re sb sr u w S M) (hS : rStep S = fClose S0) (hM : MS M (gComes M0 n 0)) (dS : Df [8, 200, 105, 500, 400, 300] S S0) (dM : Df [700, 23, 800, 1200] M M0) (he : S0 8 0 = 0) (hmem : cMem u w S0 M0) : Go T k (VV * (bu + re) + sW wk n + w3 (ht T (fr n))) S M := by
  have ht := h.top
  have hd0 := h.2.1
  have hk := h.1.2.2.2.2.2.2.2.1
  rw [fClose_e (n := n) (by rw [dS.at 1105 0 rfl]; exact hd0) (by omega)] at hS
  have d1 : Df [1105, 8, 200, 105, 500, 400, 300] S (sw S0 1105 0 (nI n)) := dS.to 1105 0 _
  have d2 := dM.tr (df_gComes (n := n) (t := 0))
  exact leaf_out (e := 0) h hS hM (d1.mono rfl) (d2.mono rfl) (by rw [sw_eq]) rfl (by rw [sw_ne (by decide)]; exact he) rfl (Or.inl rfl) (hmem.cg (Df.rf.to 1105 0 (nI n)) df_gComes rfl rfl) (hk.cg d1 d2 rfl rfl)
theorem run_10 (h : RunSt T k n fr rz wk bu re sb sr u w S M) (hv : T 0 (fr n) = 10) (ha : inN 4 (T 1 (fr n))) : Go T k (VV * (bu + re) + sW wk n + w3 (ht T (fr n))) S M := by
  obtain ⟨a, ea, hab⟩ := ha
  obtain ⟨-, -, -, -, o5, o6, o7, o8⟩ := h.of
  have ht := h.top
  obtain ⟨-, -, hh, -, hs, -, -, h37, -, -⟩ := id h
  have hl := h.leaf hv (by decide)
  rw [ea] at hl
  have hl : rStep S = fClose (mForget (sw S 8 0 0) (nI a)) := hl
  rw [mForget, if_pos (show inb (nI a) 4 = true from inb_nI (b := 4) hab (by omega)), cl a] at hl
  refine mem_out h hl (MS.beg h37 fun d Q hQ => sp_X10_begin_10 hh (by omega) hs ht.2.1 (o5.trans hv) (o6.trans ea) hab hQ) (((Df.rf.to 8 0 0).to 400 a (-1)).mono rfl) ((Df.rf.to 800 a _).mono rfl) rfl ?_
  obtain ⟨m1, m2, m3, m4, m5, m6, m7, m8⟩ := h.1.2.2.1
  refine ⟨m1, m2, m3, m4, m5, fun r hr => ?_, m7, m8⟩
  by_cases e : r = a
  · subst e
    exact Or.inl ⟨sw_eq, sw_eq⟩
  · rcases m6 r hr with ⟨x1, x2⟩ | ⟨x, len, at_, x1, x2⟩
    · exact Or.inl ⟨by rw [sw_ix e]; exact x1, by rw [sw_ix e, sw_ne (by decide)]; exact x2⟩
    · refine Or.inr ⟨x, len, at_, by rw [sw_ix e]; exact x1, ?_⟩
      rw [sw_ix e, sw_ne (by decide)]
      exact x2
theorem run_11 (h : RunSt T k n fr rz wk bu re sb sr u w S M) (hv : T 0 (fr n) = 11) (ha : inN 4 (T 1 (fr n))) (hb : inN 4 (T 2 (fr n))) : Go T k (VV * (bu + re) + sW wk n + w3 (ht T (fr n))) S M := by
  obtain ⟨a, ea, hab⟩ := ha
  obtain ⟨b, eb, hbb⟩ := hb
  obtain ⟨-, -, -, -, o5, o6, o7, o8⟩ := h.of
  have ht := h.top
  obtain ⟨-, -, hh, -, hs, -, -, h37, -, -⟩ := id h
  have hl := h.leaf hv (by decide)
  rw [ea, eb] at hl
  have hl : rStep S = fClose (mShare (sw S 8 0 0) (nI a) (nI b)) := hl
  rw [mShare, if_pos (show inb (nI a) 4 = true from inb_nI (b := 4) hab (by omega)), if_pos (show inb (nI b) 4 = true from inb_nI (b := 4) hbb (by omega)), cl a, cl b] at hl
  refine mem_out h hl (MS.beg h37 fun d Q hQ => sp_X10_begin_11 hh (by omega) hs ht.2.1 (o5.trans hv) (o6.trans ea) hab (o7.trans eb) hbb hQ) ((((Df.rf.to 8 0 0).to 300 a _).to 400 a _).mono rfl) ((Df.rf.to 800 a _).mono rfl) rfl ?_
  obtain ⟨m1, m2, m3, m4, m5, m6, m7, m8⟩ := h.1.2.2.1
  refine ⟨m1, m2, m3, m4, m5, fun r hr => ?_, m7, m8⟩
  by_cases e : r = a
  · subst e
    rcases m6 b hbb with ⟨x1, x2⟩ | ⟨x, len, at_, x1, x2, x3, x4, x5, x6, x7⟩
    · exact Or.inl ⟨by rw [sw_eq]; exact x1, by rw [sw_eq]; exact x2⟩
    · exact Or.inr ⟨x, len, at_, by rw [sw_eq]; exact x1, x2, x3, x4, by rw [sw_eq]; exact x5, by rw [sw_ne (by decide), sw_eq]; exact x6, x7⟩
  · rcases m6 r hr with ⟨x1, x2⟩ | ⟨x, len, at_, x1, x2, x3, x4, x5, x6, x7⟩
    · exact Or.inl ⟨by rw [sw_ix e]; exact x1, by rw [sw_ix e, sw_ne (by decide), sw_ne (by decide)]; exact x2⟩
    · exact Or.inr ⟨x, len, at_, by rw [sw_ix e]; exact x1, x2, x3, x4, by rw [sw_ix e, sw_ne (by decide), sw_ne (by decide)]; exact x5, by rw [sw_ne (by decide), sw_ix e, sw_ne (by decide)]; exact x6, x7⟩
end LEAF
