def layR : Lay := [.inr (5, [some (some 17), some (some 1), some (some 6), some (some 9), some (some 11), none, none, none, none, none, none]), .inr (2, [some (some 2), some (some 3), some (some 4), some (some 5), none, none]), .inl 8, .inl 4, .inl 4, .inl 800, .inr (4, [some (some 7), some (some 8), none, none, none, none, none, none]), .inl 5, .inl 30, .inr (1, [some (some 10), none]), .inl 4, .inr (0, [some (some 12), some (some 13), some (some 14), some (some 15), some (some 16), none]), .inl 128, .inl 128, .inl 128, .inl 128, .inl 128, .inr (3, [some (some 18), some (some 19), some (some 20), some (some 21), some (some 22), some (some 23), none]), .inl 120, .inl 120, .inl 120, .inl 120, .inl 120, .inl 8]
theorem okR : okL layR = true := by decide +kernel
theorem lR_0 : layR[0]? = some (.inr (5, [some (some 17), some (some 1), some (some 6), some (some 9), some (some 11), none, none, none, none, none, none])) := rfl
theorem lR_1 : layR[1]? = some (.inr (2, [some (some 2), some (some 3), some (some 4), some (some 5), none, none])) := rfl
theorem lR_2 : layR[2]? = some (.inl 8) := rfl
theorem lR_3 : layR[3]? = some (.inl 4) := rfl
theorem lR_4 : layR[4]? = some (.inl 4) := rfl
theorem lR_5 : layR[5]? = some (.inl 800) := rfl
theorem lR_6 : layR[6]? = some (.inr (4, [some (some 7), some (some 8), none, none, none, none, none, none])) := rfl
theorem lR_7 : layR[7]? = some (.inl 5) := rfl
theorem lR_8 : layR[8]? = some (.inl 30) := rfl
theorem lR_9 : layR[9]? = some (.inr (1, [some (some 10), none])) := rfl
theorem lR_10 : layR[10]? = some (.inl 4) := rfl
theorem lR_11 : layR[11]? = some (.inr (0, [some (some 12), some (some 13), some (some 14), some (some 15), some (some 16), none])) := rfl
theorem lR_12 : layR[12]? = some (.inl 128) := rfl
theorem lR_13 : layR[13]? = some (.inl 128) := rfl
theorem lR_14 : layR[14]? = some (.inl 128) := rfl
theorem lR_15 : layR[15]? = some (.inl 128) := rfl
theorem lR_16 : layR[16]? = some (.inl 128) := rfl
theorem lR_17 : layR[17]? = some (.inr (3, [some (some 18), some (some 19), some (some 20), some (some 21), some (some 22), some (some 23), none])) := rfl
theorem lR_18 : layR[18]? = some (.inl 120) := rfl
theorem lR_19 : layR[19]? = some (.inl 120) := rfl
theorem lR_20 : layR[20]? = some (.inl 120) := rfl
theorem lR_21 : layR[21]? = some (.inl 120) := rfl
theorem lR_22 : layR[22]? = some (.inl 120) := rfl
theorem lR_23 : layR[23]? = some (.inl 8) := rfl
def layM : Lay := [.inr (7, [none, none, some (some 1), some (some 2), some (some 3), some (some 4), some (some 5), some (some 6), some (some 7), some (some 8), some (some 9), none, some (some 10), some (some 11), none, some (some 12), none, none, none, none, some (some 13), none, some (some 14), none, none, none, none, none, none, some (some 15), none, some (some 16), some (some 17), some (some 18), some (some 19), some (some 20), none, none, none, some (some 21), some (some 22)]), .inl 120, .inl 120, .inl 120, .inl 120, .inl 120, .inl 8, .inl 8, .inl 4, .inl 4, .inl 300, .inl 300, .inl 1400, .inl 5, .inl 30, .inl 4, .inl 180, .inl 180, .inl 180, .inl 180, .inl 180, .inl 16, .inl 4000]
theorem okM : okL layM = true := by decide +kernel
theorem lM_0 : layM[0]? = some (.inr (7, [none, none, some (some 1), some (some 2), some (some 3), some (some 4), some (some 5), some (some 6), some (some 7), some (some 8), some (some 9), none, some (some 10), some (some 11), none, some (some 12), none, none, none, none, some (some 13), none, some (some 14), none, none, none, none, none, none, some (some 15), none, some (some 16), some (some 17), some (some 18), some (some 19), some (some 20), none, none, none, some (some 21), some (some 22)])) := rfl
theorem lM_1 : layM[1]? = some (.inl 120) := rfl
theorem lM_2 : layM[2]? = some (.inl 120) := rfl
theorem lM_3 : layM[3]? = some (.inl 120) := rfl
theorem lM_4 : layM[4]? = some (.inl 120) := rfl
theorem lM_5 : layM[5]? = some (.inl 120) := rfl
theorem lM_6 : layM[6]? = some (.inl 8) := rfl
theorem lM_7 : layM[7]? = some (.inl 8) := rfl
theorem lM_8 : layM[8]? = some (.inl 4) := rfl
theorem lM_9 : layM[9]? = some (.inl 4) := rfl
theorem lM_10 : layM[10]? = some (.inl 300) := rfl
theorem lM_11 : layM[11]? = some (.inl 300) := rfl
theorem lM_12 : layM[12]? = some (.inl 1400) := rfl
theorem lM_13 : layM[13]? = some (.inl 5) := rfl
theorem lM_14 : layM[14]? = some (.inl 30) := rfl
theorem lM_15 : layM[15]? = some (.inl 4) := rfl
theorem lM_16 : layM[16]? = some (.inl 180) := rfl
theorem lM_17 : layM[17]? = some (.inl 180) := rfl
theorem lM_18 : layM[18]? = some (.inl 180) := rfl
theorem lM_19 : layM[19]? = some (.inl 180) := rfl
theorem lM_20 : layM[20]? = some (.inl 180) := rfl
theorem lM_21 : layM[21]? = some (.inl 16) := rfl
theorem lM_22 : layM[22]? = some (.inl 4000) := rfl
theorem cc_cat {av : List Value} (h : av.all (fun w => w.category == 1) = true) : ∀ w ∈ av, w.category = 1 := fun w hw => by simpa using List.all_eq_true.mp h w hw
theorem cc_ls {ls : AL} {av : List Value} (h : ls = av.map some ++ List.replicate (ls.length - av.length) none) : ∀ (i : Nat) (v : Value), ls[i]? = some (some v) → av[i]? = some v := by
  intro i v hi
  rw [h, List.getElem?_append] at hi
  split at hi
  · simpa using hi
  · have := List.mem_of_getElem? hi
    simp at this
theorem aj_tsn {d : Nat} {k : MK} {lay : Lay} {pc : Nat} {ls : AL} {st : List Value} {S : Sx} {Q : Option Value → Sx → Prop} {x : Int32} (kk : ∀ y : Int32, y = x → AJ d k lay pc ls (.int y :: st) S Q) : AJ d k lay pc ls (.int x :: st) S Q := kk x rfl
def inb (x n : Int32) : Bool := decide (0 ≤ x) && decide (x < n)
def bi (b : Bool) : Int32 := if b then 1 else 0
theorem bi_eq0 {b : Bool} : bi b = 0 ↔ b = false := by cases b <;> decide
theorem bi_ne0 {b : Bool} : ¬ bi b = 0 ↔ b = true := by cases b <;> decide
theorem bi_t : bi true = 1 := rfl
theorem bi_f : bi false = 0 := rfl
theorem bi_nar (b : Bool) : narrow .boolean (.int (bi b)) = .int (bi b) := by cases b <;> rfl
theorem inb_neg {x n : Int32} (h : x < 0) : inb x n = false := by
  have : ¬ (0 : Int32) ≤ x := Int32.not_le.mpr h
  simp [inb, this]
theorem inb_ge {x n : Int32} (h : n ≤ x) : inb x n = false := by
  have : ¬ x < n := Int32.not_lt.mpr h
  simp [inb, this]
theorem inb_in {x n : Int32} (h1 : ¬ x < 0) (h2 : ¬ n ≤ x) : inb x n = true := by
  have a : (0 : Int32) ≤ x := Int32.not_lt.mp h1
  have b : x < n := Int32.not_le.mp h2
  simp [inb, a, b]
theorem inb_iff {x n : Int32} : inb x n = true ↔ 0 ≤ x.toInt ∧ x.toInt < n.toInt := by
  simp only [inb, Bool.and_eq_true, decide_eq_true_eq, Int32.le_iff_toInt_le, Int32.lt_iff_toInt_lt]
  rfl
theorem vin {x m : Int32} {n : Nat} (hm : m.toInt = n) (h : inb x m = true) : vp_in x n := vp_in_iff.mpr ⟨(inb_iff.mp h).1, hm ▸ (inb_iff.mp h).2⟩
theorem vinb {x m : Int32} {n : Nat} (hm : m.toInt = n) (h : ¬ bi (inb x m) = 0) : vp_in x n := vin hm (bi_ne0.mp h)
def fil (S : Sx) (f n : Nat) (v : Int32) : Sx := fun g j => if g = f ∧ j < n then v else S g j
def imax (x y : Int32) : Int32 := if x < y then y else x
theorem fill_loop {d : Nat} {lay : Lay} {b n : Nat} {v : Int32} {Q : Option Value → Sx → Prop} (hok : okL lay = true) (hb : lay[b]? = some (.inl n)) (hn : n < 2 ^ 31) : ∀ (t i : Nat) (S : Sx), i + t = n → Q none (fun g j => if g = 100 * b ∧ i ≤ j ∧ j < n then v else S g j) → AJ d kJ7_fill_53178 lay 5 [some (.ref b), some (.int v), some (.int (nI i)), some (.int (nI n))] [] S Q := by
  intro t
  induction t with
  | zero =>
    intro i S hi hQ
    refine aj_iload_n (q := 6) (i := 2) dJ7_fill_53178_5 rfl rfl rfl ?_
    refine aj_iload_n (q := 7) (i := 3) dJ7_fill_53178_6 rfl rfl rfl ?_
    refine aj_icmp_ge (q := 10) (tgt := 20) dJ7_fill_53178_7 rfl (by decide) (fun c => ?_) (fun c => absurd (nI_le (by omega) (by omega)) c)
    refine aj_return dJ7_fill_53178_20 rfl ?_
    have e : (fun g j => if g = 100 * b ∧ i ≤ j ∧ j < n then v else S g j) = S := by
      funext g j
      rw [if_neg (by omega)]
    rw [e] at hQ
    exact hQ
  | succ t ih =>
    intro i S hi hQ
    refine aj_iload_n (q := 6) (i := 2) dJ7_fill_53178_5 rfl rfl rfl ?_
    refine aj_iload_n (q := 7) (i := 3) dJ7_fill_53178_6 rfl rfl rfl ?_
    refine aj_icmp_ge (q := 10) (tgt := 20) dJ7_fill_53178_7 rfl (by decide) (fun c => absurd c (nI_ge (by omega) (by omega))) (fun c => ?_)
    refine aj_aload_n (q := 11) (i := 0) dJ7_fill_53178_10 rfl rfl rfl ?_
    refine aj_iload_n (q := 12) (i := 2) dJ7_fill_53178_11 rfl rfl rfl ?_
    refine aj_iload_n (q := 13) (i := 1) dJ7_fill_53178_12 rfl rfl rfl ?_
    refine aj_iastore (q := 14) (f := 100 * b) hok dJ7_fill_53178_13 rfl hb rfl (vp_in_nI (by omega) hn) ?_
    refine aj_iinc (q := 17) (i := 2) (ls' := [_, _, _, _]) dJ7_fill_53178_14 rfl rfl (nI_1 i) (by decide) rfl ?_
    refine aj_goto (tgt := 5) dJ7_fill_53178_17 (by decide) ?_
    refine ih (i + 1) _ (by omega) ?_
    rw [nI_clamp (show i < 2 ^ 31 by omega)]
    have e : (fun g j => if g = 100 * b ∧ i + 1 ≤ j ∧ j < n then v else sw S (100 * b) i v g j) = (fun g j => if g = 100 * b ∧ i ≤ j ∧ j < n then v else S g j) := by
      funext g j
      unfold sw
      by_cases h1 : g = 100 * b
      · by_cases h2 : j = i
        · subst h2
          rw [if_neg (by omega), if_pos h1, if_pos rfl, if_pos (by omega)]
        · by_cases h3 : i + 1 ≤ j ∧ j < n
          · rw [if_pos ⟨h1, h3⟩, if_pos ⟨h1, by omega, h3.2⟩]
          · rw [if_neg (by omega), if_pos h1, if_neg h2, if_neg (by omega)]
      · rw [if_neg (by omega), if_neg h1, if_neg (by omega)]
    rw [e]
    exact hQ
theorem sp_fill {d : Nat} {lay : Lay} {b n : Nat} {v : Int32} {S : Sx} {Q : Option Value → Sx → Prop} (hok : okL lay = true) (hb : lay[b]? = some (.inl n)) (hn : n < 2 ^ 31) (hQ : Q none (fil S (100 * b) n v)) : CC d kJ7_fill_53178 lay [.ref b, .int v] S Q := by
  refine cc_intro [some _, some _, none, none] (by decide) (cc_cat (by rfl)) (Nat.le_of_ble_eq_true rfl) (cc_ls (by rfl)) ?_
  refine aj_iconst (q := 1) (v := 0) dJ7_fill_53178_0 rfl (by decide) ?_
  refine aj_istore_n (q := 2) (i := 2) (ls' := [_, _, _, _]) dJ7_fill_53178_1 rfl rfl (by decide) rfl ?_
  refine aj_aload_n (q := 3) (i := 0) dJ7_fill_53178_2 rfl rfl rfl ?_
  refine aj_alen (q := 4) dJ7_fill_53178_3 rfl hb rfl ?_
  refine aj_istore_n (q := 5) (i := 3) (ls' := [_, _, _, _]) dJ7_fill_53178_4 rfl rfl (by decide) rfl ?_
  refine fill_loop hok hb hn n 0 S (by omega) ?_
  have e : (fun g j => if g = 100 * b ∧ 0 ≤ j ∧ j < n then v else S g j) = fil S (100 * b) n v := by
    funext g j
    simp [fil]
  rw [e]
  exact hQ
theorem cm_X2_29 : Cond.methodLink RX2 29 yJ9_max_7cf53 ∈ TT := List.mem_filter.mpr ⟨List.mem_of_getElem? (i := 460) (by decide +kernel), by decide +kernel⟩
theorem cm_X5_60 : Cond.methodLink RX5 60 yJ9_max_7cf53 ∈ TT := List.mem_filter.mpr ⟨List.mem_of_getElem? (i := 299) (by decide +kernel), by decide +kernel⟩
theorem cm_X7_221 : Cond.methodLink RX7 221 yJ9_max_7cf53 ∈ TT := List.mem_filter.mpr ⟨List.mem_of_getElem? (i := 384) (by decide +kernel), by decide +kernel⟩
theorem cm_static : Cond.static yJ9_max_7cf53 ∈ TT := List.mem_filter.mpr ⟨List.mem_of_getElem? (i := 300) (by decide +kernel), by decide +kernel⟩
theorem aj_max {d : Nat} {k : MK} {lay : Lay} {pc q idx : Nat} {ls : AL} {st : List Value} {S : Sx} {Q : Option Value → Sx → Prop} {x y : Int32} (F : Cond.methodLink k.1.cls idx yJ9_max_7cf53 ∈ TT) (hd : decode k.2.1 pc = .ok (.invokestatic idx, 3)) (hq : pc + 3 = q) (hr : (st.map (fun v => v.category)).sum ≤ 8) (kk : AJ (d + 1) k lay q ls (.int (imax x y) :: st) S Q) : AJ (d + 1) k lay pc ls (.int y :: .int x :: st) S Q := by
  subst hq
  intro p l e s m args below meth c dC dI cA ad A H locs lsA hC hW hL
  have hcat : ((st.map (cv ad)).map fun v => v.category).sum ≤ 8 := by
    rw [List.map_map]
    have : ((fun v => v.category) ∘ cv ad) = (fun v : Value => v.category) := by funext v; exact cv_cat ad v
    rw [this]
    exact hr
  have hts := hC.2.2.2.2.2.1
  have hcode : (Cond.code Lib.Math.max.name Lib.Math.max.code 2 (some .int)).before args s = true := by
    have h := hts _ mk_J9_max_7cf53.2.1
    have e : cJ9_max_7cf53 = Lib.Math.max.code := by decide +kernel
    have h2 : (Cond.code yJ9_max_7cf53 cJ9_max_7cf53 2 (some .int)).before args s = true := h
    rw [e] at h2
    exact h2
  exact va_mmax hC.1 hC.2.1 (hC.2.2.2.1.trans hL.1.symm) hC.2.2.2.2.1 (hts _ F) (hts _ cm_static) (hts _ mk_J9_max_7cf53.1) hcode (show 1 ≤ d + 1 by omega) (show _ + 13 ≤ 40 * (d + 1) by omega) (Nat.le_refl _) (Nat.le_refl _) hd (kk p l e s m args below meth c dC dI cA ad A H locs lsA hC hW hL)
theorem sp_isBelow {d : Nat} {lay : Lay} {x y : Int32} {S : Sx} {Q : Option Value → Sx → Prop} (hQ : Q (some (.int (bi (inb x y)))) S) : CC d kX9_isBelow lay [.int x, .int y] S Q := by
  refine cc_intro [some _, some _] (by decide) (cc_cat (by rfl)) (Nat.le_of_ble_eq_true rfl) (cc_ls (by rfl)) ?_
  refine aj_iload_n (q := 1) (i := 0) dX9_isBelow_0 rfl rfl rfl ?_
  refine aj_if_lt (q := 4) (tgt := 13) dX9_isBelow_1 rfl (by decide) (fun c1_1 => ?_) (fun c1_1 => ?_)
  · refine aj_iconst (q := 14) (v := 0) dX9_isBelow_13 rfl (by decide) ?_
    refine aj_zreturn dX9_isBelow_14 rfl (by decide) ?_
    first | (rw [inb_neg (by assumption)] at hQ; exact hQ) | (rw [inb_ge (by assumption)] at hQ; exact hQ) | (rw [inb_in (by assumption) (by assumption)] at hQ; exact hQ)
  · refine aj_iload_n (q := 5) (i := 0) dX9_isBelow_4 rfl rfl rfl ?_
    refine aj_iload_n (q := 6) (i := 1) dX9_isBelow_5 rfl rfl rfl ?_
    refine aj_icmp_ge (q := 9) (tgt := 13) dX9_isBelow_6 rfl (by decide) (fun c6_2 => ?_) (fun c6_2 => ?_)
    · refine aj_iconst (q := 14) (v := 0) dX9_isBelow_13 rfl (by decide) ?_
      refine aj_zreturn dX9_isBelow_14 rfl (by decide) ?_
      first | (rw [inb_neg (by assumption)] at hQ; exact hQ) | (rw [inb_ge (by assumption)] at hQ; exact hQ) | (rw [inb_in (by assumption) (by assumption)] at hQ; exact hQ)
    · refine aj_iconst (q := 10) (v := 1) dX9_isBelow_9 rfl (by decide) ?_
      refine aj_goto (tgt := 14) dX9_isBelow_10 (by decide) ?_
      refine aj_zreturn dX9_isBelow_14 rfl (by decide) ?_
      first | (rw [inb_neg (by assumption)] at hQ; exact hQ) | (rw [inb_ge (by assumption)] at hQ; exact hQ) | (rw [inb_in (by assumption) (by assumption)] at hQ; exact hQ)
