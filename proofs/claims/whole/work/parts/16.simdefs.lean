/-! ===== the run of the class beside the run of the reference ===== -/
/-- S' differs from S in the fields D alone -/
def Df (D : List Nat) (S S' : Sx) : Prop := ∀ f, f ∉ D → ∀ i, S' f i = S f i
theorem Df.rf {S : Sx} : Df [] S S := fun _ _ _ => rfl
theorem Df.to {D : List Nat} {S S' : Sx} (h : Df D S S') (f i : Nat) (v : Int32) : Df (f :: D) S (sw S' f i v) := fun g hg j => by
  rw [sw_ne (fun e => hg (by rw [e]; exact List.mem_cons_self))]
  exact h g (fun e => hg (List.mem_cons_of_mem _ e)) j
theorem Df.tr {D E : List Nat} {S S' S2 : Sx} (h : Df D S S') (h2 : Df E S' S2) : Df (E ++ D) S S2 := fun g hg j => by
  rw [h2 g (fun e => hg (List.mem_append_left _ e)) j]
  exact h g (fun e => hg (List.mem_append_right _ e)) j
theorem Df.mono {D E : List Nat} {S S' : Sx} (h : Df D S S') (hs : D.all (fun f => E.contains f) = true) : Df E S S' := fun g hg j => h g (fun e => hg (by simpa using List.all_eq_true.mp hs g e)) j
theorem Df.at {D : List Nat} {S S' : Sx} (h : Df D S S') (f i : Nat) (hf : (!D.contains f) = true) : S' f i = S f i := h f (by simpa using hf) i
theorem Df.ite {D : List Nat} {S A B : Sx} {c : Prop} [Decidable c] (ha : Df D S A) (hb : Df D S B) : Df D S (if c then A else B) := by
  split
  · exact ha
  · exact hb
/-! the class's parts -/
theorem df_fClose {S : Sx} : Df [1105] S (fClose S) := Df.ite (Df.rf.mono rfl) (Df.rf.to _ _ _)
theorem df_fOpen {S : Sx} {s : Int32} : Df [1105, 1300, 1200] S (fOpen S s) := Df.ite (Df.rf.mono rfl) (((Df.rf.to _ _ _).to _ _ _).to _ _ _)
theorem df_fSetStage {S : Sx} {g : Int32} : Df [1300] S (fSetStage S g) := Df.ite (Df.rf.mono rfl) (Df.rf.to _ _ _)
theorem df_fKeep {S : Sx} {a b c : Int32} : Df [1600, 1500, 1400] S (fKeep S a b c) := Df.ite (Df.rf.mono rfl) (((Df.rf.to _ _ _).to _ _ _).to _ _ _)
theorem df_lTake {S : Sx} {k : Int32} : Df [901, 1000] S (lTake S k) := Df.ite ((Df.rf.to _ _ _).to _ _ _) (Df.rf.mono rfl)
theorem df_lFree {S : Sx} {k : Int32} : Df [1000] S (lFree S k) := Df.ite (Df.rf.to _ _ _) (Df.rf.mono rfl)
theorem df_mWrite {S : Sx} {x v : Int32} : Df [200] S (mWrite S x v) := Df.ite (Df.rf.to _ _ _) (Df.rf.mono rfl)
theorem df_mStore {S : Sx} {r i v : Int32} : Df [500] S (mStore S r i v) := Df.ite (Df.rf.to _ _ _) (Df.rf.mono rfl)
theorem df_mForget {S : Sx} {r : Int32} : Df [400] S (mForget S r) := Df.ite (Df.rf.to _ _ _) (Df.rf.mono rfl)
theorem df_mShare {S : Sx} {r f : Int32} : Df [400, 300] S (mShare S r f) := Df.ite (Df.ite ((Df.rf.to _ _ _).to _ _ _) (Df.rf.mono rfl)) (Df.rf.mono rfl)
theorem df_mMake {S : Sx} {r n : Int32} : Df [104, 400, 300] S (mMake S r n) := Df.ite (Df.ite (((Df.rf.to _ _ _).to _ _ _).to _ _ _) (Df.rf.mono rfl)) (Df.rf.mono rfl)
theorem df_pPay {S : Sx} {m p : Int32} : Df [700, 603, 604, 605, 606] S (pPay S m p) := by
  refine Df.ite ?_ (Df.rf.mono rfl)
  refine Df.mono (D := [700, 605, 603, 606, 604]) (Df.to (Df.ite ?_ ?_) _ _ _) rfl
  · exact ((Df.rf.to _ _ _).to _ _ _).mono rfl
  · exact ((Df.rf.to _ _ _).to _ _ _).mono rfl
theorem df_pNote {S : Sx} {s : Int32} : Df [602, 800] S (pNote S s) := Df.ite (Df.rf.mono rfl) ((Df.rf.to _ _ _).to _ _ _)
theorem df_rRaise {S : Sx} {k n : Int32} : Df [10, 9, 8] S (rRaise S k n) := ((Df.rf.to _ _ _).to _ _ _).to _ _ _
/-! the reference's parts -/
theorem df_gComes {S : Sx} {n : Nat} {t : Int32} : Df [37, 30] S (gComes S n t) := (Df.rf.to _ _ _).to _ _ _
theorem df_gPop {S : Sx} {n : Nat} : Df [30] S (gPop S n) := Df.rf.to _ _ _
theorem df_gPush {S : Sx} {n : Nat} {t : Int32} : Df [37, 30, 1700, 1600] S (gPush S n t) := (((Df.rf.to _ _ _).to _ _ _).to _ _ _).to _ _ _
theorem df_gThrow {S : Sx} {n : Nat} {k x : Int32} : Df [37, 30, 28, 27] S (gThrow S n k x) := (((Df.rf.to _ _ _).to _ _ _).to _ _ _).to _ _ _
theorem df_gNote {S : Sx} {s : Int32} : Df [21, 1400] S (gNote S s) := Df.ite (Df.rf.mono rfl) ((Df.rf.to _ _ _).to _ _ _)
theorem df_gLeave {S : Sx} {i s : Nat} : Df [36, 900] S (gLeave S i s) := fun f hf j => gLeave_ne (by intro e; subst e; simp at hf) (by intro e; subst e; simp at hf)
theorem df_gPay {S : Sx} {k p : Int32} (h : gPayB S p = true) : Df [1300, 16, 17, 18, 19] S (gPayS S k p) := fun f hf j => gPay_ne h (by simp at hf; simp [payFree]; omega)
theorem df_gEntM {P : Sx} : Df [24, 36] P (gEntM P) := (Df.rf.to _ _ _).to _ _ _
theorem df_gLkM {S : Sx} {k : Nat} : Df [25, 900] S (gLkM S k) := (Df.rf.to _ _ _).to _ _ _
theorem df_gFinW {S : Sx} {n : Nat} : Df [2000, 1900, 1800] S (gFinW S n) := ((Df.rf.to _ _ _).to _ _ _).to _ _ _
theorem df_zr {S : Sx} {f u z : Nat} : Df [f] S (zr S f u z) := fun g hg j => zr_ne (by intro e; subst e; simp at hg)
theorem df_gMade {P : Sx} {n a w u z : Nat} : Df [37, 30, 11, 800, 14, 1200, 1100, 1000] P (gMade P n a w u z) :=
  (((((((Df.rf.to 1000 w (nI z)).to 1100 w (nI u)).tr (df_zr (f := 1200) (u := u) (z := z))).to 14 0 (nI (u + z))).to 800 a (nI w)).to 11 0 (nI (w + 1))).to 30 0 (nI n)).to 37 0 0
/-! the class's parts where the depth is known -/
theorem i_lt {a b : Nat} (ha : a < 2000000000) (hb : b < 2000000000) : nI a < nI b ↔ a < b := nI_ltI (by omega) (by omega)
theorem i_le {a b : Nat} (ha : a < 2000000000) (hb : b < 2000000000) : nI a ≤ nI b ↔ a ≤ b := nI_leI (by omega) (by omega)
theorem inb_nI {a b : Nat} (h : a < b) (hb : b < 2000000000) : inb (nI a) (nI b) = true := inb_in (nI_pos (by omega)) (nI_ge h (by omega))
theorem fClose_e {S : Sx} {n : Nat} (hd : S 1105 0 = nI (n + 1)) (hn : n < 1000) : fClose S = sw S 1105 0 (nI n) := by
  rw [fClose, if_neg (by rw [hd]; exact nI_nle (by omega) (by omega)), hd, nI_pred]
theorem fOpen_e {S : Sx} {n : Nat} {p : Int32} (hd : S 1105 0 = nI n) (hn : n < 128) : fOpen S p = sw (sw (sw S 1200 n p) 1300 n 0) 1105 0 (nI (n + 1)) := by
  rw [fOpen, if_neg (by rw [hd]; exact nI_ge (a := n) (b := 128) hn (by omega)), hd, cl n, nI_1]
theorem fTop_e {S : Sx} {n : Nat} (hd : S 1105 0 = nI (n + 1)) (hn : n < 1000) : fTop S = n := by
  rw [fTop, hd, nI_pred, cl n]
theorem fSetStage_e {S : Sx} {n : Nat} {g : Int32} (hd : S 1105 0 = nI (n + 1)) (hn : n < 1000) : fSetStage S g = sw S 1300 n g := by
  rw [fSetStage, if_neg (by rw [hd]; exact nI_nle (by omega) (by omega)), fTop_e hd hn]
theorem fKeep_e {S : Sx} {n : Nat} {a b c : Int32} (hd : S 1105 0 = nI (n + 1)) (hn : n < 1000) : fKeep S a b c = sw (sw (sw S 1400 n a) 1500 n b) 1600 n c := by
  rw [fKeep, if_neg (by rw [hd]; exact nI_nle (by omega) (by omega)), fTop_e hd hn]
theorem fGet_e {S : Sx} {n f : Nat} {z : Int32} (hd : S 1105 0 = nI (n + 1)) (hn : n < 1000) : fGet S f z = S f n := by
  rw [fGet, if_neg (by rw [hd]; exact nI_nle (by omega) (by omega)), fTop_e hd hn]
def cPush (S : Sx) (n : Nat) (g p : Int32) : Sx := sw (sw (sw (sw S 1300 n g) 1200 (n + 1) p) 1300 (n + 1) 0) 1105 0 (nI (n + 2))
theorem rDoPart_e {S : Sx} {n : Nat} {g p : Int32} (hd : S 1105 0 = nI (n + 1)) (hn : n + 1 < 128) : rDoPart S g p = cPush S n g p := by
  rw [rDoPart, fSetStage_e hd (by omega), fOpen_e (n := n + 1) (by rw [sw_ne (by decide)]; exact hd) hn]
  rfl
theorem df_cPush {S : Sx} {n : Nat} {g p : Int32} : Df [1105, 1300, 1200] S (cPush S n g p) := Df.mono (D := [1105, 1300, 1200, 1300]) ((((Df.rf.to _ _ _).to _ _ _).to _ _ _).to _ _ _) rfl
theorem gOf_e {S : Sx} {f s k : Nat} {z : Int32} (hk : S 1706 0 = nI k) (hs : s < k) (hb : k ≤ 120) : gOf S f z (nI s) = S f s := by
  rw [gOf, if_pos (by rw [hk]; exact inb_nI hs (by omega)), cl s]
theorem mRead_e {S : Sx} {a : Nat} (ha : a < 8) : mRead S (nI a) = S 200 a := by
  rw [mRead, if_pos (show inb (nI a) 8 = true from inb_nI (b := 8) ha (by omega)), cl a]
theorem mWrite_e {S : Sx} {a : Nat} {v : Int32} (ha : a < 8) : mWrite S (nI a) v = sw S 200 a v := by
  rw [mWrite, if_pos (show inb (nI a) 8 = true from inb_nI (b := 8) ha (by omega)), cl a]
theorem mLen_e {S : Sx} {a : Nat} (ha : a < 4) : mLen S (nI a) = S 400 a := by
  rw [mLen, if_pos (show inb (nI a) 4 = true from inb_nI (b := 4) ha (by omega)), cl a]
theorem gBody_e {S : Sx} {a : Nat} (ha : a < 8) : gBody S (nI a) = S 2300 a := by
  rw [gBody, if_pos (show inb (nI a) 8 = true from inb_nI (b := 8) ha (by omega)), cl a]
/-! what the two runs have in common -/
def inN (b : Nat) (x : Int32) : Prop := ∃ v : Nat, x = nI v ∧ v < b
def ht (T : Sx) (s : Nat) : Nat := (T 4 s).toNatClampNeg
def Kid (T : Sx) (s : Nat) (x : Int32) : Prop := ∃ v : Nat, x = nI v ∧ v < s ∧ ht T v < ht T s
/-- a statement is as its sort has it -/
def SV (T : Sx) (s : Nat) : Prop :=
  (T 0 s = 0 ∧ inN 8 (T 1 s)) ∨ ((T 0 s = 1 ∨ T 0 s = 2 ∨ T 0 s = 3 ∨ T 0 s = 4 ∨ T 0 s = 5) ∧ inN 8 (T 1 s) ∧ inN 8 (T 2 s) ∧ inN 8 (T 3 s)) ∨
  (T 0 s = 6 ∧ inN 4 (T 1 s) ∧ inN 8 (T 2 s)) ∨ (T 0 s = 7 ∧ inN 8 (T 1 s) ∧ inN 4 (T 2 s) ∧ inN 8 (T 3 s)) ∨ (T 0 s = 8 ∧ inN 4 (T 1 s) ∧ inN 8 (T 2 s) ∧ inN 8 (T 3 s)) ∨
  (T 0 s = 9 ∧ inN 8 (T 1 s) ∧ inN 4 (T 2 s)) ∨ (T 0 s = 10 ∧ inN 4 (T 1 s)) ∨ (T 0 s = 11 ∧ inN 4 (T 1 s) ∧ inN 4 (T 2 s)) ∨
  (T 0 s = 12 ∧ Kid T s (T 1 s) ∧ Kid T s (T 2 s)) ∨ (T 0 s = 13 ∧ inN 8 (T 1 s) ∧ Kid T s (T 2 s) ∧ Kid T s (T 3 s)) ∨ (T 0 s = 14 ∧ inN 8 (T 1 s) ∧ Kid T s (T 2 s)) ∨
  (T 0 s = 15 ∧ inN 8 (T 1 s)) ∨ (T 0 s = 16 ∧ inN 8 (T 1 s)) ∨ (T 0 s = 17 ∧ inN 8 (T 1 s)) ∨ (T 0 s = 18 ∧ Kid T s (T 1 s) ∧ Kid T s (T 3 s)) ∨
  (T 0 s = 19 ∧ Kid T s (T 1 s) ∧ Kid T s (T 2 s)) ∨ (T 0 s = 20 ∧ inN 4 (T 1 s) ∧ Kid T s (T 2 s)) ∨ (T 0 s = 21 ∧ inN 8 (T 1 s))
def PV (T : Sx) (k : Nat) : Prop := T 6 0 = nI k ∧ k ≤ 120 ∧ (∀ s, s < k → 1 ≤ ht T s ∧ ht T s ≤ 16 ∧ SV T s) ∧ ∀ m, m < 8 → T 5 m = -1 ∨ inN k (T 5 m)
def disj (D L : List Nat) : Bool := L.all (fun f => !D.contains f)
theorem disj.at {D L : List Nat} (h : disj D L = true) {f : Nat} (hf : f ∈ L) : f ∉ D := by
  have := List.all_eq_true.mp h f hf
  simpa using this
/-- what no run changes -/
def cFix (T S M : Sx) : Prop := (∀ i, i < 120 → S 2200 i = T 4 i ∧ M 500 i = T 4 i) ∧ M 1 0 = T 6 0 ∧ (∀ i, M 1500 i = T 7 i) ∧ M 0 0 = T 8 0 ∧ (∀ i, M 2100 i = T 9 i) ∧ ∀ i, M 2200 i = T 10 i
def cProg (T S M : Sx) : Prop := (∀ s, s < 120 → S 1800 s = T 0 s ∧ S 1900 s = T 1 s ∧ S 2000 s = T 2 s ∧ S 2100 s = T 3 s ∧ M 100 s = T 0 s ∧ M 200 s = T 1 s ∧ M 300 s = T 2 s ∧ M 400 s = T 3 s) ∧ (∀ m, m < 8 → S 2300 m = T 5 m ∧ M 600 m = T 5 m) ∧ S 1706 0 = T 6 0 ∧ cFix T S M
def cMem (u w : Nat) (S M : Sx) : Prop := (∀ i, i < 8 → S 200 i = M 700 i) ∧ S 105 0 = M 23 0 ∧ S 104 0 = nI u ∧ M 14 0 = nI u ∧ M 11 0 = nI w ∧
  (∀ r, r < 4 → (M 800 r = -1 ∧ S 400 r = -1) ∨ ∃ x len at_ : Nat, M 800 r = nI x ∧ x < w ∧ M 1000 x = nI len ∧ M 1100 x = nI at_ ∧ S 400 r = nI len ∧ S 300 r = nI at_ ∧ at_ + len ≤ u) ∧
  (∀ i, i < u → S 500 i = M 1200 i) ∧ ∀ i, u ≤ i → i < 800 → S 500 i = 0
def cMon (bu re sb sr : Nat) (S M : Sx) : Prop := S 603 0 = nI bu ∧ M 16 0 = nI bu ∧ S 604 0 = nI re ∧ M 17 0 = nI re ∧ S 605 0 = nI sb ∧ M 18 0 = nI sb ∧ S 606 0 = nI sr ∧ M 19 0 = nI sr ∧ ∀ i, i < 5 → S 700 i = M 1300 i
def cLim (bu re sb sr u w : Nat) : Prop := bu + sb ≤ 160 ∧ re + sr ≤ 40 ∧ u ≤ 4 * (sb + sr) ∧ w ≤ sb + sr
def cLock (S M : Sx) : Prop := (∀ i, i < 4 → S 1000 i = M 900 i) ∧ S 901 0 = M 25 0
def cLog (S M : Sx) : Prop := ∃ g : Nat, g ≤ 30 ∧ S 602 0 = nI g ∧ M 21 0 = nI g ∧ ∀ i, i < g → S 800 i = M 1400 i
def cKind (S M : Sx) : Prop := S 9 0 = M 27 0 ∧ S 10 0 = M 28 0 ∧ (S 9 0 = 5 ∨ S 10 0 = 0)
def cMeth (m : Nat) (S M : Sx) : Prop := S 6 0 = nI m ∧ M 36 0 = nI m ∧ S 7 0 = M 24 0
def cBy (rz : Option Nat) (S M : Sx) : Prop := match rz with
  | none => S 607 0 = 0 ∧ M 38 0 = -1
  | some r => S 607 0 = 1 ∧ M 38 0 = nI r
def isC (t : Int32) : Prop := t = 12 ∨ t = 13 ∨ t = 14 ∨ t = 15 ∨ t = 18 ∨ t = 19 ∨ t = 20
def cN (T : Sx) (fr : Nat → Nat) : Nat → Nat
  | 0 => 0
  | n + 1 => cN T fr n + (if T 0 (fr n) = 15 then 1 else 0)
def w3 : Nat → Nat
  | 0 => 0
  | h + 1 => 3 + 2 * w3 h
def sW (wk : Nat → Nat) : Nat → Nat
  | 0 => 0
  | n + 1 => sW wk n + wk n
def kept (S M : Sx) (i : Nat) : Prop := S 1400 i = M 1800 i ∧ S 1500 i = M 1900 i ∧ S 1600 i = M 2000 i ∧ (S 1400 i = 0 ∨ S 1400 i = 1 ∨ S 1400 i = 2) ∧ (S 1500 i = 5 ∨ S 1600 i = 0)
def cSg (T : Sx) (s : Nat) (rz : Option Nat) (S M : Sx) (i : Nat) : Prop :=
  (S 1300 i = 1 ∧ M 1700 i = 1 ∧ rz ≠ some i) ∨ (S 1300 i = 2 ∧ M 1700 i = 2 ∧ rz ≠ some i ∧ (T 0 s = 12 ∨ T 0 s = 18 ∨ (T 0 s = 19 ∧ kept S M i))) ∨ (S 1300 i = 3 ∧ M 1700 i = 2 ∧ T 0 s = 19 ∧ rz = some i)
def cFr (T : Sx) (k : Nat) (fr : Nat → Nat) (rz : Option Nat) (wk : Nat → Nat) (S M : Sx) (i : Nat) : Prop :=
  S 1200 i = nI (fr i) ∧ M 1600 i = nI (fr i) ∧ fr i < k ∧ i + ht T (fr i) ≤ 16 * (cN T fr i + 1) ∧ isC (T 0 (fr i)) ∧ cSg T (fr i) rz S M i ∧ 1 ≤ wk i ∧ (S 1300 i = 1 → (T 0 (fr i) = 12 ∨ T 0 (fr i) = 18 ∨ T 0 (fr i) = 19) → ∀ h, ht T (fr i) = h + 1 → 2 + w3 h ≤ wk i)
def StE (L : List Nat) (n : Nat) (S S' : Sx) : Prop := ∀ f, f ∈ L → ∀ i, i < n → S' f i = S f i
def sFS : List Nat := [1200, 1300, 1400, 1500, 1600]
def sFM : List Nat := [1600, 1700, 1800, 1900, 2000]
theorem StE.df {L D : List Nat} {n : Nat} {S S' : Sx} (h : Df D S S') (hd : disj D L = true) : StE L n S S' := fun f hf i _ => h f (disj.at hd hf) i
theorem StE.rf {L : List Nat} {n : Nat} {S : Sx} : StE L n S S := fun _ _ _ _ => rfl
theorem StE.to {L : List Nat} {n : Nat} {S S' : Sx} (h : StE L n S S') (f i : Nat) (v : Int32) (hi : n ≤ i) : StE L n S (sw S' f i v) := fun g hg j hj => by
  by_cases e : g = f
  · subst e; rw [sw_ix (by omega)]; exact h g hg j hj
  · rw [sw_ne e]; exact h g hg j hj
theorem StE.tn {L : List Nat} {n : Nat} {S S' : Sx} (h : StE L n S S') (f i : Nat) (v : Int32) (hf : (!L.contains f) = true) : StE L n S (sw S' f i v) := fun g hg j hj => by
  rw [sw_ne (fun e => by subst e; simp at hf; exact hf hg)]
  exact h g hg j hj
theorem StE.tr {L : List Nat} {n : Nat} {S S' S2 : Sx} (h : StE L n S S') (h2 : StE L n S' S2) : StE L n S S2 := fun f hf i hi => (h2 f hf i hi).trans (h f hf i hi)
theorem StE.le {L : List Nat} {n m : Nat} {S S' : Sx} (h : StE L n S S') (hm : m ≤ n) : StE L m S S' := fun f hf i hi => h f hf i (by omega)
def cStk (T : Sx) (k : Nat) (fr : Nat → Nat) (rz : Option Nat) (wk : Nat → Nat) (n : Nat) (S M : Sx) : Prop := ∀ i, i < n → cFr T k fr rz wk S M i
theorem cFr.cg {T : Sx} {k : Nat} {fr : Nat → Nat} {rz : Option Nat} {wk : Nat → Nat} {S M S' M' : Sx} {n i : Nat} (h : cFr T k fr rz wk S M i) (hS : StE sFS n S S') (hM : StE sFM n M M') (hi : i < n) : cFr T k fr rz wk S' M' i := by
  have s1 := hS 1200 (by decide) i hi
  have s2 := hS 1300 (by decide) i hi
  have s3 := hS 1400 (by decide) i hi
  have s4 := hS 1500 (by decide) i hi
  have s5 := hS 1600 (by decide) i hi
  have m1 := hM 1600 (by decide) i hi
  have m2 := hM 1700 (by decide) i hi
  have m3 := hM 1800 (by decide) i hi
  have m4 := hM 1900 (by decide) i hi
  have m5 := hM 2000 (by decide) i hi
  simpa only [cFr, cSg, kept, s1, s2, s3, s4, s5, m1, m2, m3, m4, m5] using h
theorem cStk.cg {T : Sx} {k : Nat} {fr : Nat → Nat} {rz : Option Nat} {wk : Nat → Nat} {S M S' M' : Sx} {n : Nat} (h : cStk T k fr rz wk n S M) (hS : StE sFS n S S') (hM : StE sFM n M M') : cStk T k fr rz wk n S' M' := fun i hi => (h i hi).cg hS hM hi
section CG
variable {T S M S' M' : Sx} {D E : List Nat}
theorem cProg.cg (h : cProg T S M) (dS : Df D S S') (dM : Df E M M') (h1 : disj D [1800, 1900, 2000, 2100, 2300, 1706, 2200] = true) (h2 : disj E [100, 200, 300, 400, 600, 500, 1, 1500, 0, 2100, 2200] = true) : cProg T S' M' := by
  have e1 : ∀ i, S' 1800 i = S 1800 i := dS _ (disj.at h1 (by decide))
  have e2 : ∀ i, S' 1900 i = S 1900 i := dS _ (disj.at h1 (by decide))
  have e3 : ∀ i, S' 2000 i = S 2000 i := dS _ (disj.at h1 (by decide))
  have e4 : ∀ i, S' 2100 i = S 2100 i := dS _ (disj.at h1 (by decide))
  have e5 : ∀ i, S' 2300 i = S 2300 i := dS _ (disj.at h1 (by decide))
  have e6 : ∀ i, S' 1706 i = S 1706 i := dS _ (disj.at h1 (by decide))
  have e7 : ∀ i, S' 2200 i = S 2200 i := dS _ (disj.at h1 (by decide))
  have m1 : ∀ i, M' 100 i = M 100 i := dM _ (disj.at h2 (by decide))
  have m2 : ∀ i, M' 200 i = M 200 i := dM _ (disj.at h2 (by decide))
  have m3 : ∀ i, M' 300 i = M 300 i := dM _ (disj.at h2 (by decide))
  have m4 : ∀ i, M' 400 i = M 400 i := dM _ (disj.at h2 (by decide))
  have m5 : ∀ i, M' 600 i = M 600 i := dM _ (disj.at h2 (by decide))
  have m6 : ∀ i, M' 500 i = M 500 i := dM _ (disj.at h2 (by decide))
  have m7 : ∀ i, M' 1 i = M 1 i := dM _ (disj.at h2 (by decide))
  have m8 : ∀ i, M' 1500 i = M 1500 i := dM _ (disj.at h2 (by decide))
  have m9 : ∀ i, M' 0 i = M 0 i := dM _ (disj.at h2 (by decide))
  have m10 : ∀ i, M' 2100 i = M 2100 i := dM _ (disj.at h2 (by decide))
  have m11 : ∀ i, M' 2200 i = M 2200 i := dM _ (disj.at h2 (by decide))
  simpa only [cProg, cFix, e1, e2, e3, e4, e5, e6, e7, m1, m2, m3, m4, m5, m6, m7, m8, m9, m10, m11] using h
theorem cMem.cg {u w : Nat} (h : cMem u w S M) (dS : Df D S S') (dM : Df E M M') (h1 : disj D [200, 105, 104, 400, 300, 500] = true) (h2 : disj E [700, 23, 14, 11, 800, 1000, 1100, 1200] = true) : cMem u w S' M' := by
  have e1 : ∀ i, S' 200 i = S 200 i := dS _ (disj.at h1 (by decide))
  have e2 : ∀ i, S' 105 i = S 105 i := dS _ (disj.at h1 (by decide))
  have e3 : ∀ i, S' 104 i = S 104 i := dS _ (disj.at h1 (by decide))
  have e4 : ∀ i, S' 400 i = S 400 i := dS _ (disj.at h1 (by decide))
  have e5 : ∀ i, S' 300 i = S 300 i := dS _ (disj.at h1 (by decide))
  have e6 : ∀ i, S' 500 i = S 500 i := dS _ (disj.at h1 (by decide))
  have m1 : ∀ i, M' 700 i = M 700 i := dM _ (disj.at h2 (by decide))
  have m2 : ∀ i, M' 23 i = M 23 i := dM _ (disj.at h2 (by decide))
  have m3 : ∀ i, M' 14 i = M 14 i := dM _ (disj.at h2 (by decide))
  have m4 : ∀ i, M' 11 i = M 11 i := dM _ (disj.at h2 (by decide))
  have m5 : ∀ i, M' 800 i = M 800 i := dM _ (disj.at h2 (by decide))
  have m6 : ∀ i, M' 1000 i = M 1000 i := dM _ (disj.at h2 (by decide))
  have m7 : ∀ i, M' 1100 i = M 1100 i := dM _ (disj.at h2 (by decide))
  have m8 : ∀ i, M' 1200 i = M 1200 i := dM _ (disj.at h2 (by decide))
  simpa only [cMem, e1, e2, e3, e4, e5, e6, m1, m2, m3, m4, m5, m6, m7, m8] using h
theorem cMon.cg {bu re sb sr : Nat} (h : cMon bu re sb sr S M) (dS : Df D S S') (dM : Df E M M') (h1 : disj D [603, 604, 605, 606, 700] = true) (h2 : disj E [16, 17, 18, 19, 1300] = true) : cMon bu re sb sr S' M' := by
  have e1 : ∀ i, S' 603 i = S 603 i := dS _ (disj.at h1 (by decide))
  have e2 : ∀ i, S' 604 i = S 604 i := dS _ (disj.at h1 (by decide))
  have e3 : ∀ i, S' 605 i = S 605 i := dS _ (disj.at h1 (by decide))
  have e4 : ∀ i, S' 606 i = S 606 i := dS _ (disj.at h1 (by decide))
  have e5 : ∀ i, S' 700 i = S 700 i := dS _ (disj.at h1 (by decide))
  have m1 : ∀ i, M' 16 i = M 16 i := dM _ (disj.at h2 (by decide))
  have m2 : ∀ i, M' 17 i = M 17 i := dM _ (disj.at h2 (by decide))
  have m3 : ∀ i, M' 18 i = M 18 i := dM _ (disj.at h2 (by decide))
  have m4 : ∀ i, M' 19 i = M 19 i := dM _ (disj.at h2 (by decide))
  have m5 : ∀ i, M' 1300 i = M 1300 i := dM _ (disj.at h2 (by decide))
  simpa only [cMon, e1, e2, e3, e4, e5, m1, m2, m3, m4, m5] using h
theorem cLock.cg (h : cLock S M) (dS : Df D S S') (dM : Df E M M') (h1 : disj D [1000, 901] = true) (h2 : disj E [900, 25] = true) : cLock S' M' := by
  have e1 : ∀ i, S' 1000 i = S 1000 i := dS _ (disj.at h1 (by decide))
  have e2 : ∀ i, S' 901 i = S 901 i := dS _ (disj.at h1 (by decide))
  have m1 : ∀ i, M' 900 i = M 900 i := dM _ (disj.at h2 (by decide))
  have m2 : ∀ i, M' 25 i = M 25 i := dM _ (disj.at h2 (by decide))
  simpa only [cLock, e1, e2, m1, m2] using h
theorem cLog.cg (h : cLog S M) (dS : Df D S S') (dM : Df E M M') (h1 : disj D [602, 800] = true) (h2 : disj E [21, 1400] = true) : cLog S' M' := by
  have e1 : ∀ i, S' 602 i = S 602 i := dS _ (disj.at h1 (by decide))
  have e2 : ∀ i, S' 800 i = S 800 i := dS _ (disj.at h1 (by decide))
  have m1 : ∀ i, M' 21 i = M 21 i := dM _ (disj.at h2 (by decide))
  have m2 : ∀ i, M' 1400 i = M 1400 i := dM _ (disj.at h2 (by decide))
  simpa only [cLog, e1, e2, m1, m2] using h
theorem cKind.cg (h : cKind S M) (dS : Df D S S') (dM : Df E M M') (h1 : disj D [9, 10] = true) (h2 : disj E [27, 28] = true) : cKind S' M' := by
  have e1 : ∀ i, S' 9 i = S 9 i := dS _ (disj.at h1 (by decide))
  have e2 : ∀ i, S' 10 i = S 10 i := dS _ (disj.at h1 (by decide))
  have m1 : ∀ i, M' 27 i = M 27 i := dM _ (disj.at h2 (by decide))
  have m2 : ∀ i, M' 28 i = M 28 i := dM _ (disj.at h2 (by decide))
  simpa only [cKind, e1, e2, m1, m2] using h
theorem cMeth.cg {m : Nat} (h : cMeth m S M) (dS : Df D S S') (dM : Df E M M') (h1 : disj D [6, 7] = true) (h2 : disj E [36, 24] = true) : cMeth m S' M' := by
  have e1 : ∀ i, S' 6 i = S 6 i := dS _ (disj.at h1 (by decide))
  have e2 : ∀ i, S' 7 i = S 7 i := dS _ (disj.at h1 (by decide))
  have m1 : ∀ i, M' 36 i = M 36 i := dM _ (disj.at h2 (by decide))
  have m2 : ∀ i, M' 24 i = M 24 i := dM _ (disj.at h2 (by decide))
  simpa only [cMeth, e1, e2, m1, m2] using h
theorem cBy.cg {rz : Option Nat} (h : cBy rz S M) (dS : Df D S S') (dM : Df E M M') (h1 : disj D [607] = true) (h2 : disj E [38] = true) : cBy rz S' M' := by
  have e1 : ∀ i, S' 607 i = S 607 i := dS _ (disj.at h1 (by decide))
  have m1 : ∀ i, M' 38 i = M 38 i := dM _ (disj.at h2 (by decide))
  cases rz <;> simpa only [cBy, e1, m1] using h
end CG
