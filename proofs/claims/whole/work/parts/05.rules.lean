section AJR
variable {d : Nat} {k : MK} {lay : Lay} {pc q : Nat} {ls : AL} {st : List Value} {S : Sx} {Q : Option Value → Sx → Prop}

theorem aj_iconst {n : Int} {v : Int32} (hd : decode k.2.1 pc = .ok (.iconst n, 1)) (hq : pc + 1 = q) (hv : Int32.ofInt n = v) (kk : AJ d k lay q ls (.int v :: st) S Q) : AJ d k lay pc ls st S Q := by
  subst hq
  intro p l e s m args below meth c dC dI cA ad A H locs lsA hC hW hL
  exact lv_iconst hC.1 hC.2.1 hd hv (kk p l e s m args below meth c dC dI cA ad A H locs lsA hC hW hL)
theorem aj_bipush {n : Int} {v : Int32} (hd : decode k.2.1 pc = .ok (.bipush n, 2)) (hq : pc + 2 = q) (hv : (Int8.ofInt n).toInt32 = v) (kk : AJ d k lay q ls (.int v :: st) S Q) : AJ d k lay pc ls st S Q := by
  subst hq
  intro p l e s m args below meth c dC dI cA ad A H locs lsA hC hW hL
  exact lv_bipush hC.1 hC.2.1 hd hv (kk p l e s m args below meth c dC dI cA ad A H locs lsA hC hW hL)
theorem aj_sipush {n : Int} {v : Int32} (hd : decode k.2.1 pc = .ok (.sipush n, 3)) (hq : pc + 3 = q) (hv : (Int16.ofInt n).toInt32 = v) (kk : AJ d k lay q ls (.int v :: st) S Q) : AJ d k lay pc ls st S Q := by
  subst hq
  intro p l e s m args below meth c dC dI cA ad A H locs lsA hC hW hL
  exact lv_sipush hC.1 hC.2.1 hd hv (kk p l e s m args below meth c dC dI cA ad A H locs lsA hC hW hL)
theorem aj_iload_n {j : Fin 4} {i : Nat} {x : Int32} (hd : decode k.2.1 pc = .ok (.iload_n j, 1)) (hq : pc + 1 = q) (hi : (j : Nat) = i) (hl : ls[i]? = some (some (.int x))) (kk : AJ d k lay q ls (.int x :: st) S Q) : AJ d k lay pc ls st S Q := by
  subst hq
  intro p l e s m args below meth c dC dI cA ad A H locs lsA hC hW hL
  exact lv_iload_n hC.1 hC.2.1 hd hi (hL.2.2 i _ hl).2 (kk p l e s m args below meth c dC dI cA ad A H locs lsA hC hW hL)
theorem aj_iload {i : Nat} {x : Int32} (hd : decode k.2.1 pc = .ok (.iload i, 2)) (hq : pc + 2 = q) (hl : ls[i]? = some (some (.int x))) (kk : AJ d k lay q ls (.int x :: st) S Q) : AJ d k lay pc ls st S Q := by
  subst hq
  intro p l e s m args below meth c dC dI cA ad A H locs lsA hC hW hL
  exact lv_iload hC.1 hC.2.1 hd (hL.2.2 i _ hl).2 (kk p l e s m args below meth c dC dI cA ad A H locs lsA hC hW hL)
theorem aj_aload_n {j : Fin 4} {i : Nat} {x : Nat} (hd : decode k.2.1 pc = .ok (.aload_n j, 1)) (hq : pc + 1 = q) (hi : (j : Nat) = i) (hl : ls[i]? = some (some (.ref x))) (kk : AJ d k lay q ls (.ref x :: st) S Q) : AJ d k lay pc ls st S Q := by
  subst hq
  intro p l e s m args below meth c dC dI cA ad A H locs lsA hC hW hL
  exact lv_aload_n hC.1 hC.2.1 hd hi (hL.2.2 i _ hl).2 (kk p l e s m args below meth c dC dI cA ad A H locs lsA hC hW hL)
theorem aj_aload {i : Nat} {x : Nat} (hd : decode k.2.1 pc = .ok (.aload i, 2)) (hq : pc + 2 = q) (hl : ls[i]? = some (some (.ref x))) (kk : AJ d k lay q ls (.ref x :: st) S Q) : AJ d k lay pc ls st S Q := by
  subst hq
  intro p l e s m args below meth c dC dI cA ad A H locs lsA hC hW hL
  exact lv_aload hC.1 hC.2.1 hd (hL.2.2 i _ hl).2 (kk p l e s m args below meth c dC dI cA ad A H locs lsA hC hW hL)
theorem aj_istore_n {j : Fin 4} {i : Nat} {x : Int32} {ls' : AL} (hd : decode k.2.1 pc = .ok (.istore_n j, 1)) (hq : pc + 1 = q) (hi : (j : Nat) = i) (hn : i < k.2.2.1) (hl : ls.set i (some (.int x)) = ls') (kk : AJ d k lay q ls' st S Q) : AJ d k lay pc ls (.int x :: st) S Q := by
  subst hq; subst hl
  intro p l e s m args below meth c dC dI cA ad A H locs lsA hC hW hL
  exact lv_istore_n hC.1 hC.2.1 hd hi hL.has hn rfl (fun lsB hB => kk p l e s m args below meth c dC dI cA ad A H locs lsB hC hW (hL.set rfl hB))
theorem aj_istore {i : Nat} {x : Int32} {ls' : AL} (hd : decode k.2.1 pc = .ok (.istore i, 2)) (hq : pc + 2 = q) (hn : i < k.2.2.1) (hl : ls.set i (some (.int x)) = ls') (kk : AJ d k lay q ls' st S Q) : AJ d k lay pc ls (.int x :: st) S Q := by
  subst hq; subst hl
  intro p l e s m args below meth c dC dI cA ad A H locs lsA hC hW hL
  exact lv_istore hC.1 hC.2.1 hd hL.has hn rfl (fun lsB hB => kk p l e s m args below meth c dC dI cA ad A H locs lsB hC hW (hL.set rfl hB))
theorem aj_astore_n {j : Fin 4} {i : Nat} {x : Nat} {ls' : AL} (hd : decode k.2.1 pc = .ok (.astore_n j, 1)) (hq : pc + 1 = q) (hi : (j : Nat) = i) (hn : i < k.2.2.1) (hl : ls.set i (some (.ref x)) = ls') (kk : AJ d k lay q ls' st S Q) : AJ d k lay pc ls (.ref x :: st) S Q := by
  subst hq; subst hl
  intro p l e s m args below meth c dC dI cA ad A H locs lsA hC hW hL
  exact lv_astore_n hC.1 hC.2.1 hd hi hL.has hn rfl (fun lsB hB => kk p l e s m args below meth c dC dI cA ad A H locs lsB hC hW (hL.set rfl hB))
theorem aj_astore {i : Nat} {x : Nat} {ls' : AL} (hd : decode k.2.1 pc = .ok (.astore i, 2)) (hq : pc + 2 = q) (hn : i < k.2.2.1) (hl : ls.set i (some (.ref x)) = ls') (kk : AJ d k lay q ls' st S Q) : AJ d k lay pc ls (.ref x :: st) S Q := by
  subst hq; subst hl
  intro p l e s m args below meth c dC dI cA ad A H locs lsA hC hW hL
  exact lv_astore hC.1 hC.2.1 hd hL.has hn rfl (fun lsB hB => kk p l e s m args below meth c dC dI cA ad A H locs lsB hC hW (hL.set rfl hB))
theorem aj_iinc {i : Nat} {n : Int} {x v : Int32} {ls' : AL} (hd : decode k.2.1 pc = .ok (.iinc i n, 3)) (hq : pc + 3 = q) (hx : ls[i]? = some (some (.int x))) (hv : x + Int32.ofInt n = v) (hn : i < k.2.2.1) (hl : ls.set i (some (.int v)) = ls') (kk : AJ d k lay q ls' st S Q) : AJ d k lay pc ls st S Q := by
  subst hq; subst hl
  intro p l e s m args below meth c dC dI cA ad A H locs lsA hC hW hL
  obtain ⟨z, hz⟩ := List.mem_iff_getElem?.mp (LRl_mem.mpr ⟨.int x, hx, rfl⟩ : (i, cv ad (.int x)) ∈ LRl ad ls)
  exact lv_iinc hC.1 hC.2.1 hd hL.has (k := z) hz hv hn rfl (fun lsB hB => kk p l e s m args below meth c dC dI cA ad A H locs lsB hC hW (hL.set rfl hB))
theorem aj_iadd {x y : Int32} (hd : decode k.2.1 pc = .ok (.iadd, 1)) (hq : pc + 1 = q) (kk : AJ d k lay q ls (.int (x + y) :: st) S Q) : AJ d k lay pc ls (.int y :: .int x :: st) S Q := by
  subst hq
  intro p l e s m args below meth c dC dI cA ad A H locs lsA hC hW hL
  exact lv_iadd hC.1 hC.2.1 hd (kk p l e s m args below meth c dC dI cA ad A H locs lsA hC hW hL)
theorem aj_isub {x y : Int32} (hd : decode k.2.1 pc = .ok (.isub, 1)) (hq : pc + 1 = q) (kk : AJ d k lay q ls (.int (x - y) :: st) S Q) : AJ d k lay pc ls (.int y :: .int x :: st) S Q := by
  subst hq
  intro p l e s m args below meth c dC dI cA ad A H locs lsA hC hW hL
  exact lv_isub hC.1 hC.2.1 hd (kk p l e s m args below meth c dC dI cA ad A H locs lsA hC hW hL)
theorem aj_imul {x y : Int32} (hd : decode k.2.1 pc = .ok (.imul, 1)) (hq : pc + 1 = q) (kk : AJ d k lay q ls (.int (x * y) :: st) S Q) : AJ d k lay pc ls (.int y :: .int x :: st) S Q := by
  subst hq
  intro p l e s m args below meth c dC dI cA ad A H locs lsA hC hW hL
  exact lv_imul hC.1 hC.2.1 hd (kk p l e s m args below meth c dC dI cA ad A H locs lsA hC hW hL)
theorem aj_iand {x y : Int32} (hd : decode k.2.1 pc = .ok (.iand, 1)) (hq : pc + 1 = q) (kk : AJ d k lay q ls (.int (x &&& y) :: st) S Q) : AJ d k lay pc ls (.int y :: .int x :: st) S Q := by
  subst hq
  intro p l e s m args below meth c dC dI cA ad A H locs lsA hC hW hL
  exact lv_iand hC.1 hC.2.1 hd (kk p l e s m args below meth c dC dI cA ad A H locs lsA hC hW hL)
theorem aj_ishr {x y : Int32} (hd : decode k.2.1 pc = .ok (.ishr, 1)) (hq : pc + 1 = q) (kk : AJ d k lay q ls (.int (x >>> (y &&& 31)) :: st) S Q) : AJ d k lay pc ls (.int y :: .int x :: st) S Q := by
  subst hq
  intro p l e s m args below meth c dC dI cA ad A H locs lsA hC hW hL
  exact lv_ishr hC.1 hC.2.1 hd (kk p l e s m args below meth c dC dI cA ad A H locs lsA hC hW hL)
theorem aj_idiv {x y : Int32} (hd : decode k.2.1 pc = .ok (.idiv, 1)) (hq : pc + 1 = q) (hne : ¬ y = 0) (kk : AJ d k lay q ls (.int (x / y) :: st) S Q) : AJ d k lay pc ls (.int y :: .int x :: st) S Q := by
  subst hq
  intro p l e s m args below meth c dC dI cA ad A H locs lsA hC hW hL
  exact lv_idiv hC.1 hC.2.1 hd hne (kk p l e s m args below meth c dC dI cA ad A H locs lsA hC hW hL)
theorem aj_irem {x y : Int32} (hd : decode k.2.1 pc = .ok (.irem, 1)) (hq : pc + 1 = q) (hne : ¬ y = 0) (kk : AJ d k lay q ls (.int (x - x / y * y) :: st) S Q) : AJ d k lay pc ls (.int y :: .int x :: st) S Q := by
  subst hq
  intro p l e s m args below meth c dC dI cA ad A H locs lsA hC hW hL
  exact lv_irem hC.1 hC.2.1 hd hne (kk p l e s m args below meth c dC dI cA ad A H locs lsA hC hW hL)
theorem aj_icmp_eq {x y : Int32} {off : Int} {tgt : Nat} (hd : decode k.2.1 pc = .ok (.if_icmp .eq off, 3)) (hq : pc + 3 = q) (ht : (pc : Int) + off = (tgt : Int)) (kt : x = y → AJ d k lay tgt ls st S Q) (kf : ¬ x = y → AJ d k lay q ls st S Q) : AJ d k lay pc ls (.int y :: .int x :: st) S Q := by
  subst hq
  intro p l e s m args below meth c dC dI cA ad A H locs lsA hC hW hL
  exact lv_icmp_eq hC.1 hC.2.1 hd ht (fun hc => kt hc p l e s m args below meth c dC dI cA ad A H locs lsA hC hW hL) (fun hc => kf hc p l e s m args below meth c dC dI cA ad A H locs lsA hC hW hL)
theorem aj_if_eq {x : Int32} {off : Int} {tgt : Nat} (hd : decode k.2.1 pc = .ok (.ifCond .eq off, 3)) (hq : pc + 3 = q) (ht : (pc : Int) + off = (tgt : Int)) (kt : x = 0 → AJ d k lay tgt ls st S Q) (kf : ¬ x = 0 → AJ d k lay q ls st S Q) : AJ d k lay pc ls (.int x :: st) S Q := by
  subst hq
  intro p l e s m args below meth c dC dI cA ad A H locs lsA hC hW hL
  exact lv_if_eq hC.1 hC.2.1 hd ht (fun hc => kt hc p l e s m args below meth c dC dI cA ad A H locs lsA hC hW hL) (fun hc => kf hc p l e s m args below meth c dC dI cA ad A H locs lsA hC hW hL)
theorem aj_icmp_ne {x y : Int32} {off : Int} {tgt : Nat} (hd : decode k.2.1 pc = .ok (.if_icmp .ne off, 3)) (hq : pc + 3 = q) (ht : (pc : Int) + off = (tgt : Int)) (kt : ¬ x = y → AJ d k lay tgt ls st S Q) (kf : x = y → AJ d k lay q ls st S Q) : AJ d k lay pc ls (.int y :: .int x :: st) S Q := by
  subst hq
  intro p l e s m args below meth c dC dI cA ad A H locs lsA hC hW hL
  exact lv_icmp_ne hC.1 hC.2.1 hd ht (fun hc => kt hc p l e s m args below meth c dC dI cA ad A H locs lsA hC hW hL) (fun hc => kf hc p l e s m args below meth c dC dI cA ad A H locs lsA hC hW hL)
theorem aj_if_ne {x : Int32} {off : Int} {tgt : Nat} (hd : decode k.2.1 pc = .ok (.ifCond .ne off, 3)) (hq : pc + 3 = q) (ht : (pc : Int) + off = (tgt : Int)) (kt : ¬ x = 0 → AJ d k lay tgt ls st S Q) (kf : x = 0 → AJ d k lay q ls st S Q) : AJ d k lay pc ls (.int x :: st) S Q := by
  subst hq
  intro p l e s m args below meth c dC dI cA ad A H locs lsA hC hW hL
  exact lv_if_ne hC.1 hC.2.1 hd ht (fun hc => kt hc p l e s m args below meth c dC dI cA ad A H locs lsA hC hW hL) (fun hc => kf hc p l e s m args below meth c dC dI cA ad A H locs lsA hC hW hL)
theorem aj_icmp_lt {x y : Int32} {off : Int} {tgt : Nat} (hd : decode k.2.1 pc = .ok (.if_icmp .lt off, 3)) (hq : pc + 3 = q) (ht : (pc : Int) + off = (tgt : Int)) (kt : x < y → AJ d k lay tgt ls st S Q) (kf : ¬ x < y → AJ d k lay q ls st S Q) : AJ d k lay pc ls (.int y :: .int x :: st) S Q := by
  subst hq
  intro p l e s m args below meth c dC dI cA ad A H locs lsA hC hW hL
  exact lv_icmp_lt hC.1 hC.2.1 hd ht (fun hc => kt hc p l e s m args below meth c dC dI cA ad A H locs lsA hC hW hL) (fun hc => kf hc p l e s m args below meth c dC dI cA ad A H locs lsA hC hW hL)
theorem aj_if_lt {x : Int32} {off : Int} {tgt : Nat} (hd : decode k.2.1 pc = .ok (.ifCond .lt off, 3)) (hq : pc + 3 = q) (ht : (pc : Int) + off = (tgt : Int)) (kt : x < 0 → AJ d k lay tgt ls st S Q) (kf : ¬ x < 0 → AJ d k lay q ls st S Q) : AJ d k lay pc ls (.int x :: st) S Q := by
  subst hq
  intro p l e s m args below meth c dC dI cA ad A H locs lsA hC hW hL
  exact lv_if_lt hC.1 hC.2.1 hd ht (fun hc => kt hc p l e s m args below meth c dC dI cA ad A H locs lsA hC hW hL) (fun hc => kf hc p l e s m args below meth c dC dI cA ad A H locs lsA hC hW hL)
theorem aj_icmp_ge {x y : Int32} {off : Int} {tgt : Nat} (hd : decode k.2.1 pc = .ok (.if_icmp .ge off, 3)) (hq : pc + 3 = q) (ht : (pc : Int) + off = (tgt : Int)) (kt : y ≤ x → AJ d k lay tgt ls st S Q) (kf : ¬ y ≤ x → AJ d k lay q ls st S Q) : AJ d k lay pc ls (.int y :: .int x :: st) S Q := by
  subst hq
  intro p l e s m args below meth c dC dI cA ad A H locs lsA hC hW hL
  exact lv_icmp_ge hC.1 hC.2.1 hd ht (fun hc => kt hc p l e s m args below meth c dC dI cA ad A H locs lsA hC hW hL) (fun hc => kf hc p l e s m args below meth c dC dI cA ad A H locs lsA hC hW hL)
theorem aj_if_ge {x : Int32} {off : Int} {tgt : Nat} (hd : decode k.2.1 pc = .ok (.ifCond .ge off, 3)) (hq : pc + 3 = q) (ht : (pc : Int) + off = (tgt : Int)) (kt : 0 ≤ x → AJ d k lay tgt ls st S Q) (kf : ¬ 0 ≤ x → AJ d k lay q ls st S Q) : AJ d k lay pc ls (.int x :: st) S Q := by
  subst hq
  intro p l e s m args below meth c dC dI cA ad A H locs lsA hC hW hL
  exact lv_if_ge hC.1 hC.2.1 hd ht (fun hc => kt hc p l e s m args below meth c dC dI cA ad A H locs lsA hC hW hL) (fun hc => kf hc p l e s m args below meth c dC dI cA ad A H locs lsA hC hW hL)
theorem aj_icmp_gt {x y : Int32} {off : Int} {tgt : Nat} (hd : decode k.2.1 pc = .ok (.if_icmp .gt off, 3)) (hq : pc + 3 = q) (ht : (pc : Int) + off = (tgt : Int)) (kt : y < x → AJ d k lay tgt ls st S Q) (kf : ¬ y < x → AJ d k lay q ls st S Q) : AJ d k lay pc ls (.int y :: .int x :: st) S Q := by
  subst hq
  intro p l e s m args below meth c dC dI cA ad A H locs lsA hC hW hL
  exact lv_icmp_gt hC.1 hC.2.1 hd ht (fun hc => kt hc p l e s m args below meth c dC dI cA ad A H locs lsA hC hW hL) (fun hc => kf hc p l e s m args below meth c dC dI cA ad A H locs lsA hC hW hL)
theorem aj_if_gt {x : Int32} {off : Int} {tgt : Nat} (hd : decode k.2.1 pc = .ok (.ifCond .gt off, 3)) (hq : pc + 3 = q) (ht : (pc : Int) + off = (tgt : Int)) (kt : 0 < x → AJ d k lay tgt ls st S Q) (kf : ¬ 0 < x → AJ d k lay q ls st S Q) : AJ d k lay pc ls (.int x :: st) S Q := by
  subst hq
  intro p l e s m args below meth c dC dI cA ad A H locs lsA hC hW hL
  exact lv_if_gt hC.1 hC.2.1 hd ht (fun hc => kt hc p l e s m args below meth c dC dI cA ad A H locs lsA hC hW hL) (fun hc => kf hc p l e s m args below meth c dC dI cA ad A H locs lsA hC hW hL)
theorem aj_icmp_le {x y : Int32} {off : Int} {tgt : Nat} (hd : decode k.2.1 pc = .ok (.if_icmp .le off, 3)) (hq : pc + 3 = q) (ht : (pc : Int) + off = (tgt : Int)) (kt : x ≤ y → AJ d k lay tgt ls st S Q) (kf : ¬ x ≤ y → AJ d k lay q ls st S Q) : AJ d k lay pc ls (.int y :: .int x :: st) S Q := by
  subst hq
  intro p l e s m args below meth c dC dI cA ad A H locs lsA hC hW hL
  exact lv_icmp_le hC.1 hC.2.1 hd ht (fun hc => kt hc p l e s m args below meth c dC dI cA ad A H locs lsA hC hW hL) (fun hc => kf hc p l e s m args below meth c dC dI cA ad A H locs lsA hC hW hL)
theorem aj_if_le {x : Int32} {off : Int} {tgt : Nat} (hd : decode k.2.1 pc = .ok (.ifCond .le off, 3)) (hq : pc + 3 = q) (ht : (pc : Int) + off = (tgt : Int)) (kt : x ≤ 0 → AJ d k lay tgt ls st S Q) (kf : ¬ x ≤ 0 → AJ d k lay q ls st S Q) : AJ d k lay pc ls (.int x :: st) S Q := by
  subst hq
  intro p l e s m args below meth c dC dI cA ad A H locs lsA hC hW hL
  exact lv_if_le hC.1 hC.2.1 hd ht (fun hc => kt hc p l e s m args below meth c dC dI cA ad A H locs lsA hC hW hL) (fun hc => kf hc p l e s m args below meth c dC dI cA ad A H locs lsA hC hW hL)
theorem aj_goto {off : Int} {tgt : Nat} (hd : decode k.2.1 pc = .ok (.goto off, 3)) (ht : (pc : Int) + off = (tgt : Int)) (kk : AJ d k lay tgt ls st S Q) : AJ d k lay pc ls st S Q := by
  intro p l e s m args below meth c dC dI cA ad A H locs lsA hC hW hL
  exact lv_goto hC.1 hC.2.1 hd ht (kk p l e s m args below meth c dC dI cA ad A H locs lsA hC hW hL)
theorem aj_dup {v : Value} (hd : decode k.2.1 pc = .ok (.dup, 1)) (hq : pc + 1 = q) (hc : v.category = 1) (kk : AJ d k lay q ls (v :: v :: st) S Q) : AJ d k lay pc ls (v :: st) S Q := by
  subst hq
  intro p l e s m args below meth c dC dI cA ad A H locs lsA hC hW hL
  exact lv_dup hC.1 hC.2.1 hd ((cv_cat ad v).trans hc) (kk p l e s m args below meth c dC dI cA ad A H locs lsA hC hW hL)
theorem aj_dup2 {v w : Value} (hd : decode k.2.1 pc = .ok (.dup2, 1)) (hq : pc + 1 = q) (hc : v.category = 1) (hc2 : w.category = 1) (kk : AJ d k lay q ls (v :: w :: v :: w :: st) S Q) : AJ d k lay pc ls (v :: w :: st) S Q := by
  subst hq
  intro p l e s m args below meth c dC dI cA ad A H locs lsA hC hW hL
  exact lv_dup2_11 hC.1 hC.2.1 hd ((cv_cat ad v).trans hc) ((cv_cat ad w).trans hc2) (kk p l e s m args below meth c dC dI cA ad A H locs lsA hC hW hL)
theorem aj_pop {v : Value} (hd : decode k.2.1 pc = .ok (.pop, 1)) (hq : pc + 1 = q) (hc : v.category = 1) (kk : AJ d k lay q ls st S Q) : AJ d k lay pc ls (v :: st) S Q := by
  subst hq
  intro p l e s m args below meth c dC dI cA ad A H locs lsA hC hW hL
  exact lv_pop hC.1 hC.2.1 hd ((cv_cat ad v).trans hc) (kk p l e s m args below meth c dC dI cA ad A H locs lsA hC hW hL)
theorem aj_ldc {idx : Nat} {v : Int32} (hd : decode k.2.1 pc = .ok (.ldc idx, 2)) (hq : pc + 2 = q) (hw : Cond.constant k.1.cls idx v ∈ TT) (kk : AJ d k lay q ls (.int v :: st) S Q) : AJ d k lay pc ls st S Q := by
  subst hq
  intro p l e s m args below meth c dC dI cA ad A H locs lsA hC hW hL
  exact lv_ldc hC.1 hC.2.1 hC.2.2.2.2.1 (hC.2.2.2.2.2.1 _ hw) hd (kk p l e s m args below meth c dC dI cA ad A H locs lsA hC hW hL)
theorem aj_ifnull {b : Nat} {off : Int} (hd : decode k.2.1 pc = .ok (.ifnull off, 3)) (hq : pc + 3 = q) (kk : AJ d k lay q ls st S Q) : AJ d k lay pc ls (.ref b :: st) S Q := by
  subst hq
  intro p l e s m args below meth c dC dI cA ad A H locs lsA hC hW hL
  exact lv_ifnull hC.1 hC.2.1 hd (kk p l e s m args below meth c dC dI cA ad A H locs lsA hC hW hL)
theorem aj_ifnonnull {b : Nat} {off : Int} {tgt : Nat} (hd : decode k.2.1 pc = .ok (.ifnonnull off, 3)) (ht : (pc : Int) + off = (tgt : Int)) (kk : AJ d k lay tgt ls st S Q) : AJ d k lay pc ls (.ref b :: st) S Q := by
  intro p l e s m args below meth c dC dI cA ad A H locs lsA hC hW hL
  exact lv_ifnonnull hC.1 hC.2.1 hd ht (kk p l e s m args below meth c dC dI cA ad A H locs lsA hC hW hL)
theorem aj_tsOut {dflt lo hi : Int} {offs : Array Int} {len : Nat} {x : Int32} {tgt : Nat} (hd : decode k.2.1 pc = .ok (.tableswitch dflt lo hi offs, len)) (h : x.toInt < lo ∨ hi < x.toInt) (ht : (pc : Int) + dflt = (tgt : Int)) (kk : AJ d k lay tgt ls st S Q) : AJ d k lay pc ls (.int x :: st) S Q := by
  intro p l e s m args below meth c dC dI cA ad A H locs lsA hC hW hL
  exact lv_tableOut hC.1 hC.2.1 hd h ht (kk p l e s m args below meth c dC dI cA ad A H locs lsA hC hW hL)
theorem aj_tsIn {dflt lo hi : Int} {offs : Array Int} {len : Nat} {x : Int32} {off : Int} {tgt : Nat} (hd : decode k.2.1 pc = .ok (.tableswitch dflt lo hi offs, len)) (h1 : ¬ x.toInt < lo) (h2 : ¬ hi < x.toInt) (ho : offs[(x.toInt - lo).toNat]? = some off) (ht : (pc : Int) + off = (tgt : Int)) (kk : AJ d k lay tgt ls st S Q) : AJ d k lay pc ls (.int x :: st) S Q := by
  intro p l e s m args below meth c dC dI cA ad A H locs lsA hC hW hL
  exact lv_tableIn hC.1 hC.2.1 hd h1 h2 ho ht (kk p l e s m args below meth c dC dI cA ad A H locs lsA hC hW hL)
theorem QQ.of {dC : Nat → ClassId} {dI : Nat → Nat → Nat} {cA : ClassId} {ad : List Nat} {A : Nat → Prop} {s t : State} {args : Array Value} {H : Heap} {locs : List Loc} {r : Option Value} (hW : Wd dC dI cA ad A s lay S H locs) (hQ : Q r S) (ht : t.heap = H) (hw : s.WarmedH t.vm) : QQ dC dI cA ad A lay Q args s (.returned (r.map (cv ad))) t :=
  ⟨⟨r, S, rfl, hQ, by rw [ht]; exact hW.2.1, va_K.moved hw.alike hW.1, hW.2.2.1⟩, hW.2.2.2.1.F ht⟩
theorem aj_ireturn {v : Int32} (hd : decode k.2.1 pc = .ok (.ireturn, 1)) (hr : k.2.2.2 = some .int) (hQ : Q (some (.int v)) S) : AJ d k lay pc ls [.int v] S Q := by
  intro p l e s m args below meth c dC dI cA ad A H locs lsA hC hW hL
  exact W.iret hC.1 hC.2.1 (hC.2.2.1.trans hr) (fun t ht hw => QQ.of (r := some (.int v)) hW hQ ht hw) hW.2.2.2.1.2.2 hd hC.2.2.2.2.2.2.1
theorem aj_zreturn {v : Int32} (hd : decode k.2.1 pc = .ok (.ireturn, 1)) (hr : k.2.2.2 = some .boolean) (hn : narrow .boolean (.int v) = .int v) (hQ : Q (some (.int v)) S) : AJ d k lay pc ls [.int v] S Q := by
  intro p l e s m args below meth c dC dI cA ad A H locs lsA hC hW hL
  exact W.zret (ty := .boolean) hC.1 hC.2.1 (hC.2.2.1.trans hr) hn (fun t ht hw => QQ.of (r := some (.int v)) hW hQ ht hw) hW.2.2.2.1.2.2 hd hC.2.2.2.2.2.2.1
theorem aj_return (hd : decode k.2.1 pc = .ok (.return_, 1)) (hr : k.2.2.2 = none) (hQ : Q none S) : AJ d k lay pc ls [] S Q := by
  intro p l e s m args below meth c dC dI cA ad A H locs lsA hC hW hL
  exact W.vret hC.1 hC.2.1 (hC.2.2.1.trans hr) (fun t ht hw => QQ.of (r := none) hW hQ ht hw) hW.2.2.2.1.2.2 hd hC.2.2.2.2.2.2.1
end AJR
section AJF
variable {d : Nat} {k : MK} {lay : Lay} {pc q : Nat} {ls : AL} {st : List Value} {S : Sx} {Q : Option Value → Sx → Prop}
theorem aj_getf {idx b ci j : Nat} {sl : List Slt} {x : Slt} (F : FL k.1.cls idx ci j) (hd : decode k.2.1 pc = .ok (.getfield idx, 3)) (hq : pc + 3 = q) (hlay : lay[b]? = some (.inr (ci, sl))) (hj : sl[j]? = some x) (kk : AJ d k lay q ls (slv S (100 * b + j) x :: st) S Q) : AJ d k lay pc ls (.ref b :: st) S Q := by
  subst hq
  intro p l e s m args below meth c dC dI cA ad A H locs lsA hC hW hL
  obtain ⟨C, T, N, h1, h2, h3, h4⟩ := F
  have he : (cw cA ad lay S)[b]? = some (ad.getD b 0, .inr (ci, sl.mapIdx (fun j x => cv ad (slv S (100 * b + j) x)))) := cw_get hlay
  have hv : (sl.mapIdx (fun j x => cv ad (slv S (100 * b + j) x)))[j]? = some (cv ad (slv S (100 * b + j) x)) := by rw [List.getElem?_mapIdx, hj]; rfl
  rcases h4 with h4 | ⟨host, h4⟩
  · exact va_get (D := (dC, dI)) hC.1 hC.2.1 hC.2.2.2.2.2.1 h3 hC.2.2.2.2.1 hW.1 hW.2.1 b he h1 j h2 (hC.2.2.2.2.2.1 _ h4) (fun _ h9 => h9) hv hd (kk p l e s m args below meth c dC dI cA ad A H locs lsA hC hW hL)
  · exact va_getN (D := (dC, dI)) hC.1 hC.2.1 hC.2.2.2.2.2.1 h3 hC.2.2.2.2.1 hW.1 hW.2.1 b he h1 j h2 (hC.2.2.2.2.2.2.2.use h4) (fun _ h9 => h9) hv hd (kk p l e s m args below meth c dC dI cA ad A H locs lsA hC hW hL)
theorem aj_getI {idx b ci j f : Nat} {sl : List Slt} (F : FL k.1.cls idx ci j) (hd : decode k.2.1 pc = .ok (.getfield idx, 3)) (hq : pc + 3 = q) (hlay : lay[b]? = some (.inr (ci, sl))) (hj : sl[j]? = some none) (hf : 100 * b + j = f) (kk : AJ d k lay q ls (.int (S f 0) :: st) S Q) : AJ d k lay pc ls (.ref b :: st) S Q := by
  subst hf
  exact aj_getf F hd hq hlay hj kk
theorem aj_getR {idx b ci j r : Nat} {sl : List Slt} (F : FL k.1.cls idx ci j) (hd : decode k.2.1 pc = .ok (.getfield idx, 3)) (hq : pc + 3 = q) (hlay : lay[b]? = some (.inr (ci, sl))) (hj : sl[j]? = some (some (some r))) (kk : AJ d k lay q ls (.ref r :: st) S Q) : AJ d k lay pc ls (.ref b :: st) S Q := aj_getf F hd hq hlay hj kk
theorem aj_getD {idx b ci j f : Nat} {sl : List Slt} (F : FL k.1.cls idx ci j) (hd : decode k.2.1 pc = .ok (.getfield idx, 3)) (hq : pc + 3 = q) (hlay : lay[b]? = some (.inr (ci, sl))) (hj : sl[j]? = some (some none)) (hf : 100 * b + j = f) (kk : AJ d k lay q ls (.ref (S f 0).toNatClampNeg :: st) S Q) : AJ d k lay pc ls (.ref b :: st) S Q := by
  subst hf
  exact aj_getf F hd hq hlay hj kk
theorem sl_set {S : Sx} {ad : List Nat} {b j : Nat} {sl : List Slt} {x : Slt} {v : Int32} {w : Value} (hj : sl[j]? = some x) (hw : w = cv ad (slv (sw S (100 * b + j) 0 v) (100 * b + j) x)) : (sl.mapIdx (fun j x => cv ad (slv S (100 * b + j) x))).set j w = sl.mapIdx (fun i x => cv ad (slv (sw S (100 * b + j) 0 v) (100 * b + i) x)) := by
  apply List.ext_getElem?
  intro i
  rw [List.getElem?_set, List.getElem?_mapIdx, List.getElem?_mapIdx]
  by_cases hij : j = i
  · subst hij
    rw [if_pos rfl, if_pos (by rw [List.length_mapIdx]; exact (List.getElem?_eq_some_iff.mp hj).1), hj, hw]
    rfl
  · rw [if_neg hij]
    cases hs : sl[i]? with
    | none => rfl
    | some y =>
      have e : slv (sw S (100 * b + j) 0 v) (100 * b + i) y = slv S (100 * b + i) y := by
        unfold slv sw
        rw [if_neg (by omega)]
      show some (cv ad (slv S (100 * b + i) y)) = some (cv ad (slv (sw S (100 * b + j) 0 v) (100 * b + i) y))
      rw [e]
theorem aj_putf {idx b ci j : Nat} {sl : List Slt} {x : Slt} {ty : FieldType} {v : Int32} {w : Value} (hok : okL lay = true) (F : FP k.1.cls idx ci j ty) (hd : decode k.2.1 pc = .ok (.putfield idx, 3)) (hq : pc + 3 = q) (hlay : lay[b]? = some (.inr (ci, sl))) (hj : sl[j]? = some x) (hw : w = slv (sw S (100 * b + j) 0 v) (100 * b + j) x) (hn : ∀ ad, narrow ty (cv ad w) = cv ad w) (hfit : ∀ ad, fits ty (cv ad w) = true) (kk : AJ d k lay q ls st (sw S (100 * b + j) 0 v) Q) : AJ d k lay pc ls (w :: .ref b :: st) S Q := by
  subst hq
  intro p l e s m args below meth c dC dI cA ad A H locs lsA hC hW hL
  obtain ⟨C, T, N, ty0, h1, h2, h3, h4, h5, h6, h7, h8⟩ := F
  have hlt : sl.length < 100 := by
    have := List.all_eq_true.mp hok _ (List.mem_of_getElem? hlay)
    simpa using this
  have hjl : j < sl.length := (List.getElem?_eq_some_iff.mp hj).1
  have he : (cw cA ad lay S)[b]? = some (ad.getD b 0, .inr (ci, sl.mapIdx (fun j x => cv ad (slv S (100 * b + j) x)))) := cw_get hlay
  have hset := cw_set (cA := cA) (ad := ad) (S := S) (i := 0) (v := v) (E := .inr (ci, (sl.mapIdx (fun j x => cv ad (slv S (100 * b + j) x))).set j (cv ad w))) hok (show j < 100 by omega) hlay (by rw [sl_set (v := v) hj (by rw [hw])]; rfl)
  refine va_put (D := (dC, dI)) hC.1 hC.2.1 hC.2.2.2.2.2.1 h3 ty0 h5 h6 hC.2.2.2.2.1 hW.1 hW.2.1 hW.2.2.1 hW.2.2.2.1 b he h1 j h2 (hC.2.2.2.2.2.1 _ h4) (fun _ h9 => h9) h7 h8 (hn ad) (hfit ad) (by rw [List.length_mapIdx]; exact hjl) hd (fun H1 locs1 hP1 hD1 hS1 => ?_)
  rw [hset] at hP1 hD1
  exact kk p l e s m args below meth c dC dI cA ad A H1 locs1 lsA hC ⟨hW.1, hP1, hD1, hS1, hW.2.2.2.2⟩ hL
theorem aj_putI {idx b ci j f : Nat} {sl : List Slt} {v : Int32} (hok : okL lay = true) (F : FP k.1.cls idx ci j .int) (hd : decode k.2.1 pc = .ok (.putfield idx, 3)) (hq : pc + 3 = q) (hlay : lay[b]? = some (.inr (ci, sl))) (hj : sl[j]? = some none) (hf : 100 * b + j = f) (kk : AJ d k lay q ls st (sw S f 0 v) Q) : AJ d k lay pc ls (.int v :: .ref b :: st) S Q := by
  subst hf
  exact aj_putf (v := v) hok F hd hq hlay hj (by simp [slv, sw]) (fun _ => rfl) (fun _ => rfl) kk
theorem aj_putZ {idx b ci j f : Nat} {sl : List Slt} {v : Int32} (hok : okL lay = true) (F : FP k.1.cls idx ci j .boolean) (hd : decode k.2.1 pc = .ok (.putfield idx, 3)) (hq : pc + 3 = q) (hlay : lay[b]? = some (.inr (ci, sl))) (hj : sl[j]? = some none) (hf : 100 * b + j = f) (hn : narrow .boolean (.int v) = .int v) (hfit : fits .boolean (.int v) = true) (kk : AJ d k lay q ls st (sw S f 0 v) Q) : AJ d k lay pc ls (.int v :: .ref b :: st) S Q := by
  subst hf
  exact aj_putf (v := v) hok F hd hq hlay hj (by simp [slv, sw]) (fun _ => hn) (fun _ => hfit) kk
theorem aj_putD {idx b ci j f r : Nat} {C : String} {sl : List Slt} (hok : okL lay = true) (F : FP k.1.cls idx ci j (.object C)) (hd : decode k.2.1 pc = .ok (.putfield idx, 3)) (hq : pc + 3 = q) (hlay : lay[b]? = some (.inr (ci, sl))) (hj : sl[j]? = some (some none)) (hf : 100 * b + j = f) (hr : r < 2 ^ 31) (kk : AJ d k lay q ls st (sw S f 0 (nI r)) Q) : AJ d k lay pc ls (.ref r :: .ref b :: st) S Q := by
  subst hf
  exact aj_putf (v := nI r) hok F hd hq hlay hj (by simp [slv, sw, nI_clamp hr]) (fun _ => rfl) (fun _ => rfl) kk
theorem aj_iaload {b n f : Nat} {i : Int32} (hd : decode k.2.1 pc = .ok (.iaload, 1)) (hq : pc + 1 = q) (hlay : lay[b]? = some (.inl n)) (hf : 100 * b = f) (hin : vp_in i n) (kk : AJ d k lay q ls (.int (S f i.toNatClampNeg) :: st) S Q) : AJ d k lay pc ls (.int i :: .ref b :: st) S Q := by
  subst hq; subst hf
  intro p l e s m args below meth c dC dI cA ad A H locs lsA hC hW hL
  exact va_iald (D := (dC, dI)) hC.1 hC.2.1 hW.1 hW.2.1 b 0 (cw_get hlay) rfl hin hd (kk p l e s m args below meth c dC dI cA ad A H locs lsA hC hW hL)
theorem aj_alen {b n : Nat} {v : Int32} (hd : decode k.2.1 pc = .ok (.arraylength, 1)) (hq : pc + 1 = q) (hlay : lay[b]? = some (.inl n)) (hv : Int32.ofNat n = v) (kk : AJ d k lay q ls (.int v :: st) S Q) : AJ d k lay pc ls (.ref b :: st) S Q := by
  subst hq
  intro p l e s m args below meth c dC dI cA ad A H locs lsA hC hW hL
  exact va_alen (D := (dC, dI)) hC.1 hC.2.1 hW.1 hW.2.1 b 0 (cw_get hlay) (ty := .int) rfl hv hd (kk p l e s m args below meth c dC dI cA ad A H locs lsA hC hW hL)
theorem aj_iastore {b n f : Nat} {i x : Int32} (hok : okL lay = true) (hd : decode k.2.1 pc = .ok (.iastore, 1)) (hq : pc + 1 = q) (hlay : lay[b]? = some (.inl n)) (hf : 100 * b = f) (hin : vp_in i n) (kk : AJ d k lay q ls st (sw S f i.toNatClampNeg x) Q) : AJ d k lay pc ls (.int x :: .int i :: .ref b :: st) S Q := by
  subst hq; subst hf
  intro p l e s m args below meth c dC dI cA ad A H locs lsA hC hW hL
  have hset := cw_set (cA := cA) (ad := ad) (S := S) (j := 0) (i := i.toNatClampNeg) (v := x) (E := .inl (cA, n, .inl (upd (S (100 * b)) i.toNatClampNeg x))) hok (by omega) hlay (by
    simp only [ce]
    congr 4
    funext z
    simp [upd, sw])
  refine va_iast (D := (dC, dI)) hC.1 hC.2.1 hW.1 hW.2.1 hW.2.2.1 hW.2.2.2.1 b 0 (cw_get hlay) rfl hin hd (fun H1 locs1 hP1 hD1 hS1 => ?_)
  rw [hset] at hP1 hD1
  exact kk p l e s m args below meth c dC dI cA ad A H1 locs1 lsA hC ⟨hW.1, hP1, hD1, hS1, hW.2.2.2.2⟩ hL
theorem aj_weaken {ls' : AL} (hs : ∀ (i : Nat) (v : Value), ls'[i]? = some (some v) → ls[i]? = some (some v)) (kk : AJ d k lay pc ls' st S Q) : AJ d k lay pc ls st S Q := by
  intro p l e s m args below meth c dC dI cA ad A H locs lsA hC hW hL
  exact kk p l e s m args below meth c dC dI cA ad A H locs lsA hC hW (hL.weaken hs)
end AJF
/-! calls -/
def pushR (r : Option Value) (l : List Value) : List Value := match r with
  | none => l
  | some v => v :: l
theorem pushR_eq (r : Option Value) (l : List Value) : r.toList ++ l = pushR r l := by cases r <;> rfl
theorem wsK_good {k' : MK} (h : Cond.code k'.1 k'.2.1 k'.2.2.1 k'.2.2.2 ∈ TT) : GoodIn TT (wsK k') := by
  intro w hw
  have hm : w ∈ TT := by
    rcases List.mem_cons.mp hw with rfl | h1
    · exact h
    · exact h1
  exact ⟨hm, good_of_word (List.mem_filter.mp hm).2⟩
section AJC
variable {d : Nat} {k k' : MK} {lay : Lay} {pc q : Nat} {ls : AL} {st : List Value} {S : Sx} {Q : Option Value → Sx → Prop}
theorem PP.blind {dC : Nat → ClassId} {dI : Nat → Nat → Nat} {cA : ClassId} {ad : List Nat} {sz : Nat} {av : List Value} : FrameBlind (va_Pc av (PP dC dI cA ad lay S sz)) := fun a U g mk q => by
  obtain ⟨q0, q1, qP, qK, qD, qN⟩ := q
  exact ⟨q0, q1, qP, va_K.moved (u := U) (U := U.calling g mk a) (Vm.Alike.refl U.vm) qK, qD, NK.same (u := U) (U := U.calling g mk a) rfl qN⟩
theorem PP.at {dC : Nat → ClassId} {dI : Nat → Nat → Nat} {cA : ClassId} {ad : List Nat} {A : Nat → Prop} {s U : State} {H : Heap} {locs : List Loc} (hW : Wd dC dI cA ad A s lay S H locs) (hU : U.heap = H) (hw : s.WarmedH U.vm) (hN : NK s) : PP dC dI cA ad lay S H.size U :=
  ⟨by rw [hU], by rw [hU]; exact hW.2.1, va_K.moved hw.alike hW.1, hW.2.2.1.weaken (fun _ _ _ _ => trivial), hN.warm hw⟩
theorem Wd.free {dC : Nat → ClassId} {dI : Nat → Nat → Nat} {cA : ClassId} {ad : List Nat} {A : Nat → Prop} {s : State} {H : Heap} {locs : List Loc} (hW : Wd dC dI cA ad A s lay S H locs) : ∀ q, va_A (cw cA ad lay S) H.size q → A q := by
  intro q hq
  rcases hq with ⟨k, e, hk⟩ | hq
  · exact hW.2.2.1.2 k _ hk
  · exact hW.2.2.2.2 q (Nat.le_trans hW.2.2.2.1.1 hq)
/-- behind a call -/
theorem aj_back {p : Program} {l : Launch} {e : Env} {s : State} {m : MethodId} {args : Array Value} {below : List Frame} {meth : Method} {c : Code} {dC : Nat → ClassId} {dI : Nat → Nat → Nat} {cA : ClassId} {ad : List Nat} {A : Nat → Prop} {H : Heap} {locs : List Loc} {lsA : Array Slot} {st0 rest : List Value} {a : Array Value}
    (hC : Cx k p s m args meth c) (hW : Wd dC dI cA ad A s lay S H locs) (hL : LR ad ls k.2.2.1 lsA) (hq : pc + 3 = q)
    (hr : va_Run p l e (rmD d) s m args below meth c H locs 0 0 0 0 (F0 m pc lsA st0) (rest.map (cv ad)) (QQ dC dI cA ad (va_A (cw cA ad lay S) H.size) lay (fun r S' => AJ d k lay q ls (r.toList ++ rest) S' Q) a) (va_A (cw cA ad lay S) H.size)) :
    W p l e (rmD d) s m args below meth c H locs 0 0 (MQ below (QQ dC dI cA ad A lay Q) args s 0 0 A) (F0 m pc lsA st0) := by
  subst hq
  intro T hT X
  obtain ⟨v, st₀, t, T', L, h0, X', hLf, e1, e2, ⟨⟨r, S', ho, hQ, hP', hK', hD'⟩, hF⟩, st⟩ := hr T hT X
  have hv : v = r.map (cv ad) := by
    injection ho
  subst hv
  have hz : H.size ≤ t.heap.size := by rw [← h0]; exact hF.1
  have hkeep : ∀ z : Nat, z < H.size → ¬ va_A (cw cA ad lay S) H.size z → t.heap[z]? = H[z]? := fun z h1 h2 => by rw [hF.2 z (by rw [h0]; exact h1) h2, h0]
  have hS := hW.2.2.2.1
  have hW' : Wd dC dI cA ad A s lay S' T'.heap (locs ++ L) := by
    refine ⟨hW.1, by rw [e1]; exact hP', hD'.weaken (fun _ z _ hz => hW.free _ hz), ⟨Nat.le_trans hS.1 (by rw [e1]; exact hz), fun z h1 h2 => ?_, fun z hz => ?_⟩, hW.2.2.2.2⟩
    · rw [e1, hkeep z (Nat.lt_of_lt_of_le h1 hS.1) (fun h => h2 (hW.free _ h))]
      exact hS.2.1 z h1 h2
    · rcases List.mem_append.mp hz with h | h
      · exact hS.2.2 z h
      · exact hW.free _ (hLf z h)
  obtain ⟨t2, a1, b1⟩ := hQ p l e s m args below meth c dC dI cA ad A T'.heap (locs ++ L) lsA hC hW' hL T' rfl X'
  refine ⟨t2, st t2 ?_, b1⟩
  have : (r.toList ++ rest).map (cv ad) = (r.map (cv ad)).toList ++ rest.map (cv ad) := by cases r <;> simp
  rw [this] at a1
  exact a1
theorem aj_callV {idx b ci n : Nat} {sl : List Slt} {As rest : List Value} (F : CVok k.1.cls idx k') (G : MKok k' n) (hd : decode k.2.1 pc = .ok (.invokevirtual idx, 3)) (hq : pc + 3 = q) (hlay : lay[b]? = some (.inr (ci, sl))) (hci : (xcl[ci]?).map (fun z => z.1) = some k'.1.cls) (hn : As.length = n) (hr : (rest.map (fun v => v.category)).sum ≤ 8)
    (kk : CC d k' lay (.ref b :: As) S (fun r S' => AJ (d + 1) k lay q ls (pushR r rest) S' Q)) : AJ (d + 1) k lay pc ls (As.reverse ++ .ref b :: rest) S Q := by
  intro p l e s m args below meth c dC dI cA ad A H locs lsA hC hW hL
  obtain ⟨hx, hb, hret, hml, hown, hts, hlk, hNk⟩ := id hC
  obtain ⟨f1, f2, f3⟩ := F
  obtain ⟨g1, g2, g3, g4⟩ := G
  simp only [← pushR_eq] at kk
  have hM := kk l dC dI cA ad H.size
  obtain ⟨⟨C, T, N⟩, hcl, hC9⟩ : ∃ z, xcl[ci]? = some z ∧ z.1 = k'.1.cls := by
    cases hz : xcl[ci]? with
    | none => rw [hz] at hci; cases hci
    | some z => rw [hz] at hci; exact ⟨z, rfl, by simpa using hci⟩
  refine aj_back hC hW hL hq (va_runV (As := As.map (cv ad)) (b := ad.getD b 0) (n := n) (C := k'.1.cls) ⟨hx, hb, hml, hown, hts⟩ hM ⟨callB_of n hts (wsK_good g2) rfl rfl rfl (hts _ g1) (hts _ f1) g3 ⟨Nat.le_refl _, ?_⟩, hts _ f2, hts _ f3⟩ ⟨PP.blind, ?_, fun U hU hw => ⟨?_, PP.at hW hU hw hNk⟩⟩ rfl (by rw [List.length_map]; exact hn) hL.1 ?_ (lv_room ?_) hd ⟨Nat.le_refl _, Nat.le_refl _⟩)
  · show 8 + (k'.2.2.1 + 11) + 40 * d ≤ 40 * (d + 1)
    omega
  · have := va_recv hW.1 hW.2.1 (ci := ci) (q0 := b) hcl (cw_get hlay)
    simp only at hC9
    rw [← hC9]
    exact this
  · rfl
  · show (As.reverse ++ .ref b :: rest).map (cv ad) = _
    simp [cv]
  · rw [List.map_map]
    have : ((fun v => v.category) ∘ cv ad) = (fun v : Value => v.category) := by funext v; exact cv_cat ad v
    rw [this]
    exact hr
theorem aj_callS {idx n : Nat} {As rest : List Value} (F : CSok k.1.cls idx k') (G : MKok k' n) (hd : decode k.2.1 pc = .ok (.invokestatic idx, 3)) (hq : pc + 3 = q) (hn : As.length = n) (hr : (rest.map (fun v => v.category)).sum ≤ 8)
    (kk : CC d k' lay As S (fun r S' => AJ (d + 1) k lay q ls (pushR r rest) S' Q)) : AJ (d + 1) k lay pc ls (As.reverse ++ rest) S Q := by
  intro p l e s m args below meth c dC dI cA ad A H locs lsA hC hW hL
  obtain ⟨hx, hb, hret, hml, hown, hts, hlk, hNk⟩ := id hC
  obtain ⟨f1, f2⟩ := F
  obtain ⟨g1, g2, g3, g4⟩ := G
  simp only [← pushR_eq] at kk
  have hM := kk l dC dI cA ad H.size
  have hroom : 8 + (k'.2.2.1 + 11) + 40 * d ≤ 40 * (d + 1) := by omega
  have hst : (As.reverse ++ rest).map (cv ad) = (As.map (cv ad)).reverse ++ rest.map (cv ad) := by simp
  have hcat : ((rest.map (cv ad)).map fun v => v.category).sum ≤ 8 := by
    rw [List.map_map]
    have : ((fun v => v.category) ∘ cv ad) = (fun v : Value => v.category) := by funext v; exact cv_cat ad v
    rw [this]
    exact hr
  rcases f1 with f1 | ⟨host, f1⟩
  · exact aj_back hC hW hL hq (va_runS (As := As.map (cv ad)) (n := n) ⟨hx, hb, hml, hown, hts⟩ hM ⟨callB_of n hts (wsK_good g2) rfl rfl rfl (hts _ g1) (hts _ f1) g3 ⟨Nat.le_refl _, hroom⟩, hts _ f2⟩ ⟨PP.blind, fun U hU hw => ⟨rfl, PP.at hW hU hw hNk⟩⟩ rfl (by rw [List.length_map]; exact hn) hL.1 hst (lv_room hcat) hd ⟨Nat.le_refl _, Nat.le_refl _⟩)
  · exact aj_back hC hW hL hq (va_runSN (As := As.map (cv ad)) (n := n) ⟨hx, hb, hml, hown, hts⟩ hM ⟨va_cnB n hts (wsK_good g2) rfl rfl rfl (hNk _ f1) (hts _ g1) g3 ⟨Nat.le_refl _, hroom⟩, hts _ f2, trivial⟩ ⟨PP.blind, fun U hU hw => ⟨rfl, PP.at hW hU hw hNk⟩⟩ rfl (by rw [List.length_map]; exact hn) hL.1 hst (lv_room hcat) hd ⟨Nat.le_refl _, Nat.le_refl _⟩)
end AJC
