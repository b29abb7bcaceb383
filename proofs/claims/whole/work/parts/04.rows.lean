section GRows
variable {Γ : gW} {μ : gY} {R : Room} {kn : Nat × Nat} {Z : gZ} {pc q : Nat} {lv : List (Option Value)} {st : List Value} {M : gM}
theorem g_iadd {x y : Int32} (hd : decode μ.1 pc = .ok (.iadd, 1)) (hq : pc + 1 = q)  (k : G Γ μ R kn Z q lv (.int (x + y) :: st) M) : G Γ μ R kn Z pc lv (.int y :: .int x :: st) M := by
  subst hq
  exact fun p l e s m args below meth c H locs A ls F X => lv_iadd F.1 F.2.1 hd  (k p l e s m args below meth c H locs A ls F X)
theorem g_isub {x y : Int32} (hd : decode μ.1 pc = .ok (.isub, 1)) (hq : pc + 1 = q)  (k : G Γ μ R kn Z q lv (.int (x - y) :: st) M) : G Γ μ R kn Z pc lv (.int y :: .int x :: st) M := by
  subst hq
  exact fun p l e s m args below meth c H locs A ls F X => lv_isub F.1 F.2.1 hd  (k p l e s m args below meth c H locs A ls F X)
theorem g_imul {x y : Int32} (hd : decode μ.1 pc = .ok (.imul, 1)) (hq : pc + 1 = q)  (k : G Γ μ R kn Z q lv (.int (x * y) :: st) M) : G Γ μ R kn Z pc lv (.int y :: .int x :: st) M := by
  subst hq
  exact fun p l e s m args below meth c H locs A ls F X => lv_imul F.1 F.2.1 hd  (k p l e s m args below meth c H locs A ls F X)
theorem g_iand {x y : Int32} (hd : decode μ.1 pc = .ok (.iand, 1)) (hq : pc + 1 = q)  (k : G Γ μ R kn Z q lv (.int (x &&& y) :: st) M) : G Γ μ R kn Z pc lv (.int y :: .int x :: st) M := by
  subst hq
  exact fun p l e s m args below meth c H locs A ls F X => lv_iand F.1 F.2.1 hd  (k p l e s m args below meth c H locs A ls F X)
theorem g_ior {x y : Int32} (hd : decode μ.1 pc = .ok (.ior, 1)) (hq : pc + 1 = q)  (k : G Γ μ R kn Z q lv (.int (x ||| y) :: st) M) : G Γ μ R kn Z pc lv (.int y :: .int x :: st) M := by
  subst hq
  exact fun p l e s m args below meth c H locs A ls F X => lv_ior F.1 F.2.1 hd  (k p l e s m args below meth c H locs A ls F X)
theorem g_ixor {x y : Int32} (hd : decode μ.1 pc = .ok (.ixor, 1)) (hq : pc + 1 = q)  (k : G Γ μ R kn Z q lv (.int (x ^^^ y) :: st) M) : G Γ μ R kn Z pc lv (.int y :: .int x :: st) M := by
  subst hq
  exact fun p l e s m args below meth c H locs A ls F X => lv_ixor F.1 F.2.1 hd  (k p l e s m args below meth c H locs A ls F X)
theorem g_ishl {x y : Int32} (hd : decode μ.1 pc = .ok (.ishl, 1)) (hq : pc + 1 = q)  (k : G Γ μ R kn Z q lv (.int (x <<< (y &&& 31)) :: st) M) : G Γ μ R kn Z pc lv (.int y :: .int x :: st) M := by
  subst hq
  exact fun p l e s m args below meth c H locs A ls F X => lv_ishl F.1 F.2.1 hd  (k p l e s m args below meth c H locs A ls F X)
theorem g_ishr {x y : Int32} (hd : decode μ.1 pc = .ok (.ishr, 1)) (hq : pc + 1 = q)  (k : G Γ μ R kn Z q lv (.int (x >>> (y &&& 31)) :: st) M) : G Γ μ R kn Z pc lv (.int y :: .int x :: st) M := by
  subst hq
  exact fun p l e s m args below meth c H locs A ls F X => lv_ishr F.1 F.2.1 hd  (k p l e s m args below meth c H locs A ls F X)
theorem g_iushr {x y v : Int32} (hd : decode μ.1 pc = .ok (.iushr, 1)) (hq : pc + 1 = q) (hv : (x.toUInt32 >>> (y.toUInt32 &&& Int32.toUInt32 31)).toInt32 = v) (k : G Γ μ R kn Z q lv (.int v :: st) M) : G Γ μ R kn Z pc lv (.int y :: .int x :: st) M := by
  subst hq
  exact fun p l e s m args below meth c H locs A ls F X => lv_iushr F.1 F.2.1 hd hv (k p l e s m args below meth c H locs A ls F X)
theorem g_idiv {x y : Int32} (hd : decode μ.1 pc = .ok (.idiv, 1)) (hq : pc + 1 = q) (hne : ¬ y = 0) (k : G Γ μ R kn Z q lv (.int (x / y) :: st) M) : G Γ μ R kn Z pc lv (.int y :: .int x :: st) M := by
  subst hq
  exact fun p l e s m args below meth c H locs A ls F X => lv_idiv F.1 F.2.1 hd hne (k p l e s m args below meth c H locs A ls F X)
theorem g_irem {x y : Int32} (hd : decode μ.1 pc = .ok (.irem, 1)) (hq : pc + 1 = q) (hne : ¬ y = 0) (k : G Γ μ R kn Z q lv (.int (x - x / y * y) :: st) M) : G Γ μ R kn Z pc lv (.int y :: .int x :: st) M := by
  subst hq
  exact fun p l e s m args below meth c H locs A ls F X => lv_irem F.1 F.2.1 hd hne (k p l e s m args below meth c H locs A ls F X)
theorem g_ineg {x : Int32} (hd : decode μ.1 pc = .ok (.ineg, 1)) (hq : pc + 1 = q)  (k : G Γ μ R kn Z q lv (.int (-x) :: st) M) : G Γ μ R kn Z pc lv (.int x :: st) M := by
  subst hq
  exact fun p l e s m args below meth c H locs A ls F X => lv_ineg F.1 F.2.1 hd  (k p l e s m args below meth c H locs A ls F X)
theorem g_i2b {x : Int32} (hd : decode μ.1 pc = .ok (.i2b, 1)) (hq : pc + 1 = q)  (k : G Γ μ R kn Z q lv (.int (x.toInt8.toInt32) :: st) M) : G Γ μ R kn Z pc lv (.int x :: st) M := by
  subst hq
  exact fun p l e s m args below meth c H locs A ls F X => lv_i2b F.1 F.2.1 hd rfl (k p l e s m args below meth c H locs A ls F X)
theorem g_i2s {x : Int32} (hd : decode μ.1 pc = .ok (.i2s, 1)) (hq : pc + 1 = q)  (k : G Γ μ R kn Z q lv (.int (x.toInt16.toInt32) :: st) M) : G Γ μ R kn Z pc lv (.int x :: st) M := by
  subst hq
  exact fun p l e s m args below meth c H locs A ls F X => lv_i2s F.1 F.2.1 hd rfl (k p l e s m args below meth c H locs A ls F X)
theorem g_i2l {x : Int32} (hd : decode μ.1 pc = .ok (.i2l, 1)) (hq : pc + 1 = q)  (k : G Γ μ R kn Z q lv (.long (x.toInt64) :: st) M) : G Γ μ R kn Z pc lv (.int x :: st) M := by
  subst hq
  exact fun p l e s m args below meth c H locs A ls F X => lv_i2l F.1 F.2.1 hd rfl (k p l e s m args below meth c H locs A ls F X)
theorem g_l2i {x : Int64} (hd : decode μ.1 pc = .ok (.l2i, 1)) (hq : pc + 1 = q)  (k : G Γ μ R kn Z q lv (.int (x.toInt32) :: st) M) : G Γ μ R kn Z pc lv (.long x :: st) M := by
  subst hq
  exact fun p l e s m args below meth c H locs A ls F X => lv_l2i F.1 F.2.1 hd rfl (k p l e s m args below meth c H locs A ls F X)
theorem g_lor {x y : Int64} (hd : decode μ.1 pc = .ok (.lor, 1)) (hq : pc + 1 = q)  (k : G Γ μ R kn Z q lv (.long (x ||| y) :: st) M) : G Γ μ R kn Z pc lv (.long y :: .long x :: st) M := by
  subst hq
  exact fun p l e s m args below meth c H locs A ls F X => lv_lor F.1 F.2.1 hd  (k p l e s m args below meth c H locs A ls F X)
theorem g_lxor {x y : Int64} (hd : decode μ.1 pc = .ok (.lxor, 1)) (hq : pc + 1 = q)  (k : G Γ μ R kn Z q lv (.long (x ^^^ y) :: st) M) : G Γ μ R kn Z pc lv (.long y :: .long x :: st) M := by
  subst hq
  exact fun p l e s m args below meth c H locs A ls F X => lv_lxor F.1 F.2.1 hd  (k p l e s m args below meth c H locs A ls F X)
theorem g_lmul {x y : Int64} (hd : decode μ.1 pc = .ok (.lmul, 1)) (hq : pc + 1 = q)  (k : G Γ μ R kn Z q lv (.long (x * y) :: st) M) : G Γ μ R kn Z pc lv (.long y :: .long x :: st) M := by
  subst hq
  exact fun p l e s m args below meth c H locs A ls F X => lv_lmul F.1 F.2.1 hd  (k p l e s m args below meth c H locs A ls F X)
theorem g_land {x y : Int64} (hd : decode μ.1 pc = .ok (.land, 1)) (hq : pc + 1 = q)  (k : G Γ μ R kn Z q lv (.long (x &&& y) :: st) M) : G Γ μ R kn Z pc lv (.long y :: .long x :: st) M := by
  subst hq
  exact fun p l e s m args below meth c H locs A ls F X => lv_land F.1 F.2.1 hd  (k p l e s m args below meth c H locs A ls F X)
theorem g_ladd {x y : Int64} (hd : decode μ.1 pc = .ok (.ladd, 1)) (hq : pc + 1 = q)  (k : G Γ μ R kn Z q lv (.long (x + y) :: st) M) : G Γ μ R kn Z pc lv (.long y :: .long x :: st) M := by
  subst hq
  exact fun p l e s m args below meth c H locs A ls F X => lv_ladd F.1 F.2.1 hd  (k p l e s m args below meth c H locs A ls F X)
theorem g_lushr {x : Int64} {y : Int32} (hd : decode μ.1 pc = .ok (.lushr, 1)) (hq : pc + 1 = q)  (k : G Γ μ R kn Z q lv (.long (x.toUInt64 >>> (y.toInt64.toUInt64 &&& Int64.toUInt64 63)).toInt64 :: st) M) : G Γ μ R kn Z pc lv (.int y :: .long x :: st) M := by
  subst hq
  exact fun p l e s m args below meth c H locs A ls F X => lv_lushr F.1 F.2.1 hd rfl (k p l e s m args below meth c H locs A ls F X)
theorem g_lshl {x : Int64} {y : Int32} (hd : decode μ.1 pc = .ok (.lshl, 1)) (hq : pc + 1 = q)  (k : G Γ μ R kn Z q lv (.long (x <<< (y.toInt64 &&& 63)) :: st) M) : G Γ μ R kn Z pc lv (.int y :: .long x :: st) M := by
  subst hq
  exact fun p l e s m args below meth c H locs A ls F X => lv_lshl F.1 F.2.1 hd rfl (k p l e s m args below meth c H locs A ls F X)
theorem g_lcmp {x y : Int64} (hd : decode μ.1 pc = .ok (.lcmp, 1)) (hq : pc + 1 = q)  (k : G Γ μ R kn Z q lv (.int (lg_cmp x y) :: st) M) : G Γ μ R kn Z pc lv (.long y :: .long x :: st) M := by
  subst hq
  exact fun p l e s m args below meth c H locs A ls F X => W.lcmp F.1 F.2.1 hd  (k p l e s m args below meth c H locs A ls F X)
theorem g_iconst {n : Int} {v : Int32} (hd : decode μ.1 pc = .ok (.iconst n, 1)) (hq : pc + 1 = q) (hv : Int32.ofInt n = v) (k : G Γ μ R kn Z q lv (.int v :: st) M) : G Γ μ R kn Z pc lv st M := by
  subst hq
  exact fun p l e s m args below meth c H locs A ls F X => lv_iconst F.1 F.2.1 hd hv (k p l e s m args below meth c H locs A ls F X)
theorem g_bipush {n : Int} {v : Int32} (hd : decode μ.1 pc = .ok (.bipush n, 2)) (hq : pc + 2 = q) (hv : (Int8.ofInt n).toInt32 = v) (k : G Γ μ R kn Z q lv (.int v :: st) M) : G Γ μ R kn Z pc lv st M := by
  subst hq
  exact fun p l e s m args below meth c H locs A ls F X => lv_bipush F.1 F.2.1 hd hv (k p l e s m args below meth c H locs A ls F X)
theorem g_sipush {n : Int} {v : Int32} (hd : decode μ.1 pc = .ok (.sipush n, 3)) (hq : pc + 3 = q) (hv : (Int16.ofInt n).toInt32 = v) (k : G Γ μ R kn Z q lv (.int v :: st) M) : G Γ μ R kn Z pc lv st M := by
  subst hq
  exact fun p l e s m args below meth c H locs A ls F X => lv_sipush F.1 F.2.1 hd hv (k p l e s m args below meth c H locs A ls F X)
theorem g_lconst {n : Fin 2} {v : Int64} (hd : decode μ.1 pc = .ok (.lconst n, 1)) (hq : pc + 1 = q) (hv : Int64.ofNat (n : Nat) = v) (k : G Γ μ R kn Z q lv (.long v :: st) M) : G Γ μ R kn Z pc lv st M := by
  subst hq
  exact fun p l e s m args below meth c H locs A ls F X => lv_lconst F.1 F.2.1 hd hv (k p l e s m args below meth c H locs A ls F X)
theorem g_dup {v : Value} (hd : decode μ.1 pc = .ok (.dup, 1)) (hq : pc + 1 = q) (hc : v.category = 1) (k : G Γ μ R kn Z q lv (v :: v :: st) M) : G Γ μ R kn Z pc lv (v :: st) M := by
  subst hq
  exact fun p l e s m args below meth c H locs A ls F X => lv_dup F.1 F.2.1 hd (by rw [g_cat]; exact hc) (k p l e s m args below meth c H locs A ls F X)
theorem g_dup2 {v w : Value} (hd : decode μ.1 pc = .ok (.dup2, 1)) (hq : pc + 1 = q) (hc : v.category = 1) (hc2 : w.category = 1) (k : G Γ μ R kn Z q lv (v :: w :: v :: w :: st) M) : G Γ μ R kn Z pc lv (v :: w :: st) M := by
  subst hq
  exact fun p l e s m args below meth c H locs A ls F X => lv_dup2_11 F.1 F.2.1 hd (by rw [g_cat]; exact hc) (by rw [g_cat]; exact hc2) (k p l e s m args below meth c H locs A ls F X)
theorem g_pop {v : Value} (hd : decode μ.1 pc = .ok (.pop, 1)) (hq : pc + 1 = q) (hc : v.category = 1) (k : G Γ μ R kn Z q lv st M) : G Γ μ R kn Z pc lv (v :: st) M := by
  subst hq
  exact fun p l e s m args below meth c H locs A ls F X => lv_pop F.1 F.2.1 hd (by rw [g_cat]; exact hc) (k p l e s m args below meth c H locs A ls F X)
theorem g_ldc {i : Nat} {v : Int32} (hd : decode μ.1 pc = .ok (.ldc i, 2)) (hq : pc + 2 = q) (hc : Cond.constant μ.2.1 i v ∈ g_UW) (k : G Γ μ R kn Z q lv (.int v :: st) M) : G Γ μ R kn Z pc lv st M := by
  subst hq
  exact fun p l e s m args below meth c H locs A ls F X => lv_ldc F.1 F.2.1 F.2.2.2.2.2.1 (F.2.2.2.2.2.2.1 _ hc) hd (k p l e s m args below meth c H locs A ls F X)
theorem g_ldcw {i : Nat} {v : Int32} (hd : decode μ.1 pc = .ok (.ldc_w i, 3)) (hq : pc + 3 = q) (hc : Cond.constant μ.2.1 i v ∈ g_UW) (k : G Γ μ R kn Z q lv (.int v :: st) M) : G Γ μ R kn Z pc lv st M := by
  subst hq
  exact fun p l e s m args below meth c H locs A ls F X => lv_ldcw F.1 F.2.1 F.2.2.2.2.2.1 (F.2.2.2.2.2.2.1 _ hc) hd (k p l e s m args below meth c H locs A ls F X)
theorem g_ldc2 {i : Nat} {v : Int64} (hd : decode μ.1 pc = .ok (.ldc2_w i, 3)) (hq : pc + 3 = q) (hc : Cond.constantLong μ.2.1 i v ∈ g_UW) (k : G Γ μ R kn Z q lv (.long v :: st) M) : G Γ μ R kn Z pc lv st M := by
  subst hq
  exact fun p l e s m args below meth c H locs A ls F X => lv_ldc2 F.1 F.2.1 F.2.2.2.2.2.1 (F.2.2.2.2.2.2.1 _ hc) hd (k p l e s m args below meth c H locs A ls F X)
theorem g_if_eq {x : Int32} {off : Int} {t : Nat} (hd : decode μ.1 pc = .ok (.ifCond .eq off, 3)) (ht : (pc : Int) + off = (t : Int)) (hq : pc + 3 = q) (kt : x = 0 → G Γ μ R kn Z t lv st M) (kf : ¬ x = 0 → G Γ μ R kn Z q lv st M) : G Γ μ R kn Z pc lv (.int x :: st) M := by
  subst hq
  exact fun p l e s m args below meth c H locs A ls F X => lv_if_eq F.1 F.2.1 hd ht (fun h => kt h p l e s m args below meth c H locs A ls F X) (fun h => kf h p l e s m args below meth c H locs A ls F X)
theorem g_if_ne {x : Int32} {off : Int} {t : Nat} (hd : decode μ.1 pc = .ok (.ifCond .ne off, 3)) (ht : (pc : Int) + off = (t : Int)) (hq : pc + 3 = q) (kt : ¬ x = 0 → G Γ μ R kn Z t lv st M) (kf : x = 0 → G Γ μ R kn Z q lv st M) : G Γ μ R kn Z pc lv (.int x :: st) M := by
  subst hq
  exact fun p l e s m args below meth c H locs A ls F X => lv_if_ne F.1 F.2.1 hd ht (fun h => kt h p l e s m args below meth c H locs A ls F X) (fun h => kf h p l e s m args below meth c H locs A ls F X)
theorem g_if_lt {x : Int32} {off : Int} {t : Nat} (hd : decode μ.1 pc = .ok (.ifCond .lt off, 3)) (ht : (pc : Int) + off = (t : Int)) (hq : pc + 3 = q) (kt : x < 0 → G Γ μ R kn Z t lv st M) (kf : ¬ x < 0 → G Γ μ R kn Z q lv st M) : G Γ μ R kn Z pc lv (.int x :: st) M := by
  subst hq
  exact fun p l e s m args below meth c H locs A ls F X => lv_if_lt F.1 F.2.1 hd ht (fun h => kt h p l e s m args below meth c H locs A ls F X) (fun h => kf h p l e s m args below meth c H locs A ls F X)
theorem g_if_ge {x : Int32} {off : Int} {t : Nat} (hd : decode μ.1 pc = .ok (.ifCond .ge off, 3)) (ht : (pc : Int) + off = (t : Int)) (hq : pc + 3 = q) (kt : 0 ≤ x → G Γ μ R kn Z t lv st M) (kf : ¬ 0 ≤ x → G Γ μ R kn Z q lv st M) : G Γ μ R kn Z pc lv (.int x :: st) M := by
  subst hq
  exact fun p l e s m args below meth c H locs A ls F X => lv_if_ge F.1 F.2.1 hd ht (fun h => kt h p l e s m args below meth c H locs A ls F X) (fun h => kf h p l e s m args below meth c H locs A ls F X)
theorem g_if_gt {x : Int32} {off : Int} {t : Nat} (hd : decode μ.1 pc = .ok (.ifCond .gt off, 3)) (ht : (pc : Int) + off = (t : Int)) (hq : pc + 3 = q) (kt : 0 < x → G Γ μ R kn Z t lv st M) (kf : ¬ 0 < x → G Γ μ R kn Z q lv st M) : G Γ μ R kn Z pc lv (.int x :: st) M := by
  subst hq
  exact fun p l e s m args below meth c H locs A ls F X => lv_if_gt F.1 F.2.1 hd ht (fun h => kt h p l e s m args below meth c H locs A ls F X) (fun h => kf h p l e s m args below meth c H locs A ls F X)
theorem g_if_le {x : Int32} {off : Int} {t : Nat} (hd : decode μ.1 pc = .ok (.ifCond .le off, 3)) (ht : (pc : Int) + off = (t : Int)) (hq : pc + 3 = q) (kt : x ≤ 0 → G Γ μ R kn Z t lv st M) (kf : ¬ x ≤ 0 → G Γ μ R kn Z q lv st M) : G Γ μ R kn Z pc lv (.int x :: st) M := by
  subst hq
  exact fun p l e s m args below meth c H locs A ls F X => lv_if_le F.1 F.2.1 hd ht (fun h => kt h p l e s m args below meth c H locs A ls F X) (fun h => kf h p l e s m args below meth c H locs A ls F X)
theorem g_icmp_eq {x y : Int32} {off : Int} {t : Nat} (hd : decode μ.1 pc = .ok (.if_icmp .eq off, 3)) (ht : (pc : Int) + off = (t : Int)) (hq : pc + 3 = q) (kt : x = y → G Γ μ R kn Z t lv st M) (kf : ¬ x = y → G Γ μ R kn Z q lv st M) : G Γ μ R kn Z pc lv (.int y :: .int x :: st) M := by
  subst hq
  exact fun p l e s m args below meth c H locs A ls F X => lv_icmp_eq F.1 F.2.1 hd ht (fun h => kt h p l e s m args below meth c H locs A ls F X) (fun h => kf h p l e s m args below meth c H locs A ls F X)
theorem g_icmp_ne {x y : Int32} {off : Int} {t : Nat} (hd : decode μ.1 pc = .ok (.if_icmp .ne off, 3)) (ht : (pc : Int) + off = (t : Int)) (hq : pc + 3 = q) (kt : ¬ x = y → G Γ μ R kn Z t lv st M) (kf : x = y → G Γ μ R kn Z q lv st M) : G Γ μ R kn Z pc lv (.int y :: .int x :: st) M := by
  subst hq
  exact fun p l e s m args below meth c H locs A ls F X => lv_icmp_ne F.1 F.2.1 hd ht (fun h => kt h p l e s m args below meth c H locs A ls F X) (fun h => kf h p l e s m args below meth c H locs A ls F X)
theorem g_icmp_lt {x y : Int32} {off : Int} {t : Nat} (hd : decode μ.1 pc = .ok (.if_icmp .lt off, 3)) (ht : (pc : Int) + off = (t : Int)) (hq : pc + 3 = q) (kt : x < y → G Γ μ R kn Z t lv st M) (kf : ¬ x < y → G Γ μ R kn Z q lv st M) : G Γ μ R kn Z pc lv (.int y :: .int x :: st) M := by
  subst hq
  exact fun p l e s m args below meth c H locs A ls F X => lv_icmp_lt F.1 F.2.1 hd ht (fun h => kt h p l e s m args below meth c H locs A ls F X) (fun h => kf h p l e s m args below meth c H locs A ls F X)
theorem g_icmp_ge {x y : Int32} {off : Int} {t : Nat} (hd : decode μ.1 pc = .ok (.if_icmp .ge off, 3)) (ht : (pc : Int) + off = (t : Int)) (hq : pc + 3 = q) (kt : y ≤ x → G Γ μ R kn Z t lv st M) (kf : ¬ y ≤ x → G Γ μ R kn Z q lv st M) : G Γ μ R kn Z pc lv (.int y :: .int x :: st) M := by
  subst hq
  exact fun p l e s m args below meth c H locs A ls F X => lv_icmp_ge F.1 F.2.1 hd ht (fun h => kt h p l e s m args below meth c H locs A ls F X) (fun h => kf h p l e s m args below meth c H locs A ls F X)
theorem g_icmp_gt {x y : Int32} {off : Int} {t : Nat} (hd : decode μ.1 pc = .ok (.if_icmp .gt off, 3)) (ht : (pc : Int) + off = (t : Int)) (hq : pc + 3 = q) (kt : y < x → G Γ μ R kn Z t lv st M) (kf : ¬ y < x → G Γ μ R kn Z q lv st M) : G Γ μ R kn Z pc lv (.int y :: .int x :: st) M := by
  subst hq
  exact fun p l e s m args below meth c H locs A ls F X => lv_icmp_gt F.1 F.2.1 hd ht (fun h => kt h p l e s m args below meth c H locs A ls F X) (fun h => kf h p l e s m args below meth c H locs A ls F X)
theorem g_icmp_le {x y : Int32} {off : Int} {t : Nat} (hd : decode μ.1 pc = .ok (.if_icmp .le off, 3)) (ht : (pc : Int) + off = (t : Int)) (hq : pc + 3 = q) (kt : x ≤ y → G Γ μ R kn Z t lv st M) (kf : ¬ x ≤ y → G Γ μ R kn Z q lv st M) : G Γ μ R kn Z pc lv (.int y :: .int x :: st) M := by
  subst hq
  exact fun p l e s m args below meth c H locs A ls F X => lv_icmp_le F.1 F.2.1 hd ht (fun h => kt h p l e s m args below meth c H locs A ls F X) (fun h => kf h p l e s m args below meth c H locs A ls F X)
theorem g_goto {off : Int} {t : Nat} (hd : decode μ.1 pc = .ok (.goto off, 3)) (ht : (pc : Int) + off = (t : Int)) (k : G Γ μ R kn Z t lv st M) : G Γ μ R kn Z pc lv st M := fun p l e s m args below meth c H locs A ls F X => lv_goto F.1 F.2.1 hd ht (k p l e s m args below meth c H locs A ls F X)
theorem g_tableIn {dflt lo hi : Int} {offs : Array Int} {len : Nat} {x : Int32} {off : Int} {t : Nat} (hd : decode μ.1 pc = .ok (.tableswitch dflt lo hi offs, len)) (h1 : ¬ x.toInt < lo) (h2 : ¬ hi < x.toInt) (ho : offs[(x.toInt - lo).toNat]? = some off) (ht : (pc : Int) + off = (t : Int)) (k : G Γ μ R kn Z t lv st M) : G Γ μ R kn Z pc lv (.int x :: st) M := fun p l e s m args below meth c H locs A ls F X => lv_tableIn F.1 F.2.1 hd h1 h2 ho ht (k p l e s m args below meth c H locs A ls F X)
theorem g_tableOut {dflt lo hi : Int} {offs : Array Int} {len : Nat} {x : Int32} {t : Nat} (hd : decode μ.1 pc = .ok (.tableswitch dflt lo hi offs, len)) (h : x.toInt < lo ∨ hi < x.toInt) (ht : (pc : Int) + dflt = (t : Int)) (k : G Γ μ R kn Z t lv st M) : G Γ μ R kn Z pc lv (.int x :: st) M := fun p l e s m args below meth c H locs A ls F X => lv_tableOut F.1 F.2.1 hd h ht (k p l e s m args below meth c H locs A ls F X)
theorem g_lookup {dflt : Int} {ps : Array (Int × Int)} {len : Nat} {x : Int32} {off : Int} {t : Nat} (hd : decode μ.1 pc = .ok (.lookupswitch dflt ps, len)) (hp : (ps.toList.zip (ps.toList.drop 1)).all (fun (a, next) => a.1 < next.1) = true) (ho : Op.lookupswitch.offset ps.toList dflt x.toInt = off) (ht : (pc : Int) + off = (t : Int)) (k : G Γ μ R kn Z t lv st M) : G Γ μ R kn Z pc lv (.int x :: st) M := fun p l e s m args below meth c H locs A ls F X => lv_lookup F.1 F.2.1 hd hp ho ht (k p l e s m args below meth c H locs A ls F X)
theorem g_iload_n {j : Fin 4} {i : Nat} {x : Int32} (hd : decode μ.1 pc = .ok (.iload_n j, 1)) (hq : pc + 1 = q) (hj : (j : Nat) = i) (hl : lv[i]? = some (some (.int x))) (k : G Γ μ R kn Z q lv (.int x :: st) M) : G Γ μ R kn Z pc lv st M := by
  subst hq
  exact fun p l e s m args below meth c H locs A ls F X => lv_iload_n F.1 F.2.1 hd hj (X.2.2.2.2.2.2 _ _ hl) (k p l e s m args below meth c H locs A ls F X)
theorem g_iload {i : Nat} {x : Int32} (hd : decode μ.1 pc = .ok (.iload i, 2)) (hq : pc + 2 = q)  (hl : lv[i]? = some (some (.int x))) (k : G Γ μ R kn Z q lv (.int x :: st) M) : G Γ μ R kn Z pc lv st M := by
  subst hq
  exact fun p l e s m args below meth c H locs A ls F X => lv_iload F.1 F.2.1 hd  (X.2.2.2.2.2.2 _ _ hl) (k p l e s m args below meth c H locs A ls F X)
theorem g_aload_n {j : Fin 4} {i : Nat} {x : Nat} (hd : decode μ.1 pc = .ok (.aload_n j, 1)) (hq : pc + 1 = q) (hj : (j : Nat) = i) (hl : lv[i]? = some (some (.ref x))) (k : G Γ μ R kn Z q lv (.ref x :: st) M) : G Γ μ R kn Z pc lv st M := by
  subst hq
  exact fun p l e s m args below meth c H locs A ls F X => lv_aload_n F.1 F.2.1 hd hj (X.2.2.2.2.2.2 _ _ hl) (k p l e s m args below meth c H locs A ls F X)
theorem g_aload {i : Nat} {x : Nat} (hd : decode μ.1 pc = .ok (.aload i, 2)) (hq : pc + 2 = q)  (hl : lv[i]? = some (some (.ref x))) (k : G Γ μ R kn Z q lv (.ref x :: st) M) : G Γ μ R kn Z pc lv st M := by
  subst hq
  exact fun p l e s m args below meth c H locs A ls F X => lv_aload F.1 F.2.1 hd  (X.2.2.2.2.2.2 _ _ hl) (k p l e s m args below meth c H locs A ls F X)
theorem g_lload_n {j : Fin 4} {i : Nat} {x : Int64} (hd : decode μ.1 pc = .ok (.lload_n j, 1)) (hq : pc + 1 = q) (hj : (j : Nat) = i) (hl : lv[i]? = some (some (.long x))) (k : G Γ μ R kn Z q lv (.long x :: st) M) : G Γ μ R kn Z pc lv st M := by
  subst hq
  exact fun p l e s m args below meth c H locs A ls F X => lv_lload_n F.1 F.2.1 hd hj (X.2.2.2.2.2.2 _ _ hl) (k p l e s m args below meth c H locs A ls F X)
theorem g_lload {i : Nat} {x : Int64} (hd : decode μ.1 pc = .ok (.lload i, 2)) (hq : pc + 2 = q)  (hl : lv[i]? = some (some (.long x))) (k : G Γ μ R kn Z q lv (.long x :: st) M) : G Γ μ R kn Z pc lv st M := by
  subst hq
  exact fun p l e s m args below meth c H locs A ls F X => lv_lload F.1 F.2.1 hd  (X.2.2.2.2.2.2 _ _ hl) (k p l e s m args below meth c H locs A ls F X)
theorem g_istore_n {j : Fin 4} {i : Nat} {x : Int32} (hd : decode μ.1 pc = .ok (.istore_n j, 1)) (hq : pc + 1 = q) (hj : (j : Nat) = i) (hi : i < lv.length) (hn : g_nl lv i = true) (k : G Γ μ R kn Z q (lv.set i (some (.int x))) st M) : G Γ μ R kn Z pc lv (.int x :: st) M := by
  subst hq
  intro p l e s m args below meth c H locs A ls F X
  obtain ⟨hP, hD, hS, hL⟩ := X
  exact lv_istore_n F.1 F.2.1 hd hj (g_L_has hL) (by rw [← hL.2.2.1]; exact hi) rfl (fun ls' hl => k p l e s m args below meth c H locs A ls' F ⟨hP, hD, hS, g_L_set (x := .int x) hL.2.2.1 hn hl⟩)
theorem g_istore {i : Nat} {x : Int32} (hd : decode μ.1 pc = .ok (.istore i, 2)) (hq : pc + 2 = q)  (hi : i < lv.length) (hn : g_nl lv i = true) (k : G Γ μ R kn Z q (lv.set i (some (.int x))) st M) : G Γ μ R kn Z pc lv (.int x :: st) M := by
  subst hq
  intro p l e s m args below meth c H locs A ls F X
  obtain ⟨hP, hD, hS, hL⟩ := X
  exact lv_istore F.1 F.2.1 hd  (g_L_has hL) (by rw [← hL.2.2.1]; exact hi) rfl (fun ls' hl => k p l e s m args below meth c H locs A ls' F ⟨hP, hD, hS, g_L_set (x := .int x) hL.2.2.1 hn hl⟩)
theorem g_astore_n {j : Fin 4} {i : Nat} {x : Nat} (hd : decode μ.1 pc = .ok (.astore_n j, 1)) (hq : pc + 1 = q) (hj : (j : Nat) = i) (hi : i < lv.length) (hn : g_nl lv i = true) (k : G Γ μ R kn Z q (lv.set i (some (.ref x))) st M) : G Γ μ R kn Z pc lv (.ref x :: st) M := by
  subst hq
  intro p l e s m args below meth c H locs A ls F X
  obtain ⟨hP, hD, hS, hL⟩ := X
  exact lv_astore_n F.1 F.2.1 hd hj (g_L_has hL) (by rw [← hL.2.2.1]; exact hi) rfl (fun ls' hl => k p l e s m args below meth c H locs A ls' F ⟨hP, hD, hS, g_L_set (x := .ref x) hL.2.2.1 hn hl⟩)
theorem g_astore {i : Nat} {x : Nat} (hd : decode μ.1 pc = .ok (.astore i, 2)) (hq : pc + 2 = q)  (hi : i < lv.length) (hn : g_nl lv i = true) (k : G Γ μ R kn Z q (lv.set i (some (.ref x))) st M) : G Γ μ R kn Z pc lv (.ref x :: st) M := by
  subst hq
  intro p l e s m args below meth c H locs A ls F X
  obtain ⟨hP, hD, hS, hL⟩ := X
  exact lv_astore F.1 F.2.1 hd  (g_L_has hL) (by rw [← hL.2.2.1]; exact hi) rfl (fun ls' hl => k p l e s m args below meth c H locs A ls' F ⟨hP, hD, hS, g_L_set (x := .ref x) hL.2.2.1 hn hl⟩)
theorem g_lstore_n {j : Fin 4} {i : Nat} {x : Int64} (hd : decode μ.1 pc = .ok (.lstore_n j, 1)) (hq : pc + 1 = q) (hj : (j : Nat) = i) (hi : i + 1 < lv.length) (hn : g_nl lv i = true) (k : G Γ μ R kn Z q ((lv.set (i + 1) none).set i (some (.long x))) st M) : G Γ μ R kn Z pc lv (.long x :: st) M := by
  subst hq
  intro p l e s m args below meth c H locs A ls F X
  obtain ⟨hP, hD, hS, hL⟩ := X
  exact lv_lstore_n F.1 F.2.1 hd hj (g_L_has hL) (by rw [← hL.2.2.1]; exact hi) rfl (fun ls' hl => k p l e s m args below meth c H locs A ls' F ⟨hP, hD, hS, g_L_set2 (x := .long x) hL.2.2.1 hn hl⟩)
theorem g_lstore {i : Nat} {x : Int64} (hd : decode μ.1 pc = .ok (.lstore i, 2)) (hq : pc + 2 = q)  (hi : i + 1 < lv.length) (hn : g_nl lv i = true) (k : G Γ μ R kn Z q ((lv.set (i + 1) none).set i (some (.long x))) st M) : G Γ μ R kn Z pc lv (.long x :: st) M := by
  subst hq
  intro p l e s m args below meth c H locs A ls F X
  obtain ⟨hP, hD, hS, hL⟩ := X
  exact lv_lstore F.1 F.2.1 hd  (g_L_has hL) (by rw [← hL.2.2.1]; exact hi) rfl (fun ls' hl => k p l e s m args below meth c H locs A ls' F ⟨hP, hD, hS, g_L_set2 (x := .long x) hL.2.2.1 hn hl⟩)
theorem g_iinc {i : Nat} {n : Int} {x w : Int32} (hd : decode μ.1 pc = .ok (.iinc i n, 3)) (hq : pc + 3 = q) (hl : lv[i]? = some (some (.int x))) (hw : Int32.ofInt n = w) (hi : i < lv.length) (hn : g_nl lv i = true) (k : G Γ μ R kn Z q (lv.set i (some (.int (x + w)))) st M) : G Γ μ R kn Z pc lv st M := by
  subst hq; subst hw
  intro p l e s m args below meth c H locs A ls F X
  obtain ⟨hP, hD, hS, hL⟩ := X
  obtain ⟨k0, hk0⟩ := List.getElem?_of_mem (g_mem_pairs.mpr ⟨_, hl, rfl⟩ : (i, g_v Γ.2.2.1 (.int x)) ∈ g_pairs Γ.2.2.1 lv)
  exact lv_iinc F.1 F.2.1 hd (g_L_has hL) hk0 rfl (by rw [← hL.2.2.1]; exact hi) rfl (fun ls' hl => k p l e s m args below meth c H locs A ls' F ⟨hP, hD, hS, g_L_set (x := .int _) hL.2.2.1 hn hl⟩)
theorem g_iload_n0 {x : Int32} (hd : decode μ.1 pc = .ok (.iload_n 0, 1)) (hq : pc + 1 = q) (k : G Γ μ R kn Z q (some (.int x) :: lv) (.int x :: st) M) : G Γ μ R kn Z pc (some (.int x) :: lv) st M := g_iload_n (j := 0) (i := 0) hd hq rfl rfl k
theorem g_iload0 {x : Int32} (hd : decode μ.1 pc = .ok (.iload 0, 2)) (hq : pc + 2 = q) (k : G Γ μ R kn Z q (some (.int x) :: lv) (.int x :: st) M) : G Γ μ R kn Z pc (some (.int x) :: lv) st M := g_iload (i := 0) hd hq rfl k
theorem g_aload_n0 {x : Nat} (hd : decode μ.1 pc = .ok (.aload_n 0, 1)) (hq : pc + 1 = q) (k : G Γ μ R kn Z q (some (.ref x) :: lv) (.ref x :: st) M) : G Γ μ R kn Z pc (some (.ref x) :: lv) st M := g_aload_n (j := 0) (i := 0) hd hq rfl rfl k
theorem g_aload0 {x : Nat} (hd : decode μ.1 pc = .ok (.aload 0, 2)) (hq : pc + 2 = q) (k : G Γ μ R kn Z q (some (.ref x) :: lv) (.ref x :: st) M) : G Γ μ R kn Z pc (some (.ref x) :: lv) st M := g_aload (i := 0) hd hq rfl k
theorem g_lload_n0 {x : Int64} (hd : decode μ.1 pc = .ok (.lload_n 0, 1)) (hq : pc + 1 = q) (k : G Γ μ R kn Z q (some (.long x) :: lv) (.long x :: st) M) : G Γ μ R kn Z pc (some (.long x) :: lv) st M := g_lload_n (j := 0) (i := 0) hd hq rfl rfl k
theorem g_lload0 {x : Int64} (hd : decode μ.1 pc = .ok (.lload 0, 2)) (hq : pc + 2 = q) (k : G Γ μ R kn Z q (some (.long x) :: lv) (.long x :: st) M) : G Γ μ R kn Z pc (some (.long x) :: lv) st M := g_lload (i := 0) hd hq rfl k
theorem g_istore_n0 {z : Option Value} {x : Int32} (hd : decode μ.1 pc = .ok (.istore_n 0, 1)) (hq : pc + 1 = q)  (k : G Γ μ R kn Z q (some (.int x) :: lv) st M) : G Γ μ R kn Z pc (z :: lv) (.int x :: st) M := g_istore_n (j := 0) (i := 0) hd hq rfl (by simp) rfl k
theorem g_istore0 {z : Option Value} {x : Int32} (hd : decode μ.1 pc = .ok (.istore 0, 2)) (hq : pc + 2 = q)  (k : G Γ μ R kn Z q (some (.int x) :: lv) st M) : G Γ μ R kn Z pc (z :: lv) (.int x :: st) M := g_istore (i := 0) hd hq (by simp) rfl k
theorem g_astore_n0 {z : Option Value} {x : Nat} (hd : decode μ.1 pc = .ok (.astore_n 0, 1)) (hq : pc + 1 = q)  (k : G Γ μ R kn Z q (some (.ref x) :: lv) st M) : G Γ μ R kn Z pc (z :: lv) (.ref x :: st) M := g_astore_n (j := 0) (i := 0) hd hq rfl (by simp) rfl k
theorem g_astore0 {z : Option Value} {x : Nat} (hd : decode μ.1 pc = .ok (.astore 0, 2)) (hq : pc + 2 = q)  (k : G Γ μ R kn Z q (some (.ref x) :: lv) st M) : G Γ μ R kn Z pc (z :: lv) (.ref x :: st) M := g_astore (i := 0) hd hq (by simp) rfl k
theorem g_lstore_n0 {z z2 : Option Value} {x : Int64} (hd : decode μ.1 pc = .ok (.lstore_n 0, 1)) (hq : pc + 1 = q)  (k : G Γ μ R kn Z q (some (.long x) :: none :: lv) st M) : G Γ μ R kn Z pc (z :: z2 :: lv) (.long x :: st) M := g_lstore_n (j := 0) (i := 0) hd hq rfl (by simp) rfl k
theorem g_lstore0 {z z2 : Option Value} {x : Int64} (hd : decode μ.1 pc = .ok (.lstore 0, 2)) (hq : pc + 2 = q)  (k : G Γ μ R kn Z q (some (.long x) :: none :: lv) st M) : G Γ μ R kn Z pc (z :: z2 :: lv) (.long x :: st) M := g_lstore (i := 0) hd hq (by simp) rfl k
theorem g_iinc0 {n : Int} {x w : Int32} (hd : decode μ.1 pc = .ok (.iinc 0 n, 3)) (hq : pc + 3 = q)  (hw : Int32.ofInt n = w) (k : G Γ μ R kn Z q (some (.int (x + w)) :: lv) st M) : G Γ μ R kn Z pc (some (.int x) :: lv) st M := g_iinc (i := 0) hd hq rfl hw (by simp) rfl k
theorem g_iload_n1 {a0 : Option Value} {x : Int32} (hd : decode μ.1 pc = .ok (.iload_n 1, 1)) (hq : pc + 1 = q) (k : G Γ μ R kn Z q (a0 :: some (.int x) :: lv) (.int x :: st) M) : G Γ μ R kn Z pc (a0 :: some (.int x) :: lv) st M := g_iload_n (j := 1) (i := 1) hd hq rfl rfl k
theorem g_iload1 {a0 : Option Value} {x : Int32} (hd : decode μ.1 pc = .ok (.iload 1, 2)) (hq : pc + 2 = q) (k : G Γ μ R kn Z q (a0 :: some (.int x) :: lv) (.int x :: st) M) : G Γ μ R kn Z pc (a0 :: some (.int x) :: lv) st M := g_iload (i := 1) hd hq rfl k
theorem g_aload_n1 {a0 : Option Value} {x : Nat} (hd : decode μ.1 pc = .ok (.aload_n 1, 1)) (hq : pc + 1 = q) (k : G Γ μ R kn Z q (a0 :: some (.ref x) :: lv) (.ref x :: st) M) : G Γ μ R kn Z pc (a0 :: some (.ref x) :: lv) st M := g_aload_n (j := 1) (i := 1) hd hq rfl rfl k
theorem g_aload1 {a0 : Option Value} {x : Nat} (hd : decode μ.1 pc = .ok (.aload 1, 2)) (hq : pc + 2 = q) (k : G Γ μ R kn Z q (a0 :: some (.ref x) :: lv) (.ref x :: st) M) : G Γ μ R kn Z pc (a0 :: some (.ref x) :: lv) st M := g_aload (i := 1) hd hq rfl k
theorem g_lload_n1 {a0 : Option Value} {x : Int64} (hd : decode μ.1 pc = .ok (.lload_n 1, 1)) (hq : pc + 1 = q) (k : G Γ μ R kn Z q (a0 :: some (.long x) :: lv) (.long x :: st) M) : G Γ μ R kn Z pc (a0 :: some (.long x) :: lv) st M := g_lload_n (j := 1) (i := 1) hd hq rfl rfl k
theorem g_lload1 {a0 : Option Value} {x : Int64} (hd : decode μ.1 pc = .ok (.lload 1, 2)) (hq : pc + 2 = q) (k : G Γ μ R kn Z q (a0 :: some (.long x) :: lv) (.long x :: st) M) : G Γ μ R kn Z pc (a0 :: some (.long x) :: lv) st M := g_lload (i := 1) hd hq rfl k
theorem g_istore_n1 {a0 : Option Value} {z : Option Value} {x : Int32} (hd : decode μ.1 pc = .ok (.istore_n 1, 1)) (hq : pc + 1 = q) (hn : g_c1 a0 = true) (k : G Γ μ R kn Z q (a0 :: some (.int x) :: lv) st M) : G Γ μ R kn Z pc (a0 :: z :: lv) (.int x :: st) M := g_istore_n (j := 1) (i := 1) hd hq rfl (by simp) hn k
theorem g_istore1 {a0 : Option Value} {z : Option Value} {x : Int32} (hd : decode μ.1 pc = .ok (.istore 1, 2)) (hq : pc + 2 = q) (hn : g_c1 a0 = true) (k : G Γ μ R kn Z q (a0 :: some (.int x) :: lv) st M) : G Γ μ R kn Z pc (a0 :: z :: lv) (.int x :: st) M := g_istore (i := 1) hd hq (by simp) hn k
theorem g_astore_n1 {a0 : Option Value} {z : Option Value} {x : Nat} (hd : decode μ.1 pc = .ok (.astore_n 1, 1)) (hq : pc + 1 = q) (hn : g_c1 a0 = true) (k : G Γ μ R kn Z q (a0 :: some (.ref x) :: lv) st M) : G Γ μ R kn Z pc (a0 :: z :: lv) (.ref x :: st) M := g_astore_n (j := 1) (i := 1) hd hq rfl (by simp) hn k
theorem g_astore1 {a0 : Option Value} {z : Option Value} {x : Nat} (hd : decode μ.1 pc = .ok (.astore 1, 2)) (hq : pc + 2 = q) (hn : g_c1 a0 = true) (k : G Γ μ R kn Z q (a0 :: some (.ref x) :: lv) st M) : G Γ μ R kn Z pc (a0 :: z :: lv) (.ref x :: st) M := g_astore (i := 1) hd hq (by simp) hn k
theorem g_lstore_n1 {a0 : Option Value} {z z2 : Option Value} {x : Int64} (hd : decode μ.1 pc = .ok (.lstore_n 1, 1)) (hq : pc + 1 = q) (hn : g_c1 a0 = true) (k : G Γ μ R kn Z q (a0 :: some (.long x) :: none :: lv) st M) : G Γ μ R kn Z pc (a0 :: z :: z2 :: lv) (.long x :: st) M := g_lstore_n (j := 1) (i := 1) hd hq rfl (by simp) hn k
theorem g_lstore1 {a0 : Option Value} {z z2 : Option Value} {x : Int64} (hd : decode μ.1 pc = .ok (.lstore 1, 2)) (hq : pc + 2 = q) (hn : g_c1 a0 = true) (k : G Γ μ R kn Z q (a0 :: some (.long x) :: none :: lv) st M) : G Γ μ R kn Z pc (a0 :: z :: z2 :: lv) (.long x :: st) M := g_lstore (i := 1) hd hq (by simp) hn k
theorem g_iinc1 {a0 : Option Value} {n : Int} {x w : Int32} (hd : decode μ.1 pc = .ok (.iinc 1 n, 3)) (hq : pc + 3 = q) (hn : g_c1 a0 = true) (hw : Int32.ofInt n = w) (k : G Γ μ R kn Z q (a0 :: some (.int (x + w)) :: lv) st M) : G Γ μ R kn Z pc (a0 :: some (.int x) :: lv) st M := g_iinc (i := 1) hd hq rfl hw (by simp) hn k
theorem g_iload_n2 {a0 a1 : Option Value} {x : Int32} (hd : decode μ.1 pc = .ok (.iload_n 2, 1)) (hq : pc + 1 = q) (k : G Γ μ R kn Z q (a0 :: a1 :: some (.int x) :: lv) (.int x :: st) M) : G Γ μ R kn Z pc (a0 :: a1 :: some (.int x) :: lv) st M := g_iload_n (j := 2) (i := 2) hd hq rfl rfl k
theorem g_iload2 {a0 a1 : Option Value} {x : Int32} (hd : decode μ.1 pc = .ok (.iload 2, 2)) (hq : pc + 2 = q) (k : G Γ μ R kn Z q (a0 :: a1 :: some (.int x) :: lv) (.int x :: st) M) : G Γ μ R kn Z pc (a0 :: a1 :: some (.int x) :: lv) st M := g_iload (i := 2) hd hq rfl k
theorem g_aload_n2 {a0 a1 : Option Value} {x : Nat} (hd : decode μ.1 pc = .ok (.aload_n 2, 1)) (hq : pc + 1 = q) (k : G Γ μ R kn Z q (a0 :: a1 :: some (.ref x) :: lv) (.ref x :: st) M) : G Γ μ R kn Z pc (a0 :: a1 :: some (.ref x) :: lv) st M := g_aload_n (j := 2) (i := 2) hd hq rfl rfl k
theorem g_aload2 {a0 a1 : Option Value} {x : Nat} (hd : decode μ.1 pc = .ok (.aload 2, 2)) (hq : pc + 2 = q) (k : G Γ μ R kn Z q (a0 :: a1 :: some (.ref x) :: lv) (.ref x :: st) M) : G Γ μ R kn Z pc (a0 :: a1 :: some (.ref x) :: lv) st M := g_aload (i := 2) hd hq rfl k
theorem g_lload_n2 {a0 a1 : Option Value} {x : Int64} (hd : decode μ.1 pc = .ok (.lload_n 2, 1)) (hq : pc + 1 = q) (k : G Γ μ R kn Z q (a0 :: a1 :: some (.long x) :: lv) (.long x :: st) M) : G Γ μ R kn Z pc (a0 :: a1 :: some (.long x) :: lv) st M := g_lload_n (j := 2) (i := 2) hd hq rfl rfl k
theorem g_lload2 {a0 a1 : Option Value} {x : Int64} (hd : decode μ.1 pc = .ok (.lload 2, 2)) (hq : pc + 2 = q) (k : G Γ μ R kn Z q (a0 :: a1 :: some (.long x) :: lv) (.long x :: st) M) : G Γ μ R kn Z pc (a0 :: a1 :: some (.long x) :: lv) st M := g_lload (i := 2) hd hq rfl k
theorem g_istore_n2 {a0 a1 : Option Value} {z : Option Value} {x : Int32} (hd : decode μ.1 pc = .ok (.istore_n 2, 1)) (hq : pc + 1 = q) (hn : g_c1 a1 = true) (k : G Γ μ R kn Z q (a0 :: a1 :: some (.int x) :: lv) st M) : G Γ μ R kn Z pc (a0 :: a1 :: z :: lv) (.int x :: st) M := g_istore_n (j := 2) (i := 2) hd hq rfl (by simp) hn k
theorem g_istore2 {a0 a1 : Option Value} {z : Option Value} {x : Int32} (hd : decode μ.1 pc = .ok (.istore 2, 2)) (hq : pc + 2 = q) (hn : g_c1 a1 = true) (k : G Γ μ R kn Z q (a0 :: a1 :: some (.int x) :: lv) st M) : G Γ μ R kn Z pc (a0 :: a1 :: z :: lv) (.int x :: st) M := g_istore (i := 2) hd hq (by simp) hn k
theorem g_astore_n2 {a0 a1 : Option Value} {z : Option Value} {x : Nat} (hd : decode μ.1 pc = .ok (.astore_n 2, 1)) (hq : pc + 1 = q) (hn : g_c1 a1 = true) (k : G Γ μ R kn Z q (a0 :: a1 :: some (.ref x) :: lv) st M) : G Γ μ R kn Z pc (a0 :: a1 :: z :: lv) (.ref x :: st) M := g_astore_n (j := 2) (i := 2) hd hq rfl (by simp) hn k
theorem g_astore2 {a0 a1 : Option Value} {z : Option Value} {x : Nat} (hd : decode μ.1 pc = .ok (.astore 2, 2)) (hq : pc + 2 = q) (hn : g_c1 a1 = true) (k : G Γ μ R kn Z q (a0 :: a1 :: some (.ref x) :: lv) st M) : G Γ μ R kn Z pc (a0 :: a1 :: z :: lv) (.ref x :: st) M := g_astore (i := 2) hd hq (by simp) hn k
theorem g_lstore_n2 {a0 a1 : Option Value} {z z2 : Option Value} {x : Int64} (hd : decode μ.1 pc = .ok (.lstore_n 2, 1)) (hq : pc + 1 = q) (hn : g_c1 a1 = true) (k : G Γ μ R kn Z q (a0 :: a1 :: some (.long x) :: none :: lv) st M) : G Γ μ R kn Z pc (a0 :: a1 :: z :: z2 :: lv) (.long x :: st) M := g_lstore_n (j := 2) (i := 2) hd hq rfl (by simp) hn k
theorem g_lstore2 {a0 a1 : Option Value} {z z2 : Option Value} {x : Int64} (hd : decode μ.1 pc = .ok (.lstore 2, 2)) (hq : pc + 2 = q) (hn : g_c1 a1 = true) (k : G Γ μ R kn Z q (a0 :: a1 :: some (.long x) :: none :: lv) st M) : G Γ μ R kn Z pc (a0 :: a1 :: z :: z2 :: lv) (.long x :: st) M := g_lstore (i := 2) hd hq (by simp) hn k
theorem g_iinc2 {a0 a1 : Option Value} {n : Int} {x w : Int32} (hd : decode μ.1 pc = .ok (.iinc 2 n, 3)) (hq : pc + 3 = q) (hn : g_c1 a1 = true) (hw : Int32.ofInt n = w) (k : G Γ μ R kn Z q (a0 :: a1 :: some (.int (x + w)) :: lv) st M) : G Γ μ R kn Z pc (a0 :: a1 :: some (.int x) :: lv) st M := g_iinc (i := 2) hd hq rfl hw (by simp) hn k
theorem g_iload_n3 {a0 a1 a2 : Option Value} {x : Int32} (hd : decode μ.1 pc = .ok (.iload_n 3, 1)) (hq : pc + 1 = q) (k : G Γ μ R kn Z q (a0 :: a1 :: a2 :: some (.int x) :: lv) (.int x :: st) M) : G Γ μ R kn Z pc (a0 :: a1 :: a2 :: some (.int x) :: lv) st M := g_iload_n (j := 3) (i := 3) hd hq rfl rfl k
theorem g_iload3 {a0 a1 a2 : Option Value} {x : Int32} (hd : decode μ.1 pc = .ok (.iload 3, 2)) (hq : pc + 2 = q) (k : G Γ μ R kn Z q (a0 :: a1 :: a2 :: some (.int x) :: lv) (.int x :: st) M) : G Γ μ R kn Z pc (a0 :: a1 :: a2 :: some (.int x) :: lv) st M := g_iload (i := 3) hd hq rfl k
theorem g_aload_n3 {a0 a1 a2 : Option Value} {x : Nat} (hd : decode μ.1 pc = .ok (.aload_n 3, 1)) (hq : pc + 1 = q) (k : G Γ μ R kn Z q (a0 :: a1 :: a2 :: some (.ref x) :: lv) (.ref x :: st) M) : G Γ μ R kn Z pc (a0 :: a1 :: a2 :: some (.ref x) :: lv) st M := g_aload_n (j := 3) (i := 3) hd hq rfl rfl k
theorem g_aload3 {a0 a1 a2 : Option Value} {x : Nat} (hd : decode μ.1 pc = .ok (.aload 3, 2)) (hq : pc + 2 = q) (k : G Γ μ R kn Z q (a0 :: a1 :: a2 :: some (.ref x) :: lv) (.ref x :: st) M) : G Γ μ R kn Z pc (a0 :: a1 :: a2 :: some (.ref x) :: lv) st M := g_aload (i := 3) hd hq rfl k
theorem g_lload_n3 {a0 a1 a2 : Option Value} {x : Int64} (hd : decode μ.1 pc = .ok (.lload_n 3, 1)) (hq : pc + 1 = q) (k : G Γ μ R kn Z q (a0 :: a1 :: a2 :: some (.long x) :: lv) (.long x :: st) M) : G Γ μ R kn Z pc (a0 :: a1 :: a2 :: some (.long x) :: lv) st M := g_lload_n (j := 3) (i := 3) hd hq rfl rfl k
theorem g_lload3 {a0 a1 a2 : Option Value} {x : Int64} (hd : decode μ.1 pc = .ok (.lload 3, 2)) (hq : pc + 2 = q) (k : G Γ μ R kn Z q (a0 :: a1 :: a2 :: some (.long x) :: lv) (.long x :: st) M) : G Γ μ R kn Z pc (a0 :: a1 :: a2 :: some (.long x) :: lv) st M := g_lload (i := 3) hd hq rfl k
theorem g_istore_n3 {a0 a1 a2 : Option Value} {z : Option Value} {x : Int32} (hd : decode μ.1 pc = .ok (.istore_n 3, 1)) (hq : pc + 1 = q) (hn : g_c1 a2 = true) (k : G Γ μ R kn Z q (a0 :: a1 :: a2 :: some (.int x) :: lv) st M) : G Γ μ R kn Z pc (a0 :: a1 :: a2 :: z :: lv) (.int x :: st) M := g_istore_n (j := 3) (i := 3) hd hq rfl (by simp) hn k
theorem g_istore3 {a0 a1 a2 : Option Value} {z : Option Value} {x : Int32} (hd : decode μ.1 pc = .ok (.istore 3, 2)) (hq : pc + 2 = q) (hn : g_c1 a2 = true) (k : G Γ μ R kn Z q (a0 :: a1 :: a2 :: some (.int x) :: lv) st M) : G Γ μ R kn Z pc (a0 :: a1 :: a2 :: z :: lv) (.int x :: st) M := g_istore (i := 3) hd hq (by simp) hn k
theorem g_astore_n3 {a0 a1 a2 : Option Value} {z : Option Value} {x : Nat} (hd : decode μ.1 pc = .ok (.astore_n 3, 1)) (hq : pc + 1 = q) (hn : g_c1 a2 = true) (k : G Γ μ R kn Z q (a0 :: a1 :: a2 :: some (.ref x) :: lv) st M) : G Γ μ R kn Z pc (a0 :: a1 :: a2 :: z :: lv) (.ref x :: st) M := g_astore_n (j := 3) (i := 3) hd hq rfl (by simp) hn k
theorem g_astore3 {a0 a1 a2 : Option Value} {z : Option Value} {x : Nat} (hd : decode μ.1 pc = .ok (.astore 3, 2)) (hq : pc + 2 = q) (hn : g_c1 a2 = true) (k : G Γ μ R kn Z q (a0 :: a1 :: a2 :: some (.ref x) :: lv) st M) : G Γ μ R kn Z pc (a0 :: a1 :: a2 :: z :: lv) (.ref x :: st) M := g_astore (i := 3) hd hq (by simp) hn k
theorem g_lstore_n3 {a0 a1 a2 : Option Value} {z z2 : Option Value} {x : Int64} (hd : decode μ.1 pc = .ok (.lstore_n 3, 1)) (hq : pc + 1 = q) (hn : g_c1 a2 = true) (k : G Γ μ R kn Z q (a0 :: a1 :: a2 :: some (.long x) :: none :: lv) st M) : G Γ μ R kn Z pc (a0 :: a1 :: a2 :: z :: z2 :: lv) (.long x :: st) M := g_lstore_n (j := 3) (i := 3) hd hq rfl (by simp) hn k
theorem g_lstore3 {a0 a1 a2 : Option Value} {z z2 : Option Value} {x : Int64} (hd : decode μ.1 pc = .ok (.lstore 3, 2)) (hq : pc + 2 = q) (hn : g_c1 a2 = true) (k : G Γ μ R kn Z q (a0 :: a1 :: a2 :: some (.long x) :: none :: lv) st M) : G Γ μ R kn Z pc (a0 :: a1 :: a2 :: z :: z2 :: lv) (.long x :: st) M := g_lstore (i := 3) hd hq (by simp) hn k
theorem g_iinc3 {a0 a1 a2 : Option Value} {n : Int} {x w : Int32} (hd : decode μ.1 pc = .ok (.iinc 3 n, 3)) (hq : pc + 3 = q) (hn : g_c1 a2 = true) (hw : Int32.ofInt n = w) (k : G Γ μ R kn Z q (a0 :: a1 :: a2 :: some (.int (x + w)) :: lv) st M) : G Γ μ R kn Z pc (a0 :: a1 :: a2 :: some (.int x) :: lv) st M := g_iinc (i := 3) hd hq rfl hw (by simp) hn k
theorem g_iload4 {a0 a1 a2 a3 : Option Value} {x : Int32} (hd : decode μ.1 pc = .ok (.iload 4, 2)) (hq : pc + 2 = q) (k : G Γ μ R kn Z q (a0 :: a1 :: a2 :: a3 :: some (.int x) :: lv) (.int x :: st) M) : G Γ μ R kn Z pc (a0 :: a1 :: a2 :: a3 :: some (.int x) :: lv) st M := g_iload (i := 4) hd hq rfl k
theorem g_aload4 {a0 a1 a2 a3 : Option Value} {x : Nat} (hd : decode μ.1 pc = .ok (.aload 4, 2)) (hq : pc + 2 = q) (k : G Γ μ R kn Z q (a0 :: a1 :: a2 :: a3 :: some (.ref x) :: lv) (.ref x :: st) M) : G Γ μ R kn Z pc (a0 :: a1 :: a2 :: a3 :: some (.ref x) :: lv) st M := g_aload (i := 4) hd hq rfl k
theorem g_lload4 {a0 a1 a2 a3 : Option Value} {x : Int64} (hd : decode μ.1 pc = .ok (.lload 4, 2)) (hq : pc + 2 = q) (k : G Γ μ R kn Z q (a0 :: a1 :: a2 :: a3 :: some (.long x) :: lv) (.long x :: st) M) : G Γ μ R kn Z pc (a0 :: a1 :: a2 :: a3 :: some (.long x) :: lv) st M := g_lload (i := 4) hd hq rfl k
theorem g_istore4 {a0 a1 a2 a3 : Option Value} {z : Option Value} {x : Int32} (hd : decode μ.1 pc = .ok (.istore 4, 2)) (hq : pc + 2 = q) (hn : g_c1 a3 = true) (k : G Γ μ R kn Z q (a0 :: a1 :: a2 :: a3 :: some (.int x) :: lv) st M) : G Γ μ R kn Z pc (a0 :: a1 :: a2 :: a3 :: z :: lv) (.int x :: st) M := g_istore (i := 4) hd hq (by simp) hn k
theorem g_astore4 {a0 a1 a2 a3 : Option Value} {z : Option Value} {x : Nat} (hd : decode μ.1 pc = .ok (.astore 4, 2)) (hq : pc + 2 = q) (hn : g_c1 a3 = true) (k : G Γ μ R kn Z q (a0 :: a1 :: a2 :: a3 :: some (.ref x) :: lv) st M) : G Γ μ R kn Z pc (a0 :: a1 :: a2 :: a3 :: z :: lv) (.ref x :: st) M := g_astore (i := 4) hd hq (by simp) hn k
theorem g_lstore4 {a0 a1 a2 a3 : Option Value} {z z2 : Option Value} {x : Int64} (hd : decode μ.1 pc = .ok (.lstore 4, 2)) (hq : pc + 2 = q) (hn : g_c1 a3 = true) (k : G Γ μ R kn Z q (a0 :: a1 :: a2 :: a3 :: some (.long x) :: none :: lv) st M) : G Γ μ R kn Z pc (a0 :: a1 :: a2 :: a3 :: z :: z2 :: lv) (.long x :: st) M := g_lstore (i := 4) hd hq (by simp) hn k
theorem g_iinc4 {a0 a1 a2 a3 : Option Value} {n : Int} {x w : Int32} (hd : decode μ.1 pc = .ok (.iinc 4 n, 3)) (hq : pc + 3 = q) (hn : g_c1 a3 = true) (hw : Int32.ofInt n = w) (k : G Γ μ R kn Z q (a0 :: a1 :: a2 :: a3 :: some (.int (x + w)) :: lv) st M) : G Γ μ R kn Z pc (a0 :: a1 :: a2 :: a3 :: some (.int x) :: lv) st M := g_iinc (i := 4) hd hq rfl hw (by simp) hn k
theorem g_iload5 {a0 a1 a2 a3 a4 : Option Value} {x : Int32} (hd : decode μ.1 pc = .ok (.iload 5, 2)) (hq : pc + 2 = q) (k : G Γ μ R kn Z q (a0 :: a1 :: a2 :: a3 :: a4 :: some (.int x) :: lv) (.int x :: st) M) : G Γ μ R kn Z pc (a0 :: a1 :: a2 :: a3 :: a4 :: some (.int x) :: lv) st M := g_iload (i := 5) hd hq rfl k
theorem g_aload5 {a0 a1 a2 a3 a4 : Option Value} {x : Nat} (hd : decode μ.1 pc = .ok (.aload 5, 2)) (hq : pc + 2 = q) (k : G Γ μ R kn Z q (a0 :: a1 :: a2 :: a3 :: a4 :: some (.ref x) :: lv) (.ref x :: st) M) : G Γ μ R kn Z pc (a0 :: a1 :: a2 :: a3 :: a4 :: some (.ref x) :: lv) st M := g_aload (i := 5) hd hq rfl k
theorem g_lload5 {a0 a1 a2 a3 a4 : Option Value} {x : Int64} (hd : decode μ.1 pc = .ok (.lload 5, 2)) (hq : pc + 2 = q) (k : G Γ μ R kn Z q (a0 :: a1 :: a2 :: a3 :: a4 :: some (.long x) :: lv) (.long x :: st) M) : G Γ μ R kn Z pc (a0 :: a1 :: a2 :: a3 :: a4 :: some (.long x) :: lv) st M := g_lload (i := 5) hd hq rfl k
theorem g_istore5 {a0 a1 a2 a3 a4 : Option Value} {z : Option Value} {x : Int32} (hd : decode μ.1 pc = .ok (.istore 5, 2)) (hq : pc + 2 = q) (hn : g_c1 a4 = true) (k : G Γ μ R kn Z q (a0 :: a1 :: a2 :: a3 :: a4 :: some (.int x) :: lv) st M) : G Γ μ R kn Z pc (a0 :: a1 :: a2 :: a3 :: a4 :: z :: lv) (.int x :: st) M := g_istore (i := 5) hd hq (by simp) hn k
theorem g_astore5 {a0 a1 a2 a3 a4 : Option Value} {z : Option Value} {x : Nat} (hd : decode μ.1 pc = .ok (.astore 5, 2)) (hq : pc + 2 = q) (hn : g_c1 a4 = true) (k : G Γ μ R kn Z q (a0 :: a1 :: a2 :: a3 :: a4 :: some (.ref x) :: lv) st M) : G Γ μ R kn Z pc (a0 :: a1 :: a2 :: a3 :: a4 :: z :: lv) (.ref x :: st) M := g_astore (i := 5) hd hq (by simp) hn k
theorem g_lstore5 {a0 a1 a2 a3 a4 : Option Value} {z z2 : Option Value} {x : Int64} (hd : decode μ.1 pc = .ok (.lstore 5, 2)) (hq : pc + 2 = q) (hn : g_c1 a4 = true) (k : G Γ μ R kn Z q (a0 :: a1 :: a2 :: a3 :: a4 :: some (.long x) :: none :: lv) st M) : G Γ μ R kn Z pc (a0 :: a1 :: a2 :: a3 :: a4 :: z :: z2 :: lv) (.long x :: st) M := g_lstore (i := 5) hd hq (by simp) hn k
theorem g_iinc5 {a0 a1 a2 a3 a4 : Option Value} {n : Int} {x w : Int32} (hd : decode μ.1 pc = .ok (.iinc 5 n, 3)) (hq : pc + 3 = q) (hn : g_c1 a4 = true) (hw : Int32.ofInt n = w) (k : G Γ μ R kn Z q (a0 :: a1 :: a2 :: a3 :: a4 :: some (.int (x + w)) :: lv) st M) : G Γ μ R kn Z pc (a0 :: a1 :: a2 :: a3 :: a4 :: some (.int x) :: lv) st M := g_iinc (i := 5) hd hq rfl hw (by simp) hn k
theorem g_iload6 {a0 a1 a2 a3 a4 a5 : Option Value} {x : Int32} (hd : decode μ.1 pc = .ok (.iload 6, 2)) (hq : pc + 2 = q) (k : G Γ μ R kn Z q (a0 :: a1 :: a2 :: a3 :: a4 :: a5 :: some (.int x) :: lv) (.int x :: st) M) : G Γ μ R kn Z pc (a0 :: a1 :: a2 :: a3 :: a4 :: a5 :: some (.int x) :: lv) st M := g_iload (i := 6) hd hq rfl k
theorem g_aload6 {a0 a1 a2 a3 a4 a5 : Option Value} {x : Nat} (hd : decode μ.1 pc = .ok (.aload 6, 2)) (hq : pc + 2 = q) (k : G Γ μ R kn Z q (a0 :: a1 :: a2 :: a3 :: a4 :: a5 :: some (.ref x) :: lv) (.ref x :: st) M) : G Γ μ R kn Z pc (a0 :: a1 :: a2 :: a3 :: a4 :: a5 :: some (.ref x) :: lv) st M := g_aload (i := 6) hd hq rfl k
theorem g_lload6 {a0 a1 a2 a3 a4 a5 : Option Value} {x : Int64} (hd : decode μ.1 pc = .ok (.lload 6, 2)) (hq : pc + 2 = q) (k : G Γ μ R kn Z q (a0 :: a1 :: a2 :: a3 :: a4 :: a5 :: some (.long x) :: lv) (.long x :: st) M) : G Γ μ R kn Z pc (a0 :: a1 :: a2 :: a3 :: a4 :: a5 :: some (.long x) :: lv) st M := g_lload (i := 6) hd hq rfl k
theorem g_istore6 {a0 a1 a2 a3 a4 a5 : Option Value} {z : Option Value} {x : Int32} (hd : decode μ.1 pc = .ok (.istore 6, 2)) (hq : pc + 2 = q) (hn : g_c1 a5 = true) (k : G Γ μ R kn Z q (a0 :: a1 :: a2 :: a3 :: a4 :: a5 :: some (.int x) :: lv) st M) : G Γ μ R kn Z pc (a0 :: a1 :: a2 :: a3 :: a4 :: a5 :: z :: lv) (.int x :: st) M := g_istore (i := 6) hd hq (by simp) hn k
theorem g_astore6 {a0 a1 a2 a3 a4 a5 : Option Value} {z : Option Value} {x : Nat} (hd : decode μ.1 pc = .ok (.astore 6, 2)) (hq : pc + 2 = q) (hn : g_c1 a5 = true) (k : G Γ μ R kn Z q (a0 :: a1 :: a2 :: a3 :: a4 :: a5 :: some (.ref x) :: lv) st M) : G Γ μ R kn Z pc (a0 :: a1 :: a2 :: a3 :: a4 :: a5 :: z :: lv) (.ref x :: st) M := g_astore (i := 6) hd hq (by simp) hn k
theorem g_lstore6 {a0 a1 a2 a3 a4 a5 : Option Value} {z z2 : Option Value} {x : Int64} (hd : decode μ.1 pc = .ok (.lstore 6, 2)) (hq : pc + 2 = q) (hn : g_c1 a5 = true) (k : G Γ μ R kn Z q (a0 :: a1 :: a2 :: a3 :: a4 :: a5 :: some (.long x) :: none :: lv) st M) : G Γ μ R kn Z pc (a0 :: a1 :: a2 :: a3 :: a4 :: a5 :: z :: z2 :: lv) (.long x :: st) M := g_lstore (i := 6) hd hq (by simp) hn k
theorem g_iinc6 {a0 a1 a2 a3 a4 a5 : Option Value} {n : Int} {x w : Int32} (hd : decode μ.1 pc = .ok (.iinc 6 n, 3)) (hq : pc + 3 = q) (hn : g_c1 a5 = true) (hw : Int32.ofInt n = w) (k : G Γ μ R kn Z q (a0 :: a1 :: a2 :: a3 :: a4 :: a5 :: some (.int (x + w)) :: lv) st M) : G Γ μ R kn Z pc (a0 :: a1 :: a2 :: a3 :: a4 :: a5 :: some (.int x) :: lv) st M := g_iinc (i := 6) hd hq rfl hw (by simp) hn k
theorem g_iload7 {a0 a1 a2 a3 a4 a5 a6 : Option Value} {x : Int32} (hd : decode μ.1 pc = .ok (.iload 7, 2)) (hq : pc + 2 = q) (k : G Γ μ R kn Z q (a0 :: a1 :: a2 :: a3 :: a4 :: a5 :: a6 :: some (.int x) :: lv) (.int x :: st) M) : G Γ μ R kn Z pc (a0 :: a1 :: a2 :: a3 :: a4 :: a5 :: a6 :: some (.int x) :: lv) st M := g_iload (i := 7) hd hq rfl k
theorem g_aload7 {a0 a1 a2 a3 a4 a5 a6 : Option Value} {x : Nat} (hd : decode μ.1 pc = .ok (.aload 7, 2)) (hq : pc + 2 = q) (k : G Γ μ R kn Z q (a0 :: a1 :: a2 :: a3 :: a4 :: a5 :: a6 :: some (.ref x) :: lv) (.ref x :: st) M) : G Γ μ R kn Z pc (a0 :: a1 :: a2 :: a3 :: a4 :: a5 :: a6 :: some (.ref x) :: lv) st M := g_aload (i := 7) hd hq rfl k
theorem g_lload7 {a0 a1 a2 a3 a4 a5 a6 : Option Value} {x : Int64} (hd : decode μ.1 pc = .ok (.lload 7, 2)) (hq : pc + 2 = q) (k : G Γ μ R kn Z q (a0 :: a1 :: a2 :: a3 :: a4 :: a5 :: a6 :: some (.long x) :: lv) (.long x :: st) M) : G Γ μ R kn Z pc (a0 :: a1 :: a2 :: a3 :: a4 :: a5 :: a6 :: some (.long x) :: lv) st M := g_lload (i := 7) hd hq rfl k
theorem g_istore7 {a0 a1 a2 a3 a4 a5 a6 : Option Value} {z : Option Value} {x : Int32} (hd : decode μ.1 pc = .ok (.istore 7, 2)) (hq : pc + 2 = q) (hn : g_c1 a6 = true) (k : G Γ μ R kn Z q (a0 :: a1 :: a2 :: a3 :: a4 :: a5 :: a6 :: some (.int x) :: lv) st M) : G Γ μ R kn Z pc (a0 :: a1 :: a2 :: a3 :: a4 :: a5 :: a6 :: z :: lv) (.int x :: st) M := g_istore (i := 7) hd hq (by simp) hn k
theorem g_astore7 {a0 a1 a2 a3 a4 a5 a6 : Option Value} {z : Option Value} {x : Nat} (hd : decode μ.1 pc = .ok (.astore 7, 2)) (hq : pc + 2 = q) (hn : g_c1 a6 = true) (k : G Γ μ R kn Z q (a0 :: a1 :: a2 :: a3 :: a4 :: a5 :: a6 :: some (.ref x) :: lv) st M) : G Γ μ R kn Z pc (a0 :: a1 :: a2 :: a3 :: a4 :: a5 :: a6 :: z :: lv) (.ref x :: st) M := g_astore (i := 7) hd hq (by simp) hn k
theorem g_lstore7 {a0 a1 a2 a3 a4 a5 a6 : Option Value} {z z2 : Option Value} {x : Int64} (hd : decode μ.1 pc = .ok (.lstore 7, 2)) (hq : pc + 2 = q) (hn : g_c1 a6 = true) (k : G Γ μ R kn Z q (a0 :: a1 :: a2 :: a3 :: a4 :: a5 :: a6 :: some (.long x) :: none :: lv) st M) : G Γ μ R kn Z pc (a0 :: a1 :: a2 :: a3 :: a4 :: a5 :: a6 :: z :: z2 :: lv) (.long x :: st) M := g_lstore (i := 7) hd hq (by simp) hn k
theorem g_iinc7 {a0 a1 a2 a3 a4 a5 a6 : Option Value} {n : Int} {x w : Int32} (hd : decode μ.1 pc = .ok (.iinc 7 n, 3)) (hq : pc + 3 = q) (hn : g_c1 a6 = true) (hw : Int32.ofInt n = w) (k : G Γ μ R kn Z q (a0 :: a1 :: a2 :: a3 :: a4 :: a5 :: a6 :: some (.int (x + w)) :: lv) st M) : G Γ μ R kn Z pc (a0 :: a1 :: a2 :: a3 :: a4 :: a5 :: a6 :: some (.int x) :: lv) st M := g_iinc (i := 7) hd hq rfl hw (by simp) hn k
theorem g_iload8 {a0 a1 a2 a3 a4 a5 a6 a7 : Option Value} {x : Int32} (hd : decode μ.1 pc = .ok (.iload 8, 2)) (hq : pc + 2 = q) (k : G Γ μ R kn Z q (a0 :: a1 :: a2 :: a3 :: a4 :: a5 :: a6 :: a7 :: some (.int x) :: lv) (.int x :: st) M) : G Γ μ R kn Z pc (a0 :: a1 :: a2 :: a3 :: a4 :: a5 :: a6 :: a7 :: some (.int x) :: lv) st M := g_iload (i := 8) hd hq rfl k
theorem g_aload8 {a0 a1 a2 a3 a4 a5 a6 a7 : Option Value} {x : Nat} (hd : decode μ.1 pc = .ok (.aload 8, 2)) (hq : pc + 2 = q) (k : G Γ μ R kn Z q (a0 :: a1 :: a2 :: a3 :: a4 :: a5 :: a6 :: a7 :: some (.ref x) :: lv) (.ref x :: st) M) : G Γ μ R kn Z pc (a0 :: a1 :: a2 :: a3 :: a4 :: a5 :: a6 :: a7 :: some (.ref x) :: lv) st M := g_aload (i := 8) hd hq rfl k
theorem g_lload8 {a0 a1 a2 a3 a4 a5 a6 a7 : Option Value} {x : Int64} (hd : decode μ.1 pc = .ok (.lload 8, 2)) (hq : pc + 2 = q) (k : G Γ μ R kn Z q (a0 :: a1 :: a2 :: a3 :: a4 :: a5 :: a6 :: a7 :: some (.long x) :: lv) (.long x :: st) M) : G Γ μ R kn Z pc (a0 :: a1 :: a2 :: a3 :: a4 :: a5 :: a6 :: a7 :: some (.long x) :: lv) st M := g_lload (i := 8) hd hq rfl k
theorem g_istore8 {a0 a1 a2 a3 a4 a5 a6 a7 : Option Value} {z : Option Value} {x : Int32} (hd : decode μ.1 pc = .ok (.istore 8, 2)) (hq : pc + 2 = q) (hn : g_c1 a7 = true) (k : G Γ μ R kn Z q (a0 :: a1 :: a2 :: a3 :: a4 :: a5 :: a6 :: a7 :: some (.int x) :: lv) st M) : G Γ μ R kn Z pc (a0 :: a1 :: a2 :: a3 :: a4 :: a5 :: a6 :: a7 :: z :: lv) (.int x :: st) M := g_istore (i := 8) hd hq (by simp) hn k
theorem g_astore8 {a0 a1 a2 a3 a4 a5 a6 a7 : Option Value} {z : Option Value} {x : Nat} (hd : decode μ.1 pc = .ok (.astore 8, 2)) (hq : pc + 2 = q) (hn : g_c1 a7 = true) (k : G Γ μ R kn Z q (a0 :: a1 :: a2 :: a3 :: a4 :: a5 :: a6 :: a7 :: some (.ref x) :: lv) st M) : G Γ μ R kn Z pc (a0 :: a1 :: a2 :: a3 :: a4 :: a5 :: a6 :: a7 :: z :: lv) (.ref x :: st) M := g_astore (i := 8) hd hq (by simp) hn k
theorem g_lstore8 {a0 a1 a2 a3 a4 a5 a6 a7 : Option Value} {z z2 : Option Value} {x : Int64} (hd : decode μ.1 pc = .ok (.lstore 8, 2)) (hq : pc + 2 = q) (hn : g_c1 a7 = true) (k : G Γ μ R kn Z q (a0 :: a1 :: a2 :: a3 :: a4 :: a5 :: a6 :: a7 :: some (.long x) :: none :: lv) st M) : G Γ μ R kn Z pc (a0 :: a1 :: a2 :: a3 :: a4 :: a5 :: a6 :: a7 :: z :: z2 :: lv) (.long x :: st) M := g_lstore (i := 8) hd hq (by simp) hn k
theorem g_iinc8 {a0 a1 a2 a3 a4 a5 a6 a7 : Option Value} {n : Int} {x w : Int32} (hd : decode μ.1 pc = .ok (.iinc 8 n, 3)) (hq : pc + 3 = q) (hn : g_c1 a7 = true) (hw : Int32.ofInt n = w) (k : G Γ μ R kn Z q (a0 :: a1 :: a2 :: a3 :: a4 :: a5 :: a6 :: a7 :: some (.int (x + w)) :: lv) st M) : G Γ μ R kn Z pc (a0 :: a1 :: a2 :: a3 :: a4 :: a5 :: a6 :: a7 :: some (.int x) :: lv) st M := g_iinc (i := 8) hd hq rfl hw (by simp) hn k
theorem g_iload9 {a0 a1 a2 a3 a4 a5 a6 a7 a8 : Option Value} {x : Int32} (hd : decode μ.1 pc = .ok (.iload 9, 2)) (hq : pc + 2 = q) (k : G Γ μ R kn Z q (a0 :: a1 :: a2 :: a3 :: a4 :: a5 :: a6 :: a7 :: a8 :: some (.int x) :: lv) (.int x :: st) M) : G Γ μ R kn Z pc (a0 :: a1 :: a2 :: a3 :: a4 :: a5 :: a6 :: a7 :: a8 :: some (.int x) :: lv) st M := g_iload (i := 9) hd hq rfl k
theorem g_aload9 {a0 a1 a2 a3 a4 a5 a6 a7 a8 : Option Value} {x : Nat} (hd : decode μ.1 pc = .ok (.aload 9, 2)) (hq : pc + 2 = q) (k : G Γ μ R kn Z q (a0 :: a1 :: a2 :: a3 :: a4 :: a5 :: a6 :: a7 :: a8 :: some (.ref x) :: lv) (.ref x :: st) M) : G Γ μ R kn Z pc (a0 :: a1 :: a2 :: a3 :: a4 :: a5 :: a6 :: a7 :: a8 :: some (.ref x) :: lv) st M := g_aload (i := 9) hd hq rfl k
theorem g_lload9 {a0 a1 a2 a3 a4 a5 a6 a7 a8 : Option Value} {x : Int64} (hd : decode μ.1 pc = .ok (.lload 9, 2)) (hq : pc + 2 = q) (k : G Γ μ R kn Z q (a0 :: a1 :: a2 :: a3 :: a4 :: a5 :: a6 :: a7 :: a8 :: some (.long x) :: lv) (.long x :: st) M) : G Γ μ R kn Z pc (a0 :: a1 :: a2 :: a3 :: a4 :: a5 :: a6 :: a7 :: a8 :: some (.long x) :: lv) st M := g_lload (i := 9) hd hq rfl k
theorem g_istore9 {a0 a1 a2 a3 a4 a5 a6 a7 a8 : Option Value} {z : Option Value} {x : Int32} (hd : decode μ.1 pc = .ok (.istore 9, 2)) (hq : pc + 2 = q) (hn : g_c1 a8 = true) (k : G Γ μ R kn Z q (a0 :: a1 :: a2 :: a3 :: a4 :: a5 :: a6 :: a7 :: a8 :: some (.int x) :: lv) st M) : G Γ μ R kn Z pc (a0 :: a1 :: a2 :: a3 :: a4 :: a5 :: a6 :: a7 :: a8 :: z :: lv) (.int x :: st) M := g_istore (i := 9) hd hq (by simp) hn k
theorem g_astore9 {a0 a1 a2 a3 a4 a5 a6 a7 a8 : Option Value} {z : Option Value} {x : Nat} (hd : decode μ.1 pc = .ok (.astore 9, 2)) (hq : pc + 2 = q) (hn : g_c1 a8 = true) (k : G Γ μ R kn Z q (a0 :: a1 :: a2 :: a3 :: a4 :: a5 :: a6 :: a7 :: a8 :: some (.ref x) :: lv) st M) : G Γ μ R kn Z pc (a0 :: a1 :: a2 :: a3 :: a4 :: a5 :: a6 :: a7 :: a8 :: z :: lv) (.ref x :: st) M := g_astore (i := 9) hd hq (by simp) hn k
theorem g_lstore9 {a0 a1 a2 a3 a4 a5 a6 a7 a8 : Option Value} {z z2 : Option Value} {x : Int64} (hd : decode μ.1 pc = .ok (.lstore 9, 2)) (hq : pc + 2 = q) (hn : g_c1 a8 = true) (k : G Γ μ R kn Z q (a0 :: a1 :: a2 :: a3 :: a4 :: a5 :: a6 :: a7 :: a8 :: some (.long x) :: none :: lv) st M) : G Γ μ R kn Z pc (a0 :: a1 :: a2 :: a3 :: a4 :: a5 :: a6 :: a7 :: a8 :: z :: z2 :: lv) (.long x :: st) M := g_lstore (i := 9) hd hq (by simp) hn k
theorem g_iinc9 {a0 a1 a2 a3 a4 a5 a6 a7 a8 : Option Value} {n : Int} {x w : Int32} (hd : decode μ.1 pc = .ok (.iinc 9 n, 3)) (hq : pc + 3 = q) (hn : g_c1 a8 = true) (hw : Int32.ofInt n = w) (k : G Γ μ R kn Z q (a0 :: a1 :: a2 :: a3 :: a4 :: a5 :: a6 :: a7 :: a8 :: some (.int (x + w)) :: lv) st M) : G Γ μ R kn Z pc (a0 :: a1 :: a2 :: a3 :: a4 :: a5 :: a6 :: a7 :: a8 :: some (.int x) :: lv) st M := g_iinc (i := 9) hd hq rfl hw (by simp) hn k
theorem g_iret {Q : Option Value → gM → Prop} {x : Int32} (hd : decode μ.1 pc = .ok (.ireturn, 1)) (hr : μ.2.2.2 = some .int) (hQ : Q (some (.int x)) M) : G Γ μ R (0, 0) (g_Z Γ Q) pc lv [.int x] M :=
  fun p l e s m args below meth c H locs A ls F X => W.iret F.1 F.2.1 (by rw [F.2.2.1, hr]) (fun t ht hW => ⟨⟨some (.int x), M, rfl, hQ, by rw [ht]; exact X.1⟩, X.2.2.1.F ht⟩) X.2.2.1.2.2 hd F.2.2.2.1
theorem g_zret {Q : Option Value → gM → Prop} {x : Int32} (hd : decode μ.1 pc = .ok (.ireturn, 1)) {ty : FieldType} (hr : μ.2.2.2 = some ty) (hn : narrow ty (.int x) = .int x) (hQ : Q (some (.int x)) M) : G Γ μ R (0, 0) (g_Z Γ Q) pc lv [.int x] M :=
  fun p l e s m args below meth c H locs A ls F X => W.zret F.1 F.2.1 (by rw [F.2.2.1, hr]) hn (fun t ht hW => ⟨⟨some (.int x), M, rfl, hQ, by rw [ht]; exact X.1⟩, X.2.2.1.F ht⟩) X.2.2.1.2.2 hd F.2.2.2.1
theorem g_vret {Q : Option Value → gM → Prop} (hd : decode μ.1 pc = .ok (.return_, 1)) (hr : μ.2.2.2 = none) (hQ : Q none M) : G Γ μ R (0, 0) (g_Z Γ Q) pc lv [] M :=
  fun p l e s m args below meth c H locs A ls F X => W.vret F.1 F.2.1 (by rw [F.2.2.1, hr]) (fun t ht hW => ⟨⟨none, M, rfl, hQ, by rw [ht]; exact X.1⟩, X.2.2.1.F ht⟩) X.2.2.1.2.2 hd F.2.2.2.1
/-- entry idx of own's pool is field k of class ci, of type ty, final or not -/
def g_FL (own : String) (idx ci k : Nat) (ty : FieldType) (fin : Bool) : Prop := ∃ (C : String) (T : u_T) (N : Nat) (ty0 : Nat → FieldType), vwCl[ci]? = some (C, T, N) ∧ k < N ∧ Cond.fieldLink own idx (T k).1 (T k).2.1 (T k).2.2.1 ∈ g_UW ∧ (∀ w ∈ u_ws C T N, w ∈ g_UW) ∧ parseFieldDescriptor (T k).2.2.1 = some ty ∧ (T k).2.2.2 = fin ∧ (∀ k, k < N → parseFieldDescriptor (T k).2.2.1 = some (ty0 k)) ∧ ∀ a, a < N → ∀ b, b < N → a ≠ b → (T a).2.1 ≠ (T b).2.1
theorem g_fs_at {ad : Nat → Nat} {t : gT} {f : Nat → Int32} {k : Nat} {o : Option (Option Nat)} (h : t[k]? = some o) : (g_fs ad t f)[k]? = some (g_fv ad (f k) o) := by
  simp [g_fs, List.getElem?_mapIdx, h]
theorem g_fs_set {ad : Nat → Nat} {t : gT} {f : Nat → Int32} {k : Nat} {x : Int32} (h : t[k]? = some none) : (g_fs ad t f).set k (.int x) = g_fs ad t (fun b => if b = k then x else f b) := by
  have hlt : k < (g_fs ad t f).length := by
    rw [g_fs, List.length_mapIdx]; exact (List.getElem?_eq_some_iff.mp h).1
  refine List.ext_getElem? fun j => ?_
  by_cases hj : k = j
  · subst hj
    rw [List.getElem?_set_self hlt, g_fs_at h]
    simp [g_fv]
  · rw [List.getElem?_set_ne hj]
    have hj2 : ¬ j = k := fun e => hj e.symm
    cases ho : t[j]? with
    | none => simp [g_fs, List.getElem?_mapIdx, ho]
    | some o => rw [g_fs_at ho, g_fs_at ho, if_neg hj2]
theorem g_E_obj {Γ : gW} {M : gM} {i ci : Nat} {t : gT} (h : Γ.2.2.2.2 i = .inl (ci, t)) : g_E Γ M i = .inr (ci, g_fs Γ.2.2.1 t (M.1 i)) := by simp [g_E, h]
theorem g_E_arr {Γ : gW} {M : gM} {i tc n : Nat} (h : Γ.2.2.2.2 i = .inr (tc, n)) (h2 : ¬ (tc = 2 ∨ tc = 5)) : g_E Γ M i = .inl (Γ.2.1 tc, n, .inl (M.1 i)) := by
  have a : ¬ tc = 2 := fun e => h2 (Or.inl e)
  have b : ¬ tc = 5 := fun e => h2 (Or.inr e)
  simp [g_E, h, a, b]
theorem g_E_arrl {Γ : gW} {M : gM} {i n : Nat} (h : Γ.2.2.2.2 i = .inr (2, n)) : g_E Γ M i = .inl (Γ.2.1 2, n, .inr (.inl (M.2 i))) := by simp [g_E, h]
theorem g_u_at {M : gM} {i k : Nat} {x : Int32} : (g_u M i k x).1 i = fun b => if b = k then x else M.1 i b := by funext b; simp [g_u]
theorem g_u_ne {M : gM} {i k j : Nat} {x : Int32} (h : j ≠ i) : (g_u M i k x).1 j = M.1 j := by funext b; simp [g_u, h]
theorem g_ul_at {M : gM} {i k : Nat} {x : Int64} : (g_ul M i k x).2 i = fun b => if b = k then x else M.2 i b := by funext b; simp [g_ul]
theorem g_ul_ne {M : gM} {i k j : Nat} {x : Int64} (h : j ≠ i) : (g_ul M i k x).2 j = M.2 j := by funext b; simp [g_ul, h]
theorem g_E_u {Γ : gW} {M : gM} {i k j : Nat} {x : Int32} (h : j ≠ i) : g_E Γ (g_u M i k x) j = g_E Γ M j := by
  simp only [g_E, g_u_ne h]; rfl
theorem g_E_ul {Γ : gW} {M : gM} {i k j : Nat} {x : Int64} (h : j ≠ i) : g_E Γ (g_ul M i k x) j = g_E Γ M j := by
  simp only [g_E, g_ul_ne h]; rfl
theorem g_get {i ci idx k0 : Nat} {t : gT} {ty : FieldType} {fin : Bool} {o : Option (Option Nat)} (hd : decode μ.1 pc = .ok (.getfield idx, 3)) (hq : pc + 3 = q) (hf : g_FL μ.2.1 idx ci k0 ty fin) (ho : g_o Γ i (.inl (ci, t))) (ht : t[k0]? = some o) {v : Value} (hv : g_v Γ.2.2.1 v = g_fv Γ.2.2.1 (M.1 i k0) o) (k : G Γ μ R kn Z q lv (v :: st) M) : G Γ μ R kn Z pc lv (.ref i :: st) M := by
  subst hq
  intro p l e s m args below meth c H locs A ls F X
  obtain ⟨C, T, N, ty0, hc, hk, hlink, hin, -, -, -, -⟩ := hf
  obtain ⟨q0, h1, h2⟩ := g_ws_at (M := M) ho.1
  rw [g_E_obj ho.2] at h2
  have kk := k p l e s m args below meth c H locs A ls F X
  rw [List.map_cons, hv] at kk
  exact va_get F.1 F.2.1 F.2.2.2.2.2.2.1 hin F.2.2.2.2.2.1 F.2.2.2.2.2.2.2.1 X.1 q0 h2 hc k0 hk (F.2.2.2.2.2.2.1 _ hlink) (fun _ h => h) (g_fs_at ht) hd kk
theorem g_geti {i ci idx k0 : Nat} {t : gT} {ty : FieldType} {fin : Bool} (hd : decode μ.1 pc = .ok (.getfield idx, 3)) (hq : pc + 3 = q) (hf : g_FL μ.2.1 idx ci k0 ty fin) (ho : g_o Γ i (.inl (ci, t))) (ht : t[k0]? = some none) (k : G Γ μ R kn Z q lv (.int (M.1 i k0) :: st) M) : G Γ μ R kn Z pc lv (.ref i :: st) M := g_get hd hq hf ho ht rfl k
theorem g_getr {i ci idx k0 j : Nat} {t : gT} {ty : FieldType} {fin : Bool} (hd : decode μ.1 pc = .ok (.getfield idx, 3)) (hq : pc + 3 = q) (hf : g_FL μ.2.1 idx ci k0 ty fin) (ho : g_o Γ i (.inl (ci, t))) (ht : t[k0]? = some (some (some j))) (k : G Γ μ R kn Z q lv (.ref j :: st) M) : G Γ μ R kn Z pc lv (.ref i :: st) M := g_get hd hq hf ho ht rfl k
theorem g_put {i ci idx k0 : Nat} {t : gT} {ty : FieldType} {x : Int32} (hd : decode μ.1 pc = .ok (.putfield idx, 3)) (hq : pc + 3 = q) (hf : g_FL μ.2.1 idx ci k0 ty false) (ho : g_o Γ i (.inl (ci, t))) (ht : t[k0]? = some none) (hn : narrow ty (.int x) = .int x) (hfit : fits ty (.int x) = true) (k : G Γ μ R kn Z q lv st (g_u M i k0 x)) : G Γ μ R kn Z pc lv (.int x :: .ref i :: st) M := by
  subst hq
  intro p l e s m args below meth c H locs A ls F X
  obtain ⟨hP, hD, hS, hL⟩ := X
  obtain ⟨C, T, N, ty0, hc, hk, hlink, hin, hty, hfin, hty0, hnm⟩ := hf
  obtain ⟨q0, h1, h2⟩ := g_ws_at (M := M) ho.1
  rw [g_E_obj ho.2] at h2
  have hlt : k0 < (g_fs Γ.2.2.1 t (M.1 i)).length := by rw [g_fs, List.length_mapIdx]; exact (List.getElem?_eq_some_iff.mp ht).1
  have e1 : (g_ws Γ M).set q0 (Γ.2.2.1 i, .inr (ci, (g_fs Γ.2.2.1 t (M.1 i)).set k0 (.int x))) = g_ws Γ (g_u M i k0 x) := g_ws_set hD h1 (by rw [g_E_obj ho.2, g_u_at, g_fs_set ht]) (fun j hj => g_E_u hj)
  refine va_put (v := .int x) F.1 F.2.1 F.2.2.2.2.2.2.1 hin ty0 hty0 hnm F.2.2.2.2.2.1 F.2.2.2.2.2.2.2.1 hP hD hS q0 h2 hc k0 hk (F.2.2.2.2.2.2.1 _ hlink) (fun _ h => h) hfin hty hn hfit hlt hd (fun H1 locs1 hP1 hD1 hS1 => ?_)
  rw [e1] at hP1 hD1
  exact k p l e s m args below meth c H1 locs1 A ls F ⟨hP1, hD1, hS1, hL⟩
theorem g_iald {i n : Nat} {x : Int32} (hd : decode μ.1 pc = .ok (.iaload, 1)) (hq : pc + 1 = q) (ho : g_o Γ i (.inr (1, n))) (hin : vp_in x n) (k : G Γ μ R kn Z q lv (.int (M.1 i x.toNatClampNeg) :: st) M) : G Γ μ R kn Z pc lv (.int x :: .ref i :: st) M := by
  subst hq
  intro p l e s m args below meth c H locs A ls F X
  obtain ⟨q0, h1, h2⟩ := g_ws_at (M := M) ho.1
  rw [g_E_arr ho.2 (by decide)] at h2
  exact va_iald F.1 F.2.1 F.2.2.2.2.2.2.2.1 X.1 q0 1 h2 rfl hin hd (k p l e s m args below meth c H locs A ls F X)
theorem g_iast {i n : Nat} {x y : Int32} (hd : decode μ.1 pc = .ok (.iastore, 1)) (hq : pc + 1 = q) (ho : g_o Γ i (.inr (1, n))) (hin : vp_in x n) (k : G Γ μ R kn Z q lv st (g_u M i x.toNatClampNeg y)) : G Γ μ R kn Z pc lv (.int y :: .int x :: .ref i :: st) M := by
  subst hq
  intro p l e s m args below meth c H locs A ls F X
  obtain ⟨hP, hD, hS, hL⟩ := X
  obtain ⟨q0, h1, h2⟩ := g_ws_at (M := M) ho.1
  rw [g_E_arr ho.2 (by decide)] at h2
  have e1 : (g_ws Γ M).set q0 (Γ.2.2.1 i, .inl (Γ.2.1 1, n, .inl (upd (M.1 i) x.toNatClampNeg y))) = g_ws Γ (g_u M i x.toNatClampNeg y) := g_ws_set hD h1 (by rw [g_E_arr ho.2 (by decide), g_u_at]; rfl) (fun j hj => g_E_u hj)
  refine va_iast F.1 F.2.1 F.2.2.2.2.2.2.2.1 hP hD hS q0 1 h2 rfl hin hd (fun H1 locs1 hP1 hD1 hS1 => ?_)
  rw [e1] at hP1 hD1
  exact k p l e s m args below meth c H1 locs1 A ls F ⟨hP1, hD1, hS1, hL⟩
theorem g_bald {i n : Nat} {x : Int32} (hd : decode μ.1 pc = .ok (.baload, 1)) (hq : pc + 1 = q) (ho : g_o Γ i (.inr (0, n))) (hin : vp_in x n) (k : G Γ μ R kn Z q lv (.int (M.1 i x.toNatClampNeg) :: st) M) : G Γ μ R kn Z pc lv (.int x :: .ref i :: st) M := by
  subst hq
  intro p l e s m args below meth c H locs A ls F X
  obtain ⟨q0, h1, h2⟩ := g_ws_at (M := M) ho.1
  rw [g_E_arr ho.2 (by decide)] at h2
  exact va_bald F.1 F.2.1 F.2.2.2.2.2.2.2.1 X.1 q0 0 h2 rfl hin hd (k p l e s m args below meth c H locs A ls F X)
theorem g_bast {i n : Nat} {x y : Int32} (hd : decode μ.1 pc = .ok (.bastore, 1)) (hq : pc + 1 = q) (ho : g_o Γ i (.inr (0, n))) (hin : vp_in x n) (k : G Γ μ R kn Z q lv st (g_u M i x.toNatClampNeg (vp_nar .byte y))) : G Γ μ R kn Z pc lv (.int y :: .int x :: .ref i :: st) M := by
  subst hq
  intro p l e s m args below meth c H locs A ls F X
  obtain ⟨hP, hD, hS, hL⟩ := X
  obtain ⟨q0, h1, h2⟩ := g_ws_at (M := M) ho.1
  rw [g_E_arr ho.2 (by decide)] at h2
  have e1 : (g_ws Γ M).set q0 (Γ.2.2.1 i, .inl (Γ.2.1 0, n, .inl (upd (M.1 i) x.toNatClampNeg (vp_nar .byte y)))) = g_ws Γ (g_u M i x.toNatClampNeg (vp_nar .byte y)) := g_ws_set hD h1 (by rw [g_E_arr ho.2 (by decide), g_u_at]; rfl) (fun j hj => g_E_u hj)
  refine va_bast F.1 F.2.1 F.2.2.2.2.2.2.2.1 hP hD hS q0 0 h2 rfl hin hd (fun H1 locs1 hP1 hD1 hS1 => ?_)
  rw [e1] at hP1 hD1
  exact k p l e s m args below meth c H1 locs1 A ls F ⟨hP1, hD1, hS1, hL⟩
theorem g_zald {i n : Nat} {x : Int32} (hd : decode μ.1 pc = .ok (.baload, 1)) (hq : pc + 1 = q) (ho : g_o Γ i (.inr (4, n))) (hin : vp_in x n) (k : G Γ μ R kn Z q lv (.int (M.1 i x.toNatClampNeg) :: st) M) : G Γ μ R kn Z pc lv (.int x :: .ref i :: st) M := by
  subst hq
  intro p l e s m args below meth c H locs A ls F X
  obtain ⟨q0, h1, h2⟩ := g_ws_at (M := M) ho.1
  rw [g_E_arr ho.2 (by decide)] at h2
  exact va_zald F.1 F.2.1 F.2.2.2.2.2.2.2.1 X.1 q0 4 h2 rfl hin hd (k p l e s m args below meth c H locs A ls F X)
theorem g_zast {i n : Nat} {x y : Int32} (hd : decode μ.1 pc = .ok (.bastore, 1)) (hq : pc + 1 = q) (ho : g_o Γ i (.inr (4, n))) (hin : vp_in x n) (k : G Γ μ R kn Z q lv st (g_u M i x.toNatClampNeg (vp_nar .boolean y))) : G Γ μ R kn Z pc lv (.int y :: .int x :: .ref i :: st) M := by
  subst hq
  intro p l e s m args below meth c H locs A ls F X
  obtain ⟨hP, hD, hS, hL⟩ := X
  obtain ⟨q0, h1, h2⟩ := g_ws_at (M := M) ho.1
  rw [g_E_arr ho.2 (by decide)] at h2
  have e1 : (g_ws Γ M).set q0 (Γ.2.2.1 i, .inl (Γ.2.1 4, n, .inl (upd (M.1 i) x.toNatClampNeg (vp_nar .boolean y)))) = g_ws Γ (g_u M i x.toNatClampNeg (vp_nar .boolean y)) := g_ws_set hD h1 (by rw [g_E_arr ho.2 (by decide), g_u_at]; rfl) (fun j hj => g_E_u hj)
  refine va_zast F.1 F.2.1 F.2.2.2.2.2.2.2.1 hP hD hS q0 4 h2 rfl hin hd (fun H1 locs1 hP1 hD1 hS1 => ?_)
  rw [e1] at hP1 hD1
  exact k p l e s m args below meth c H1 locs1 A ls F ⟨hP1, hD1, hS1, hL⟩
theorem g_sald {i n : Nat} {x : Int32} (hd : decode μ.1 pc = .ok (.saload, 1)) (hq : pc + 1 = q) (ho : g_o Γ i (.inr (3, n))) (hin : vp_in x n) (k : G Γ μ R kn Z q lv (.int (M.1 i x.toNatClampNeg) :: st) M) : G Γ μ R kn Z pc lv (.int x :: .ref i :: st) M := by
  subst hq
  intro p l e s m args below meth c H locs A ls F X
  obtain ⟨q0, h1, h2⟩ := g_ws_at (M := M) ho.1
  rw [g_E_arr ho.2 (by decide)] at h2
  exact va_sald F.1 F.2.1 F.2.2.2.2.2.2.2.1 X.1 q0 3 h2 rfl hin hd (k p l e s m args below meth c H locs A ls F X)
theorem g_sast {i n : Nat} {x y : Int32} (hd : decode μ.1 pc = .ok (.sastore, 1)) (hq : pc + 1 = q) (ho : g_o Γ i (.inr (3, n))) (hin : vp_in x n) (k : G Γ μ R kn Z q lv st (g_u M i x.toNatClampNeg (vp_nar .short y))) : G Γ μ R kn Z pc lv (.int y :: .int x :: .ref i :: st) M := by
  subst hq
  intro p l e s m args below meth c H locs A ls F X
  obtain ⟨hP, hD, hS, hL⟩ := X
  obtain ⟨q0, h1, h2⟩ := g_ws_at (M := M) ho.1
  rw [g_E_arr ho.2 (by decide)] at h2
  have e1 : (g_ws Γ M).set q0 (Γ.2.2.1 i, .inl (Γ.2.1 3, n, .inl (upd (M.1 i) x.toNatClampNeg (vp_nar .short y)))) = g_ws Γ (g_u M i x.toNatClampNeg (vp_nar .short y)) := g_ws_set hD h1 (by rw [g_E_arr ho.2 (by decide), g_u_at]; rfl) (fun j hj => g_E_u hj)
  refine va_sast F.1 F.2.1 F.2.2.2.2.2.2.2.1 hP hD hS q0 3 h2 rfl hin hd (fun H1 locs1 hP1 hD1 hS1 => ?_)
  rw [e1] at hP1 hD1
  exact k p l e s m args below meth c H1 locs1 A ls F ⟨hP1, hD1, hS1, hL⟩
theorem g_lald {i n : Nat} {x : Int32} (hd : decode μ.1 pc = .ok (.laload, 1)) (hq : pc + 1 = q) (ho : g_o Γ i (.inr (2, n))) (hin : vp_in x n) (k : G Γ μ R kn Z q lv (.long (M.2 i x.toNatClampNeg) :: st) M) : G Γ μ R kn Z pc lv (.int x :: .ref i :: st) M := by
  subst hq
  intro p l e s m args below meth c H locs A ls F X
  obtain ⟨q0, h1, h2⟩ := g_ws_at (M := M) ho.1
  rw [g_E_arrl ho.2] at h2
  exact va_lald F.1 F.2.1 F.2.2.2.2.2.2.2.1 X.1 q0 2 h2 rfl hin hd (k p l e s m args below meth c H locs A ls F X)
theorem g_last {i n : Nat} {x : Int32} {y : Int64} (hd : decode μ.1 pc = .ok (.lastore, 1)) (hq : pc + 1 = q) (ho : g_o Γ i (.inr (2, n))) (hin : vp_in x n) (k : G Γ μ R kn Z q lv st (g_ul M i x.toNatClampNeg y)) : G Γ μ R kn Z pc lv (.long y :: .int x :: .ref i :: st) M := by
  subst hq
  intro p l e s m args below meth c H locs A ls F X
  obtain ⟨hP, hD, hS, hL⟩ := X
  obtain ⟨q0, h1, h2⟩ := g_ws_at (M := M) ho.1
  rw [g_E_arrl ho.2] at h2
  have e1 : (g_ws Γ M).set q0 (Γ.2.2.1 i, .inl (Γ.2.1 2, n, .inr (.inl (vp_updL (M.2 i) x.toNatClampNeg y)))) = g_ws Γ (g_ul M i x.toNatClampNeg y) := g_ws_set hD h1 (by rw [g_E_arrl ho.2, g_ul_at]; rfl) (fun j hj => g_E_ul hj)
  refine va_last F.1 F.2.1 F.2.2.2.2.2.2.2.1 hP hD hS q0 2 h2 rfl hin hd (fun H1 locs1 hP1 hD1 hS1 => ?_)
  rw [e1] at hP1 hD1
  exact k p l e s m args below meth c H1 locs1 A ls F ⟨hP1, hD1, hS1, hL⟩
theorem g_alen {i tc n : Nat} {v : Int32} (hd : decode μ.1 pc = .ok (.arraylength, 1)) (hq : pc + 1 = q) (ho : g_o Γ i (.inr (tc, n))) (htc : tc < 5) (hv : Int32.ofNat n = v) (k : G Γ μ R kn Z q lv (.int v :: st) M) : G Γ μ R kn Z pc lv (.ref i :: st) M := by
  subst hq
  intro p l e s m args below meth c H locs A ls F X
  obtain ⟨q0, h1, h2⟩ := g_ws_at (M := M) ho.1
  have hty : ∃ ty, (g_T Γ)[tc]? = some (Γ.2.1 tc, ty) := by
    rcases (show tc = 0 ∨ tc = 1 ∨ tc = 2 ∨ tc = 3 ∨ tc = 4 by omega) with rfl | rfl | rfl | rfl | rfl <;> exact ⟨_, rfl⟩
  obtain ⟨ty, hty⟩ := hty
  by_cases h5 : tc = 2
  · subst h5
    rw [g_E_arrl ho.2] at h2
    exact va_alen F.1 F.2.1 F.2.2.2.2.2.2.2.1 X.1 q0 2 h2 hty hv hd (k p l e s m args below meth c H locs A ls F X)
  · rw [g_E_arr ho.2 (by omega)] at h2
    exact va_alen F.1 F.2.1 F.2.2.2.2.2.2.2.1 X.1 q0 tc h2 hty hv hd (k p l e s m args below meth c H locs A ls F X)
theorem g_mmax {idx : Nat} {x y : Int32} (hd : decode μ.1 pc = .ok (.invokestatic idx, 3)) (hq : pc + 3 = q) (hl : Cond.methodLink μ.2.1 idx Lib.Math.max.name ∈ g_UW) (h2 : Cond.static Lib.Math.max.name ∈ g_UW) (h3 : Cond.initialized "java/lang/Math" ∈ g_UW) (h4 : Cond.code Lib.Math.max.name Lib.Math.max.code 2 (some .int) ∈ g_UW) (hR : 1 ≤ R.frames ∧ (st.map fun v => v.category).sum + 13 ≤ R.locals) (k : G Γ μ R kn Z q lv (.int (if x < y then y else x) :: st) M) : G Γ μ R kn Z pc lv (.int y :: .int x :: st) M := by
  subst hq
  intro p l e s m args below meth c H locs A ls F X
  have hcat : ((st.map (g_v Γ.2.2.1)).map fun v => v.category) = st.map fun v => v.category := by
    rw [List.map_map]; exact List.map_congr_left fun v _ => g_cat v
  have hT := F.2.2.2.2.2.2.1
  exact va_mmax F.1 F.2.1 (by rw [F.2.2.2.2.1, X.2.2.2.1]) F.2.2.2.2.2.1 (hT _ hl) (hT _ h2) (hT _ h3) (hT _ h4) hR.1 (by rw [hcat]; exact hR.2) F.2.2.2.2.2.2.2.2.2.1 F.2.2.2.2.2.2.2.2.2.2.1 hd (k p l e s m args below meth c H locs A ls F X)
theorem g_mmin {idx : Nat} {x y : Int32} (hd : decode μ.1 pc = .ok (.invokestatic idx, 3)) (hq : pc + 3 = q) (hl : Cond.methodLink μ.2.1 idx Lib.Math.min.name ∈ g_UW) (h2 : Cond.static Lib.Math.min.name ∈ g_UW) (h3 : Cond.initialized "java/lang/Math" ∈ g_UW) (h4 : Cond.code Lib.Math.min.name Lib.Math.min.code 2 (some .int) ∈ g_UW) (hR : 1 ≤ R.frames ∧ (st.map fun v => v.category).sum + 13 ≤ R.locals) (k : G Γ μ R kn Z q lv (.int (if y < x then y else x) :: st) M) : G Γ μ R kn Z pc lv (.int y :: .int x :: st) M := by
  subst hq
  intro p l e s m args below meth c H locs A ls F X
  have hcat : ((st.map (g_v Γ.2.2.1)).map fun v => v.category) = st.map fun v => v.category := by
    rw [List.map_map]; exact List.map_congr_left fun v _ => g_cat v
  have hT := F.2.2.2.2.2.2.1
  exact va_mmin F.1 F.2.1 (by rw [F.2.2.2.2.1, X.2.2.2.1]) F.2.2.2.2.2.1 (hT _ hl) (hT _ h2) (hT _ h3) (hT _ h4) hR.1 (by rw [hcat]; exact hR.2) F.2.2.2.2.2.2.2.2.2.1 F.2.2.2.2.2.2.2.2.2.2.1 hd (k p l e s m args below meth c H locs A ls F X)
theorem g_mabs {idx : Nat} {x : Int32} (hd : decode μ.1 pc = .ok (.invokestatic idx, 3)) (hq : pc + 3 = q) (hl : Cond.methodLink μ.2.1 idx Lib.Math.abs.name ∈ g_UW) (h2 : Cond.static Lib.Math.abs.name ∈ g_UW) (h3 : Cond.initialized "java/lang/Math" ∈ g_UW) (h4 : Cond.code Lib.Math.abs.name Lib.Math.abs.code 1 (some .int) ∈ g_UW) (hR : 1 ≤ R.frames ∧ (st.map fun v => v.category).sum + 13 ≤ R.locals) (k : G Γ μ R kn Z q lv (.int (if 0 ≤ x then x else 0 - x) :: st) M) : G Γ μ R kn Z pc lv (.int x :: st) M := by
  subst hq
  intro p l e s m args below meth c H locs A ls F X
  have hcat : ((st.map (g_v Γ.2.2.1)).map fun v => v.category) = st.map fun v => v.category := by
    rw [List.map_map]; exact List.map_congr_left fun v _ => g_cat v
  have hT := F.2.2.2.2.2.2.1
  exact va_mabs F.1 F.2.1 (by rw [F.2.2.2.2.1, X.2.2.2.1]) F.2.2.2.2.2.1 (hT _ hl) (hT _ h2) (hT _ h3) (hT _ h4) hR.1 (by rw [hcat]; exact hR.2) F.2.2.2.2.2.2.2.2.2.1 F.2.2.2.2.2.2.2.2.2.2.1 hd (k p l e s m args below meth c H locs A ls F X)
end GRows
