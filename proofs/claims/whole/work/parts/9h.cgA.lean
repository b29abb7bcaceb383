/-! whole numbers of 64 bits as naturals -/
def ln (x : Int64) : Nat := x.toBitVec.toNat
theorem l_ext {x y : Int64} (h : ln x = ln y) : x = y := by
  have : x.toBitVec = y.toBitVec := BitVec.eq_of_toNat_eq h
  exact Int64.toBitVec_inj.mp this
theorem ll_or (x y : Int64) : ln (x ||| y) = ln x ||| ln y := by simp [ln]
theorem ln_lt (x : Int64) : ln x < 18446744073709551616 := x.toBitVec.isLt
theorem ln_shl {x : Int64} {y : Int32} (h : 0 ≤ y.toInt ∧ y.toInt < 64) : ln (x <<< (y.toInt64 &&& 63)) = (ln x <<< y.toInt.toNat) % 18446744073709551616 := by
  have h1 : ∀ j : Nat, j < 64 → ((Int32.ofNat j).toInt64 &&& 63).toBitVec.smod 64 = BitVec.ofNat 64 j := by decide +kernel
  have h0 : ∀ j : Nat, j < 64 → (Int32.ofNat j).toInt = j := by decide +kernel
  have h2 : y = Int32.ofNat y.toInt.toNat := i_ext (by rw [h0 _ (by omega)]; omega)
  have h3 : ((y.toInt64 &&& 63).toBitVec.smod 64) = BitVec.ofNat 64 y.toInt.toNat := by
    have := h1 y.toInt.toNat (by omega)
    rw [← h2] at this
    exact this
  show (x <<< (y.toInt64 &&& 63)).toBitVec.toNat = _
  rw [Int64.toBitVec_shiftLeft, h3, BitVec.shiftLeft_eq', BitVec.toNat_shiftLeft, BitVec.toNat_ofNat, Nat.mod_eq_of_lt (by omega : y.toInt.toNat < 2 ^ 64)]
  rfl
theorem ln_ushr {x : Int64} {y : Int32} (h : 0 ≤ y.toInt ∧ y.toInt < 64) : ln ((x.toUInt64 >>> (y.toInt64.toUInt64 &&& Int64.toUInt64 63)).toInt64) = ln x >>> y.toInt.toNat := by
  have h1 : ∀ j : Nat, j < 64 → ((Int32.ofNat j).toInt64.toUInt64 &&& Int64.toUInt64 63).toNat % 64 = j := by decide +kernel
  have h0 : ∀ j : Nat, j < 64 → (Int32.ofNat j).toInt = j := by decide +kernel
  have h2 : y = Int32.ofNat y.toInt.toNat := i_ext (by rw [h0 _ (by omega)]; omega)
  have h3 : (y.toInt64.toUInt64 &&& Int64.toUInt64 63).toNat % 64 = y.toInt.toNat := by
    have := h1 y.toInt.toNat (by omega)
    rw [← h2] at this
    exact this
  show (x.toUInt64 >>> (y.toInt64.toUInt64 &&& Int64.toUInt64 63)).toNat = _
  rw [UInt64.toNat_shiftRight, h3]
  rfl
theorem ln_i2l {x : Int32} (h : 0 ≤ x.toInt) : ln x.toInt64 = x.toInt.toNat := by
  have e : x.toInt64.toInt = x.toInt := by simp
  have e2 : x.toInt64.toInt = x.toInt64.toBitVec.toInt := rfl
  have e3 := BitVec.toInt_eq_toNat_cond x.toInt64.toBitVec
  have hl := ln_lt x.toInt64
  show x.toInt64.toBitVec.toNat = _
  unfold ln at hl
  split at e3 <;> omega
theorem bn_l2i {x : Int64} : bn x.toInt32 = ln x % 4294967296 := by
  show (x.toBitVec.signExtend 32).toNat = _
  rw [BitVec.signExtend_eq_setWidth_of_le _ (by decide), BitVec.toNat_setWidth]; rfl
theorem cmp_eq {x y : Int64} : (lg_cmp x y).toInt = 0 ↔ x = y := by
  unfold lg_cmp
  by_cases h1 : x > y
  · rw [if_pos h1]
    constructor
    · intro q; exact absurd q (by decide)
    · intro q; rw [q] at h1; exact absurd h1 Int64.lt_irrefl
  · rw [if_neg h1]
    by_cases h2 : x = y
    · rw [if_pos h2]; exact ⟨fun _ => h2, fun _ => rfl⟩
    · rw [if_neg h2]; exact ⟨fun q => absurd q (by decide), fun q => absurd q h2⟩
/-- a person's gifts' side in one number -/
def PK (T : gTw) (p : Nat) : Nat := (T 6 p).toNat + 4096 * ((T 3 p).toNat + 4096 * ((T 4 p).toNat + 4096 * (T 5 p + 1).toNat))
theorem PK_rng {T : gTw} {p : Nat} (hO : TOK T) (hp : p < 6) : (T 6 p).toNat < 4096 ∧ (T 3 p).toNat < 4096 ∧ (T 4 p).toNat < 4096 ∧ (T 5 p + 1).toNat ≤ 6 := by
  have := hO.2.2.2.2.2.2.1 p hp
  omega
theorem or_add {a b k : Nat} (h : b < 2 ^ k) : a <<< k ||| b = a * 2 ^ k + b := by
  rw [← Nat.shiftLeft_add_eq_or_of_lt h, Nat.shiftLeft_eq]
theorem pk_or {a b c d : Nat} (ha : a < 4096) (hb : b < 4096) (hc : c < 4096) (hd : d ≤ 6) : ((((d <<< 12) % 18446744073709551616 ||| c) <<< 24) % 18446744073709551616 ||| (b <<< 12) % 18446744073709551616) ||| a = a + 4096 * (b + 4096 * (c + 4096 * d)) := by
  have e1 : (d <<< 12) % 18446744073709551616 = d <<< 12 := by rw [Nat.shiftLeft_eq]; exact Nat.mod_eq_of_lt (by omega)
  have e2 : d <<< 12 ||| c = d * 4096 + c := or_add (k := 12) hc
  have e3 : ((d * 4096 + c) <<< 24) % 18446744073709551616 = (d * 4096 + c) <<< 24 := by rw [Nat.shiftLeft_eq]; exact Nat.mod_eq_of_lt (by omega)
  have e4 : (b <<< 12) % 18446744073709551616 = b * 4096 := by rw [Nat.shiftLeft_eq]; exact Nat.mod_eq_of_lt (by omega)
  have e5 : (d * 4096 + c) <<< 24 ||| b * 4096 = (d * 4096 + c) * 16777216 + b * 4096 := or_add (k := 24) (show b * 4096 < 2 ^ 24 by omega)
  have e6 : ((d * 4096 + c) * 16777216 + b * 4096) = ((d * 4096 + c) * 4096 + b) <<< 12 := by rw [Nat.shiftLeft_eq]; omega
  rw [e1, e2, e3, e4, e5, e6, or_add (k := 12) ha, show (2 : Nat) ^ 12 = 4096 from rfl]
  clear e1 e2 e3 e4 e5 e6
  omega
theorem pk_get {a b c d : Nat} (ha : a < 4096) (hb : b < 4096) (hc : c < 4096) (hd : d ≤ 6) : ((a + 4096 * (b + 4096 * (c + 4096 * d))) % 4294967296) &&& 4095 = a ∧ ((a + 4096 * (b + 4096 * (c + 4096 * d))) >>> 12 % 4294967296) &&& 4095 = b ∧ ((a + 4096 * (b + 4096 * (c + 4096 * d))) >>> 24 % 4294967296) &&& 4095 = c ∧ (a + 4096 * (b + 4096 * (c + 4096 * d))) >>> 36 % 4294967296 = d := by
  have m : ∀ x : Nat, x &&& 4095 = x % 4096 := fun x => Nat.and_two_pow_sub_one_eq_mod x 12
  rw [m, m, m, Nat.shiftRight_eq_div_pow, Nat.shiftRight_eq_div_pow, Nat.shiftRight_eq_div_pow]
  omega
theorem PK_inj {T T' : gTw} {p : Nat} (hO : TOK T) (hO' : TOK T') (hp : p < 6) (h : PK T p = PK T' p) : T 3 p = T' 3 p ∧ T 4 p = T' 4 p ∧ T 5 p = T' 5 p ∧ T 6 p = T' 6 p := by
  have a := PK_rng hO hp
  have b := PK_rng hO' hp
  have c := hO.2.2.2.2.2.2.1 p hp
  have d := hO'.2.2.2.2.2.2.1 p hp
  unfold PK at h
  omega
def g_Get (Γ : gW) : Prop := g_o Γ 250 (.inl (1, [some (some 251), some (some 252), some (some 253), some (some 200), none, none])) ∧ g_o Γ 251 (.inr (2, 6000)) ∧ g_o Γ 252 (.inr (3, 2048)) ∧ g_o Γ 253 (.inr (2, 6)) ∧ g_Town Γ 200
