theorem jm_i : Cond.initialized "java/lang/Math" ∈ g_UW := g_uwR (ws := [Cond.initialized "java/lang/Math"]) [100] (by decide +kernel) (by decide +kernel) _ List.mem_cons_self
theorem jm_max_s : Cond.static Lib.Math.max.name ∈ g_UW := g_uwR (ws := [Cond.static Lib.Math.max.name]) [381] (by decide +kernel) (by decide +kernel) _ List.mem_cons_self
theorem jm_max_c : Cond.code Lib.Math.max.name Lib.Math.max.code 2 (some .int) ∈ g_UW := g_uwR (ws := [Cond.code Lib.Math.max.name Lib.Math.max.code 2 (some .int)]) [382] (by decide +kernel) (by decide +kernel) _ List.mem_cons_self
theorem jm_min_s : Cond.static Lib.Math.min.name ∈ g_UW := g_uwR (ws := [Cond.static Lib.Math.min.name]) [598] (by decide +kernel) (by decide +kernel) _ List.mem_cons_self
theorem jm_min_c : Cond.code Lib.Math.min.name Lib.Math.min.code 2 (some .int) ∈ g_UW := g_uwR (ws := [Cond.code Lib.Math.min.name Lib.Math.min.code 2 (some .int)]) [599] (by decide +kernel) (by decide +kernel) _ List.mem_cons_self
theorem jm_abs_s : Cond.static Lib.Math.abs.name ∈ g_UW := g_uwR (ws := [Cond.static Lib.Math.abs.name]) [1457] (by decide +kernel) (by decide +kernel) _ List.mem_cons_self
theorem jm_abs_c : Cond.code Lib.Math.abs.name Lib.Math.abs.code 1 (some .int) ∈ g_UW := g_uwR (ws := [Cond.code Lib.Math.abs.name Lib.Math.abs.code 1 (some .int)]) [1458] (by decide +kernel) (by decide +kernel) _ List.mem_cons_self
theorem jX3_90 : Cond.methodLink RX3 90 Lib.Math.max.name ∈ g_UW := g_uwR (ws := [Cond.methodLink RX3 90 Lib.Math.max.name]) [380] (by decide +kernel) (by decide +kernel) _ List.mem_cons_self
theorem jX2_57 : Cond.methodLink RX2 57 Lib.Math.min.name ∈ g_UW := g_uwR (ws := [Cond.methodLink RX2 57 Lib.Math.min.name]) [597] (by decide +kernel) (by decide +kernel) _ List.mem_cons_self
theorem jX3_143 : Cond.methodLink RX3 143 Lib.Math.min.name ∈ g_UW := g_uwR (ws := [Cond.methodLink RX3 143 Lib.Math.min.name]) [858] (by decide +kernel) (by decide +kernel) _ List.mem_cons_self
theorem jX5_216 : Cond.methodLink RX5 216 Lib.Math.max.name ∈ g_UW := g_uwR (ws := [Cond.methodLink RX5 216 Lib.Math.max.name]) [859] (by decide +kernel) (by decide +kernel) _ List.mem_cons_self
theorem jX4_46 : Cond.methodLink RX4 46 Lib.Math.max.name ∈ g_UW := g_uwR (ws := [Cond.methodLink RX4 46 Lib.Math.max.name]) [876] (by decide +kernel) (by decide +kernel) _ List.mem_cons_self
theorem jX5_238 : Cond.methodLink RX5 238 Lib.Math.min.name ∈ g_UW := g_uwR (ws := [Cond.methodLink RX5 238 Lib.Math.min.name]) [897] (by decide +kernel) (by decide +kernel) _ List.mem_cons_self
theorem jX6_165 : Cond.methodLink RX6 165 Lib.Math.min.name ∈ g_UW := g_uwR (ws := [Cond.methodLink RX6 165 Lib.Math.min.name]) [1289] (by decide +kernel) (by decide +kernel) _ List.mem_cons_self
theorem jX6_282 : Cond.methodLink RX6 282 Lib.Math.max.name ∈ g_UW := g_uwR (ws := [Cond.methodLink RX6 282 Lib.Math.max.name]) [1400] (by decide +kernel) (by decide +kernel) _ List.mem_cons_self
theorem jX6_318 : Cond.methodLink RX6 318 Lib.Math.abs.name ∈ g_UW := g_uwR (ws := [Cond.methodLink RX6 318 Lib.Math.abs.name]) [1456] (by decide +kernel) (by decide +kernel) _ List.mem_cons_self
theorem bn_shl {x y : Int32} (h : 0 ≤ y.toInt ∧ y.toInt < 32) : bn (x <<< (y &&& 31)) = (bn x <<< y.toInt.toNat) % 4294967296 := by
  have h1 : ∀ j : Nat, j < 32 → (Int32.ofNat j &&& 31).toBitVec.smod 32 = BitVec.ofNat 32 j := by decide +kernel
  have h0 : ∀ j : Nat, j < 32 → (Int32.ofNat j).toInt = j := by decide +kernel
  have h2 : y = Int32.ofNat y.toInt.toNat := i_ext (by rw [h0 _ (by omega)]; omega)
  have h3 : ((y &&& 31).toBitVec.smod 32) = BitVec.ofNat 32 y.toInt.toNat := by
    have := h1 y.toInt.toNat (by omega)
    rw [← h2] at this
    exact this
  show (x <<< (y &&& 31)).toBitVec.toNat = _
  rw [Int32.toBitVec_shiftLeft, h3, BitVec.shiftLeft_eq', BitVec.toNat_shiftLeft, BitVec.toNat_ofNat, Nat.mod_eq_of_lt (by omega : y.toInt.toNat < 2 ^ 32)]
  rfl
theorem bn_ushr {x y : Int32} (h : 0 ≤ y.toInt ∧ y.toInt < 32) : bn (i_ushr x y) = bn x >>> y.toInt.toNat := by
  have h1 : ∀ j : Nat, j < 32 → ((Int32.ofNat j).toUInt32 &&& Int32.toUInt32 31).toNat % 32 = j := by decide +kernel
  have h0 : ∀ j : Nat, j < 32 → (Int32.ofNat j).toInt = j := by decide +kernel
  have h2 : y = Int32.ofNat y.toInt.toNat := i_ext (by rw [h0 _ (by omega)]; omega)
  have h3 : (y.toUInt32 &&& Int32.toUInt32 31).toNat % 32 = y.toInt.toNat := by
    have := h1 y.toInt.toNat (by omega)
    rw [← h2] at this
    exact this
  show (x.toUInt32 >>> (y.toUInt32 &&& Int32.toUInt32 31)).toNat = _
  rw [UInt32.toNat_shiftRight, h3]
  rfl
theorem i_and {x y : Int32} (h : bn x < 2147483648 ∨ bn y < 2147483648) : (x &&& y).toInt = ((bn x &&& bn y : Nat) : Int) := by
  have : bn x &&& bn y < 2147483648 := by
    rcases h with h | h
    · exact Nat.lt_of_le_of_lt Nat.and_le_left h
    · exact Nat.lt_of_le_of_lt Nat.and_le_right h
  rw [i_bn (by rw [bn_and]; exact this), bn_and]
section GB
variable {Γ : gW} {μ : gY} {R : Room} {kn : Nat × Nat} {Z : gZ} {pc q : Nat} {lv : List (Option Value)} {st : List Value} {M : gM}
theorem g_iandB {x y : Int32} (hd : decode μ.1 pc = .ok (.iand, 1)) (hq : pc + 1 = q) (k : ∀ w : Int32, bn w = bn x &&& bn y → G Γ μ R kn Z q lv (.int w :: st) M) : G Γ μ R kn Z pc lv (.int y :: .int x :: st) M := g_iand hd hq (k _ (bn_and x y))
theorem g_iorB {x y : Int32} (hd : decode μ.1 pc = .ok (.ior, 1)) (hq : pc + 1 = q) (k : ∀ w : Int32, bn w = bn x ||| bn y → G Γ μ R kn Z q lv (.int w :: st) M) : G Γ μ R kn Z pc lv (.int y :: .int x :: st) M := g_ior hd hq (k _ (bn_or x y))
theorem g_ixorB {x y : Int32} (hd : decode μ.1 pc = .ok (.ixor, 1)) (hq : pc + 1 = q) (k : ∀ w : Int32, bn w = bn x ^^^ bn y → G Γ μ R kn Z q lv (.int w :: st) M) : G Γ μ R kn Z pc lv (.int y :: .int x :: st) M := g_ixor hd hq (k _ (bn_xor x y))
theorem g_ishlB {x y : Int32} (hd : decode μ.1 pc = .ok (.ishl, 1)) (hq : pc + 1 = q) (h : 0 ≤ y.toInt ∧ y.toInt < 32) (k : ∀ w : Int32, bn w = (bn x <<< y.toInt.toNat) % 4294967296 → G Γ μ R kn Z q lv (.int w :: st) M) : G Γ μ R kn Z pc lv (.int y :: .int x :: st) M := g_ishl hd hq (k _ (bn_shl h))
theorem g_iushrB {x y : Int32} (hd : decode μ.1 pc = .ok (.iushr, 1)) (hq : pc + 1 = q) (h : 0 ≤ y.toInt ∧ y.toInt < 32) (k : ∀ w : Int32, bn w = bn x >>> y.toInt.toNat → G Γ μ R kn Z q lv (.int w :: st) M) : G Γ μ R kn Z pc lv (.int y :: .int x :: st) M := g_iushr hd hq rfl (k _ (bn_ushr h))
theorem g_iaddB {x y : Int32} (hd : decode μ.1 pc = .ok (.iadd, 1)) (hq : pc + 1 = q) (k : ∀ w : Int32, bn w = (bn x + bn y) % 4294967296 → G Γ μ R kn Z q lv (.int w :: st) M) : G Γ μ R kn Z pc lv (.int y :: .int x :: st) M := g_iadd hd hq (k _ (bn_add x y))
end GB
theorem bn_lit {x : Int32} {n : Nat} (h : x.toInt = (n : Int)) : bn x = n := by rw [bn_toNat (by omega)]; omega
theorem bn_neg1 {x : Int32} (h : x.toInt = -1) : bn x = 4294967295 := by
  have : x = -1 := i_ext h
  subst this; rfl
/-- of a, what isn't in b -/
def nd (a b : Nat) : Nat := a ^^^ (a &&& b)
theorem nd_bit (a b i : Nat) : (nd a b).testBit i = (a.testBit i && !b.testBit i) := by
  simp only [nd, Nat.testBit_xor, Nat.testBit_and]
  cases a.testBit i <;> cases b.testBit i <;> rfl
theorem and_not {a b : Nat} (ha : a < 4294967296) : a &&& (b ^^^ 4294967295) = nd a b := by
  refine Nat.eq_of_testBit_eq fun i => ?_
  rw [nd_bit, Nat.testBit_and, Nat.testBit_xor, show (4294967295 : Nat) = 2 ^ 32 - 1 from rfl, Nat.testBit_two_pow_sub_one]
  by_cases h : i < 32
  · simp [h]
  · rw [Nat.testBit_lt_two_pow (Nat.lt_of_lt_of_le ha (show 4294967296 ≤ 2 ^ i from Nat.pow_le_pow_right (n := 2) (by decide) (by omega : 32 ≤ i)))]
    simp
theorem nd_le (a b : Nat) : nd a b ≤ a := by
  have h : nd a b = a &&& nd a b := by
    refine Nat.eq_of_testBit_eq fun i => ?_
    rw [Nat.testBit_and, nd_bit]
    cases a.testBit i <;> cases b.testBit i <;> rfl
  rw [h]; exact Nat.and_le_left
/-- the weight of a set among the first n -/
def wsum (w : Nat → Int) : Nat → Nat → Int
  | 0, _ => 0
  | n + 1, s => wsum w n s + (if s.testBit n then w n else 0)
