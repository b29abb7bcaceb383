/-! the reference: object 300, its array of field k is 400 + k -/
def g_Ref (Γ : gW) : Prop := g_o Γ 300 (.inl (6, [some (some 400), none, some (some 402), some (some 403), some (some 404), some (some 405), some (some 406), some (some 407), some (some 408), some (some 409), some (some 410), some (some 411), none, some (some 413), none, none, none, none, none, none, none, none, none, none, none, some (some 425), some (some 426), some (some 427), some (some 428), some (some 429), some (some 430), some (some 431), none, none, none, none, none, none, some (some 438), some (some 439), some (some 440), some (some 441), some (some 442), some (some 443), none, none, some (some 446), some (some 447), none, none, none, some (some 451), some (some 452), some (some 453), some (some 454)])) ∧ g_o Γ 402 (.inr (1, 8)) ∧ g_o Γ 403 (.inr (1, 12)) ∧ g_o Γ 404 (.inr (1, 12)) ∧ g_o Γ 405 (.inr (1, 24)) ∧ g_o Γ 406 (.inr (1, 2)) ∧ g_o Γ 407 (.inr (1, 30)) ∧ g_o Γ 408 (.inr (1, 30)) ∧ g_o Γ 409 (.inr (1, 12)) ∧ g_o Γ 410 (.inr (1, 12)) ∧ g_o Γ 411 (.inr (4, 24)) ∧ g_o Γ 413 (.inr (1, 700)) ∧ g_o Γ 425 (.inr (1, 1800)) ∧ g_o Γ 426 (.inr (1, 210)) ∧ g_o Γ 427 (.inr (1, 30)) ∧ g_o Γ 428 (.inr (1, 6)) ∧ g_o Γ 429 (.inr (1, 6)) ∧ g_o Γ 430 (.inr (1, 6)) ∧ g_o Γ 431 (.inr (1, 6)) ∧ g_o Γ 438 (.inr (1, 30000)) ∧ g_o Γ 439 (.inr (1, 1000)) ∧ g_o Γ 440 (.inr (1, 1000)) ∧ g_o Γ 441 (.inr (1, 4096)) ∧ g_o Γ 442 (.inr (1, 30)) ∧ g_o Γ 443 (.inr (1, 30)) ∧ g_o Γ 446 (.inr (4, 4000)) ∧ g_o Γ 447 (.inr (1, 12)) ∧ g_o Γ 451 (.inr (1, 30)) ∧ g_o Γ 452 (.inr (1, 12)) ∧ g_o Γ 453 (.inr (1, 1800)) ∧ g_o Γ 454 (.inr (1, 2))
theorem rf_told {Γ : gW} (h : g_Ref Γ) : g_o Γ 402 (.inr (1, 8)) := h.2.1
theorem rf_kind {Γ : gW} (h : g_Ref Γ) : g_o Γ 403 (.inr (1, 12)) := h.2.2.1
theorem rf_kindBy {Γ : gW} (h : g_Ref Γ) : g_o Γ 404 (.inr (1, 12)) := h.2.2.2.1
theorem rf_worth {Γ : gW} (h : g_Ref Γ) : g_o Γ 405 (.inr (1, 24)) := h.2.2.2.2.1
theorem rf_status {Γ : gW} (h : g_Ref Γ) : g_o Γ 406 (.inr (1, 2)) := h.2.2.2.2.2.1
theorem rf_now {Γ : gW} (h : g_Ref Γ) : g_o Γ 407 (.inr (1, 30)) := h.2.2.2.2.2.2.1
theorem rf_read {Γ : gW} (h : g_Ref Γ) : g_o Γ 408 (.inr (1, 30)) := h.2.2.2.2.2.2.2.1
theorem rf_weight {Γ : gW} (h : g_Ref Γ) : g_o Γ 409 (.inr (1, 12)) := h.2.2.2.2.2.2.2.2.1
theorem rf_readWeight {Γ : gW} (h : g_Ref Γ) : g_o Γ 410 (.inr (1, 12)) := h.2.2.2.2.2.2.2.2.2.1
theorem rf_isWet {Γ : gW} (h : g_Ref Γ) : g_o Γ 411 (.inr (4, 24)) := h.2.2.2.2.2.2.2.2.2.2.1
theorem rf_tape {Γ : gW} (h : g_Ref Γ) : g_o Γ 413 (.inr (1, 700)) := h.2.2.2.2.2.2.2.2.2.2.2.1
theorem rf_book {Γ : gW} (h : g_Ref Γ) : g_o Γ 425 (.inr (1, 1800)) := h.2.2.2.2.2.2.2.2.2.2.2.2.1
theorem rf_weekRows {Γ : gW} (h : g_Ref Γ) : g_o Γ 426 (.inr (1, 210)) := h.2.2.2.2.2.2.2.2.2.2.2.2.2.1
theorem rf_weekRow {Γ : gW} (h : g_Ref Γ) : g_o Γ 427 (.inr (1, 30)) := h.2.2.2.2.2.2.2.2.2.2.2.2.2.2.1
theorem rf_weekOwes {Γ : gW} (h : g_Ref Γ) : g_o Γ 428 (.inr (1, 6)) := h.2.2.2.2.2.2.2.2.2.2.2.2.2.2.2.1
theorem rf_weekTo {Γ : gW} (h : g_Ref Γ) : g_o Γ 429 (.inr (1, 6)) := h.2.2.2.2.2.2.2.2.2.2.2.2.2.2.2.2.1
theorem rf_orderTry {Γ : gW} (h : g_Ref Γ) : g_o Γ 430 (.inr (1, 6)) := h.2.2.2.2.2.2.2.2.2.2.2.2.2.2.2.2.2.1
theorem rf_order {Γ : gW} (h : g_Ref Γ) : g_o Γ 431 (.inr (1, 6)) := h.2.2.2.2.2.2.2.2.2.2.2.2.2.2.2.2.2.2.1
theorem rf_states {Γ : gW} (h : g_Ref Γ) : g_o Γ 438 (.inr (1, 30000)) := h.2.2.2.2.2.2.2.2.2.2.2.2.2.2.2.2.2.2.2.1
theorem rf_steps {Γ : gW} (h : g_Ref Γ) : g_o Γ 439 (.inr (1, 1000)) := h.2.2.2.2.2.2.2.2.2.2.2.2.2.2.2.2.2.2.2.2.1
theorem rf_next {Γ : gW} (h : g_Ref Γ) : g_o Γ 440 (.inr (1, 1000)) := h.2.2.2.2.2.2.2.2.2.2.2.2.2.2.2.2.2.2.2.2.2.1
theorem rf_heads {Γ : gW} (h : g_Ref Γ) : g_o Γ 441 (.inr (1, 4096)) := h.2.2.2.2.2.2.2.2.2.2.2.2.2.2.2.2.2.2.2.2.2.2.1
theorem rf_row {Γ : gW} (h : g_Ref Γ) : g_o Γ 442 (.inr (1, 30)) := h.2.2.2.2.2.2.2.2.2.2.2.2.2.2.2.2.2.2.2.2.2.2.2.1
theorem rf_then {Γ : gW} (h : g_Ref Γ) : g_o Γ 443 (.inr (1, 30)) := h.2.2.2.2.2.2.2.2.2.2.2.2.2.2.2.2.2.2.2.2.2.2.2.2.1
theorem rf_canMake {Γ : gW} (h : g_Ref Γ) : g_o Γ 446 (.inr (4, 4000)) := h.2.2.2.2.2.2.2.2.2.2.2.2.2.2.2.2.2.2.2.2.2.2.2.2.2.1
theorem rf_weightNow {Γ : gW} (h : g_Ref Γ) : g_o Γ 447 (.inr (1, 12)) := h.2.2.2.2.2.2.2.2.2.2.2.2.2.2.2.2.2.2.2.2.2.2.2.2.2.2.1
theorem rf_nowThen {Γ : gW} (h : g_Ref Γ) : g_o Γ 451 (.inr (1, 30)) := h.2.2.2.2.2.2.2.2.2.2.2.2.2.2.2.2.2.2.2.2.2.2.2.2.2.2.2.1
theorem rf_weightThen {Γ : gW} (h : g_Ref Γ) : g_o Γ 452 (.inr (1, 12)) := h.2.2.2.2.2.2.2.2.2.2.2.2.2.2.2.2.2.2.2.2.2.2.2.2.2.2.2.2.1
theorem rf_bookThen {Γ : gW} (h : g_Ref Γ) : g_o Γ 453 (.inr (1, 1800)) := h.2.2.2.2.2.2.2.2.2.2.2.2.2.2.2.2.2.2.2.2.2.2.2.2.2.2.2.2.2.1
theorem rf_statusThen {Γ : gW} (h : g_Ref Γ) : g_o Γ 454 (.inr (1, 2)) := h.2.2.2.2.2.2.2.2.2.2.2.2.2.2.2.2.2.2.2.2.2.2.2.2.2.2.2.2.2.2
/-- what the values of a town are bound to -/
def TOK (T : gTw) : Prop := (0 ≤ T 0 0 ∧ T 0 0 ≤ 6) ∧ (0 ≤ T 0 1 ∧ T 0 1 ≤ 12) ∧ (0 ≤ T 0 2 ∧ T 0 2 ≤ 1) ∧ (0 ≤ T 0 3 ∧ T 0 3 ≤ 9) ∧ (0 ≤ T 0 4 ∧ T 0 4 ≤ 100000) ∧ (0 ≤ T 0 5 ∧ T 0 5 ≤ 4095)
  ∧ (∀ p, p < 6 → (0 ≤ T 1 p ∧ T 1 p ≤ 4) ∧ (0 ≤ T 2 p ∧ T 2 p ≤ 99) ∧ (0 ≤ T 3 p ∧ T 3 p ≤ 600) ∧ (0 ≤ T 4 p ∧ T 4 p ≤ 2000) ∧ (-1 ≤ T 5 p ∧ T 5 p ≤ 5) ∧ (0 ≤ T 6 p ∧ T 6 p ≤ 4095) ∧ (T 1 p = 3 → T 2 p ≤ 11))
  ∧ ∀ i, i < 12 → (0 ≤ T 7 i ∧ T 7 i ≤ 99) ∧ (0 ≤ T 8 i ∧ T 8 i ≤ 999)
theorem TOK.of {M : gM} {t : Nat} (h : TB M t) : TOK (tv M t) := by
  obtain ⟨h0, h1, h2, -⟩ := h
  rw [TOK, tv0 (by omega), tv0 (by omega), tv0 (by omega), tv0 (by omega), tv0 (by omega), tv0 (by omega)]
  refine ⟨h0.1, h0.2.1, h0.2.2.1, h0.2.2.2.1, h0.2.2.2.2.1, h0.2.2.2.2.2, fun p hp => ?_, fun i hi => ?_⟩
  · rw [tvp (by omega) hp, tvp (by omega) hp, tvp (by omega) hp, tvp (by omega) hp, tvp (by omega) hp, tvp (by omega) hp]
    exact h1 p hp
  · rw [tvw (by omega) hi, tvw (by omega) hi]
    exact h2 i hi
/-- the reference's own tables are those of T -/
def CR (T : gTw) (M : gM) : Prop := (M.1 402 0).toInt = T 0 0 ∧ (M.1 402 1).toInt = T 0 1 ∧ (M.1 402 2).toInt = T 0 2 ∧ (M.1 402 3).toInt = T 0 3 ∧ (∀ p : Nat, (p : Int) < T 0 0 → (M.1 403 p).toInt = T 1 p ∧ (M.1 404 p).toInt = T 2 p) ∧ (∀ i : Nat, (i : Int) < T 0 1 → (M.1 405 i).toInt = T 8 i)
def WR (T : gTw) (M : gM) : Prop := ∀ i : Nat, (i : Int) < T 0 1 → (M.1 409 i).toInt = T 7 i
/-- a row of the reference holds the gifts' side of T -/
def RW (T : gTw) (r : Nat → Int32) : Prop := (∀ p : Nat, (p : Int) < T 0 0 → (r (12 + p)).toInt = T 3 p ∧ (r (18 + p)).toInt = T 4 p ∧ (r (24 + p)).toInt = T 5 p ∧ ∀ i : Nat, (hasT T p).testBit i = true ↔ ((i : Int) < T 0 1 ∧ (r i).toInt = (p : Int))) ∧ ∀ i : Nat, (i : Int) < T 0 1 → 0 ≤ (r i).toInt ∧ (r i).toInt < T 0 0
/-- bits of a set below n, gathered -/
def gat (P : Nat → Bool) : Nat → Nat
  | 0 => 0
  | n + 1 => gat P n ||| (if P n then 2 ^ n else 0)
theorem gat_bit (P : Nat → Bool) (n i : Nat) : (gat P n).testBit i = (decide (i < n) && P i) := by
  induction n with
  | zero => simp [gat]
  | succ n ih =>
    rw [gat, Nat.testBit_or, ih]
    by_cases h : P n = true
    · rw [if_pos h, Nat.testBit_two_pow]
      by_cases hi : i = n
      · subst hi; simp [h]
      · have h1 : ¬ n = i := fun e => hi e.symm
        have h2 : decide (i < n + 1) = decide (i < n) := by simp; omega
        rw [h2]; simp [h1]
    · rw [if_neg h, Nat.zero_testBit]
      by_cases hi : i = n
      · subst hi; simp [h]
      · have h2 : decide (i < n + 1) = decide (i < n) := by simp; omega
        rw [h2]; simp
theorem gat_lt (P : Nat → Bool) (n : Nat) : gat P n < 2 ^ n := by
  refine Nat.lt_pow_two_of_testBit _ (fun i hi => ?_)
  rw [gat_bit]; simp; omega
theorem RW.has {T : gTw} {r : Nat → Int32} (h : RW T r) {p : Nat} (hp : (p : Int) < T 0 0) : gat (fun i => decide ((r i).toInt = (p : Int))) (T 0 1).toNat = hasT T p := by
  refine Nat.eq_of_testBit_eq fun i => ?_
  rw [gat_bit]
  have := (h.1 p hp).2.2.2 i
  cases hb : (hasT T p).testBit i
  · rw [hb] at this
    by_cases h1 : i < (T 0 1).toNat
    · by_cases h2 : (r i).toInt = (p : Int)
      · have := this.mpr ⟨by omega, h2⟩; cases this
      · simp [h2]
    · simp [h1]
  · have := this.mp hb
    have h1 : i < (T 0 1).toNat := by omega
    simp [h1, this.2]
theorem wsum_ext {w : Nat → Int} {n m s : Nat} (h : s < 2 ^ n) (hm : n ≤ m) : wsum w m s = wsum w n s := by
  obtain ⟨k, rfl⟩ : ∃ k, m = n + k := ⟨m - n, by omega⟩
  rw [wsum_split]
  have : s >>> n = 0 := shr0.mpr h
  have h0 : wsum (fun i => w (n + i)) k 0 = 0 := wsum_none (fun i _ => Nat.zero_testBit i)
  rw [this, h0]
  omega
theorem sub_lt {u a n : Nat} (h : sub u a) (ha : a < 2 ^ n) : u < 2 ^ n := Nat.lt_of_le_of_lt (sub_le h) ha
theorem bn_sshr {x y : Int32} (hx : 0 ≤ x.toInt) (h : 0 ≤ y.toInt ∧ y.toInt < 32) : bn (x >>> (y &&& 31)) = bn x >>> y.toInt.toNat := by
  have h1 : ∀ j : Nat, j < 32 → (Int32.ofNat j &&& 31).toBitVec.smod 32 = BitVec.ofNat 32 j := by decide +kernel
  have h2 : y = Int32.ofNat y.toInt.toNat := i_ext (by rw [i_of (by omega)]; omega)
  have h3 : ((y &&& 31).toBitVec.smod 32) = BitVec.ofNat 32 y.toInt.toNat := by
    have := h1 y.toInt.toNat (by omega)
    rw [← h2] at this
    exact this
  have hm : x.toBitVec.msb = false := by
    rw [BitVec.msb_eq_toInt]
    have : ¬ x.toBitVec.toInt < 0 := by have : x.toInt = x.toBitVec.toInt := rfl; omega
    simpa using hx
  show (x >>> (y &&& 31)).toBitVec.toNat = _
  rw [Int32.toBitVec_shiftRight, h3, BitVec.sshiftRight', BitVec.sshiftRight_eq_of_msb_false hm, BitVec.toNat_ushiftRight, BitVec.toNat_ofNat, Nat.mod_eq_of_lt (by omega : y.toInt.toNat < 2 ^ 32)]
  rfl
theorem g_ishrB {Γ : gW} {μ : gY} {R : Room} {kn : Nat × Nat} {Z : gZ} {pc q : Nat} {lv : List (Option Value)} {st : List Value} {M : gM} {x y : Int32} (hd : decode μ.1 pc = .ok (.ishr, 1)) (hq : pc + 1 = q) (h : 0 ≤ x.toInt ∧ 0 ≤ y.toInt ∧ y.toInt < 32) (k : ∀ w : Int32, bn w = bn x >>> y.toInt.toNat → G Γ μ R kn Z q lv (.int w :: st) M) : G Γ μ R kn Z pc lv (.int y :: .int x :: st) M := g_ishr hd hq (k _ (bn_sshr h.1 h.2))
