/-! what a town's cells are bound to, and its words -/
theorem wsum_and (w : Nat → Int) (n s m : Nat) (h : n ≤ m) : wsum w n (s &&& (2 ^ m - 1)) = wsum w n s := by
  induction n with
  | zero => rfl
  | succ n ih =>
    rw [wsum, wsum, ih (by omega), Nat.testBit_and, Nat.testBit_two_pow_sub_one]
    simp [show n < m by omega]
theorem wsum_split (w : Nat → Int) (k n s : Nat) : wsum w (k + n) s = wsum w k s + wsum (fun i => w (k + i)) n (s >>> k) := by
  induction n with
  | zero => simp [wsum]
  | succ n ih =>
    rw [← Nat.add_assoc, wsum, ih, wsum, Nat.testBit_shiftRight]
    omega
theorem wsum_le {w : Nat → Int} {B : Int} {n s : Nat} (h : ∀ i, i < n → 0 ≤ w i ∧ w i ≤ B) (hB : 0 ≤ B) : 0 ≤ wsum w n s ∧ wsum w n s ≤ n * B := by
  induction n with
  | zero => simp [wsum]
  | succ n ih =>
    have := ih (fun i hi => h i (by omega))
    have h2 := h n (by omega)
    rw [wsum]
    have h3 : ((n + 1 : Nat) : Int) * B = n * B + B := by rw [Int.natCast_add, Int.add_mul]; simp
    rw [h3]
    split <;> omega
def wtF (M : gM) (t : Nat) : Nat → Int := fun i => (M.1 (t + 7) i).toInt
def woF (M : gM) (t : Nat) : Nat → Int := fun i => (M.1 (t + 8) i).toInt
/-- the weight of a set -/
def wt (M : gM) (t s : Nat) : Int := wsum (wtF M t) 12 s
def TB1 (M : gM) (t p : Nat) : Prop := (0 ≤ (M.1 (t + 1) p).toInt ∧ (M.1 (t + 1) p).toInt ≤ 4) ∧ (0 ≤ (M.1 (t + 2) p).toInt ∧ (M.1 (t + 2) p).toInt ≤ 99) ∧ (0 ≤ (M.1 (t + 3) p).toInt ∧ (M.1 (t + 3) p).toInt ≤ 600) ∧ (0 ≤ (M.1 (t + 4) p).toInt ∧ (M.1 (t + 4) p).toInt ≤ 2000) ∧ (-1 ≤ (M.1 (t + 5) p).toInt ∧ (M.1 (t + 5) p).toInt ≤ 5) ∧ (0 ≤ (M.1 (t + 6) p).toInt ∧ (M.1 (t + 6) p).toInt ≤ 4095) ∧ ((M.1 (t + 1) p).toInt = 3 → (M.1 (t + 2) p).toInt ≤ 11)
def TB2 (M : gM) (t i : Nat) : Prop := (0 ≤ (M.1 (t + 7) i).toInt ∧ (M.1 (t + 7) i).toInt ≤ 99) ∧ (0 ≤ (M.1 (t + 8) i).toInt ∧ (M.1 (t + 8) i).toInt ≤ 999)
def TB0 (M : gM) (t : Nat) : Prop := (0 ≤ (M.1 t 0).toInt ∧ (M.1 t 0).toInt ≤ 6) ∧ (0 ≤ (M.1 t 1).toInt ∧ (M.1 t 1).toInt ≤ 12) ∧ (0 ≤ (M.1 t 2).toInt ∧ (M.1 t 2).toInt ≤ 1) ∧ (0 ≤ (M.1 t 3).toInt ∧ (M.1 t 3).toInt ≤ 9) ∧ (0 ≤ (M.1 t 4).toInt ∧ (M.1 t 4).toInt ≤ 100000) ∧ (0 ≤ (M.1 t 5).toInt ∧ (M.1 t 5).toInt ≤ 4095)
/-- the half tables hold the weights of the halves' sets -/
def TBt (M : gM) (t : Nat) : Prop := ∀ s, s < 64 → (M.1 (t + 9) s).toInt = wsum (wtF M t) 6 s ∧ (M.1 (t + 10) s).toInt = wsum (fun i => wtF M t (6 + i)) 6 s
def TB (M : gM) (t : Nat) : Prop := TB0 M t ∧ (∀ p, p < 6 → TB1 M t p) ∧ (∀ i, i < 12 → TB2 M t i) ∧ TBt M t
theorem wt_rng {M : gM} {t s : Nat} (h : TB M t) : 0 ≤ wt M t s ∧ wt M t s ≤ 1188 := by
  have := wsum_le (w := wtF M t) (B := 99) (n := 12) (s := s) (fun i hi => (h.2.2.1 i hi).1) (by omega)
  simp only [wt]; omega
def lgt (M : gM) (t p : Nat) : Int := if (1 : Int) < (M.1 (t + 4) p).toInt - (M.1 t 3).toInt then (M.1 (t + 4) p).toInt - (M.1 t 3).toInt else 1
def hvy (M : gM) (t p : Nat) : Int := (M.1 (t + 4) p).toInt + (M.1 t 3).toInt
def has (M : gM) (t p : Nat) : Nat := bn (M.1 (t + 6) p)
def fstP (P : Nat → Bool) : Nat → Nat → Int
  | 0, _ => -1
  | n + 1, k => if P k then k else fstP P n (k + 1)
/-- who has thing i, or -1 -/
def hold (M : gM) (t i : Nat) : Int := fstP (fun p => (has M t p).testBit i) (M.1 t 0).toInt.toNat 0
def may (M : gM) (t p : Nat) : Prop := 0 < (M.1 (t + 4) p).toInt ∧ 1 < (M.1 t 0).toInt
def sandOf (M : gM) (t p s : Nat) : Int := if (0 : Int) < lgt M t p - wt M t s then lgt M t p - wt M t s else 0
def stp (o s : Nat) : Nat := ((s ||| (o ^^^ 4294967295)) + 1) % 4294967296 &&& o
def waitsP (M : gM) (t p : Nat) : Prop := (M.1 (t + 1) p).toInt = 4 ∧ (M.1 t 4).toInt < (M.1 (t + 2) p).toInt
