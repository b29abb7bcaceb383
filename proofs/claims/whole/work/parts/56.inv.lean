/-! what stays true of a town's value over gifts -/
def own (T : gTw) : Prop := ∀ q : Nat, (q : Int) < T 0 0 → ¬ T 5 q = -1 → T 5 q < T 0 0 ∧ ¬ T 5 q = (q : Int)
def INV (T : gTw) : Prop := TOK T ∧ sumT T ≤ 600 ∧ own T
theorem INV.gift {T : gTw} {g s k : Nat} {n : Int} (h : INV T) (hc : canG T g s n k) : INV (giftT T g s n k) := by
  obtain ⟨h1, h2, h3⟩ := h
  refine ⟨TOK.gift h1 h2 hc, by rw [gift_sum hc]; exact h2, fun q hq hne => ?_⟩
  obtain ⟨c1, c2, c3, -, -, -⟩ := hc
  have e00 : giftT T g s n k 0 0 = T 0 0 := gift_o (by omega)
  rw [e00] at hq ⊢
  rw [gift_5] at hne ⊢
  by_cases hk : q = k
  · rw [if_pos hk] at hne ⊢
    by_cases hl : T 0 2 = 0
    · rw [if_pos hl] at hne ⊢; omega
    · rw [if_neg hl] at hne; omega
  · rw [if_neg hk] at hne ⊢
    by_cases hg : q = g
    · rw [if_pos hg] at hne; omega
    · rw [if_neg hg] at hne ⊢; exact h3 q hq hne
/-- the town behind p's chosen gift of the set n -/
def choT (T : gTw) (p n : Nat) : gTw := giftT T p n (sandT T p n) (takerT T p).toNat
theorem INV.cho {T : gTw} {p n : Nat} (h : INV T) (hp : (p : Int) < T 0 0) (hc : chosenT T p (n : Int)) : INV (choT T p n) := INV.gift h (chosenT_can h.1 hp hc h.2.2).1
theorem CR.gift {T : gTw} {M : gM} {g s k : Nat} {n : Int} (h : CR T M) : CR (giftT T g s n k) M := by
  obtain ⟨a, b, c, d, e, f⟩ := h
  refine ⟨?_, ?_, ?_, ?_, fun p hp => ?_, fun i hi => ?_⟩
  · rw [gift_o (by omega)]; exact a
  · rw [gift_o (by omega)]; exact b
  · rw [gift_o (by omega)]; exact c
  · rw [gift_o (by omega)]; exact d
  · rw [gift_o (by omega)] at hp
    rw [gift_o (by omega), gift_o (by omega)]; exact e p hp
  · rw [gift_o (by omega)] at hi
    rw [gift_o (by omega)]; exact f i hi
theorem WR.gift {T : gTw} {M : gM} {g s k : Nat} {n : Int} (h : WR T M) : WR (giftT T g s n k) M := fun i hi => by
  rw [gift_o (by omega)] at hi
  rw [gift_o (by omega)]; exact h i hi
/-- memory that differs in row 442 alone -/
def fr (a : Nat) (M M' : gM) : Prop := (∀ j, j ≠ a → M'.1 j = M.1 j) ∧ M'.2 = M.2
theorem CR.fr {T : gTw} {a : Nat} {M M' : gM} (h : CR T M) (hf : fr a M M') (ha : a ≠ 402 ∧ a ≠ 403 ∧ a ≠ 404 ∧ a ≠ 405) : CR T M' := by
  unfold CR at h ⊢
  rw [hf.1 402 (by omega), hf.1 403 (by omega), hf.1 404 (by omega), hf.1 405 (by omega)]
  exact h
theorem WR.fr {T : gTw} {a : Nat} {M M' : gM} (h : WR T M) (hf : fr a M M') (ha : a ≠ 409) : WR T M' := by
  unfold WR at h ⊢
  rw [hf.1 409 (by omega)]
  exact h
theorem chosen_neg {T : gTw} {p : Nat} {z : Int} (h : chosenT T p z) : -1 ≤ z ∧ z < 4096 ∨ 4095 < hasT T p := by
  rcases h with ⟨rfl, -⟩ | ⟨n, rfl, h1, -⟩
  · exact Or.inl (by omega)
  · have := sub_le h1.1.2.1
    omega
/-- k gifts sent round from p: the town, and who has it last -/
def rdP (T0 : gTw) (p : Nat) : Nat → gTw → Nat → Prop
  | 0, T, w => T = T0 ∧ w = p
  | k + 1, T', w' => ∃ (T : gTw) (w n : Nat), rdP T0 p k T w ∧ (k = 0 ∨ w ≠ p) ∧ chosenT T w (n : Int) ∧ T' = choT T w n ∧ w' = (takerT T w).toNat
def rdE (p k : Nat) (T : gTw) (w : Nat) : Prop := k = 20 ∨ (0 < k ∧ w = p) ∨ chosenT T w (-1)
theorem rdP_inv {T0 : gTw} {p : Nat} (h0 : INV T0) (hp : (p : Int) < T0 0 0) : ∀ (k : Nat) (T : gTw) (w : Nat), rdP T0 p k T w → INV T ∧ (w : Int) < T 0 0 ∧ (∀ f i, f ≠ 3 → f ≠ 4 → f ≠ 5 → f ≠ 6 → T f i = T0 f i) := by
  intro k
  induction k with
  | zero => rintro T w ⟨rfl, rfl⟩; exact ⟨h0, hp, fun _ _ _ _ _ _ => rfl⟩
  | succ k ih =>
    rintro T' w' ⟨T, w, n, h1, -, h3, rfl, rfl⟩
    obtain ⟨i1, i2, i3⟩ := ih T w h1
    obtain ⟨-, t1, t2⟩ := chosenT_can i1.1 i2 h3 i1.2.2
    refine ⟨INV.cho i1 i2 h3, ?_, fun f i a b c d => ?_⟩
    · rw [choT, gift_o (by omega)]; omega
    · rw [choT, gift_o ⟨a, b, c, d⟩]; exact i3 f i a b c d
