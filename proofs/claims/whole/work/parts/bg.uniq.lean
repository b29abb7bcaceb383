/-! what is told is one -/
theorem rdP_uniq {T0 : gTw} {p : Nat} : ∀ (k : Nat) {T T' : gTw} {w w' : Nat}, rdP T0 p k T w → rdP T0 p k T' w' → T = T' ∧ w = w' := by
  intro k
  induction k with
  | zero => intro T T' w w' h h'; exact ⟨h.1.trans h'.1.symm, h.2.trans h'.2.symm⟩
  | succ k ih =>
    intro T T' w w' h h'
    obtain ⟨T1, w1, n1, a1, -, a3, a4, a5⟩ := h
    obtain ⟨T2, w2, n2, b1, -, b3, b4, b5⟩ := h'
    obtain ⟨rfl, rfl⟩ := ih a1 b1
    have := CH_uniq a3 b3
    have e : n1 = n2 := by omega
    subst e
    exact ⟨a4.trans b4.symm, a5.trans b5.symm⟩
theorem rdP_at {T0 : gTw} {p : Nat} : ∀ (k' : Nat) {T' : gTw} {w' : Nat}, rdP T0 p k' T' w' → ∀ k, k < k' → ∃ (T : gTw) (w n : Nat), rdP T0 p k T w ∧ (k = 0 ∨ w ≠ p) ∧ chosenT T w (n : Int) := by
  intro k'
  induction k' with
  | zero => intro T' w' h k hk; omega
  | succ k' ih =>
    intro T' w' h k hk
    obtain ⟨T1, w1, n1, a1, a2, a3, -⟩ := h
    by_cases e : k = k'
    · subst e; exact ⟨T1, w1, n1, a1, a2, a3⟩
    · exact ih a1 k (by omega)
theorem rd_no {T0 : gTw} {p k k' : Nat} {T T' : gTw} {w w' : Nat} (h : rdP T0 p k T w) (he : rdE p k T w) (h' : rdP T0 p k' T' w') (hk' : k' ≤ 20) : ¬ k < k' := fun hl => by
  obtain ⟨T1, w1, n1, a1, a2, a3⟩ := rdP_at k' h' k hl
  obtain ⟨rfl, rfl⟩ := rdP_uniq k h a1
  rcases he with e | ⟨e1, e2⟩ | e
  · omega
  · rcases a2 with a | a
    · omega
    · exact a e2
  · have := CH_uniq e a3; omega
theorem rd_uniq {T0 : gTw} {p k k' : Nat} {T T' : gTw} {w w' : Nat} (h : rdP T0 p k T w) (he : rdE p k T w) (hk : k ≤ 20) (h' : rdP T0 p k' T' w') (he' : rdE p k' T' w') (hk' : k' ≤ 20) : k = k' ∧ T = T' ∧ w = w' := by
  have a := rd_no h he h' hk'
  have b := rd_no h' he' h hk
  have e : k = k' := by omega
  subst e
  exact ⟨rfl, rdP_uniq k h h'⟩
theorem psP_uniq {T0 : gTw} : ∀ (p : Nat) {T T' : gTw} {b b' : Prop}, psP T0 p T b → psP T0 p T' b' → T = T' ∧ (b ↔ b') := by
  intro p
  induction p with
  | zero => intro T T' b b' h h'; exact ⟨h.1.trans h'.1.symm, h.2.trans h'.2.symm⟩
  | succ p ih =>
    intro T T' b b' h h'
    obtain ⟨T1, c1, a1, a2⟩ := h
    obtain ⟨T2, c2, d1, d2⟩ := h'
    obtain ⟨rfl, hb⟩ := ih a1 d1
    rcases a2 with ⟨u1, u2, u3⟩ | ⟨n, u1, u2, u3⟩ <;> rcases d2 with ⟨v1, v2, v3⟩ | ⟨m, v1, v2, v3⟩
    · exact ⟨u2.trans v2.symm, u3.trans (hb.trans v3.symm)⟩
    · have := CH_uniq u1 v1; omega
    · have := CH_uniq u1 v1; omega
    · have := CH_uniq u1 v1
      have e : n = m := by omega
      subst e
      exact ⟨u2.trans v2.symm, u3.trans v3.symm⟩
theorem stP_uniq {T0 : gTw} : ∀ (k : Nat) {T T' : gTw}, stP T0 k T → stP T0 k T' → T = T' := by
  intro k
  induction k with
  | zero => intro T T' h h'; exact Eq.trans h h'.symm
  | succ k ih =>
    intro T T' h h'
    obtain ⟨T1, T2, b, a1, a2, -, a4⟩ := h
    obtain ⟨U1, U2, c, d1, d2, -, d4⟩ := h'
    have e := ih a1 d1
    subst e
    obtain ⟨e2, -⟩ := psP_uniq _ a2 d2
    subst e2
    exact a4.trans d4.symm
theorem stP_at {T0 : gTw} : ∀ (k' : Nat) {T' : gTw}, stP T0 k' T' → ∀ k, k < k' → ∃ (T T1 : gTw) (b : Prop), stP T0 k T ∧ psP T (T 0 0).toNat T1 b ∧ ¬ (¬ b ∧ quiet T1) := by
  intro k'
  induction k' with
  | zero => intro T' h k hk; omega
  | succ k' ih =>
    intro T' h k hk
    obtain ⟨T1, T2, b, a1, a2, a3, -⟩ := h
    by_cases e : k = k'
    · subst e; exact ⟨T1, T2, b, a1, a2, a3⟩
    · exact ih a1 k (by omega)
theorem st_no {T0 : gTw} {k k' : Nat} {T1 T2 T' : gTw} {b : Prop} (h : stP T0 k T1) (h2 : psP T1 (T1 0 0).toNat T2 b) (hb : ¬ b) (hq : quiet T2) (h' : stP T0 k' T') : ¬ k < k' := fun hl => by
  obtain ⟨U1, U2, c, a1, a2, a3⟩ := stP_at k' h' k hl
  have e := stP_uniq k h a1
  subst e
  obtain ⟨e2, e3⟩ := psP_uniq _ h2 a2
  subst e2
  exact a3 ⟨fun q => hb (e3.mpr q), hq⟩
theorem stillZ_uniq {T : gTw} {z z' : Int} (h : stillZ T z) (h' : stillZ T z') : z = z' := by
  rcases h with ⟨k, T1, T2, b, a1, a2, a3, a4, a5, a6⟩ | ⟨T1, a1, a2⟩ <;> rcases h' with ⟨k', U1, U2, c, c1, c2, c3, c4, c5, c6⟩ | ⟨U1, c1, c2⟩
  · have n1 := st_no a2 a3 a4 a5 c2
    have n2 := st_no c2 c3 c4 c5 a2
    have e : k = k' := by omega
    subst e
    have e2 := stP_uniq k a2 c2
    rw [a6, c6, e2]
  · exact absurd a1 (st_no a2 a3 a4 a5 c1)
  · exact absurd c1 (st_no c2 c3 c4 c5 a1)
  · rw [a2, c2]
/-- the gap, both ways -/
theorem gap_same {T : gTw} {p : Nat} {y y' : Int} (hw : ∀ u, 0 ≤ wtT T u) (hs : 0 ≤ T 3 p ∧ T 3 p < 1000) (ho : 0 < T 4 p) (h3 : 0 ≤ T 0 3) (hu : ∀ u, sub u (hasT T p) → u < 2 ^ (T 0 1).toNat) (h : nearT T p y) (h' : nearP (gpP T p (2 ^ (T 0 1).toNat * 1000)) (gpPos T) (gpOff T p) y') : (if y = -1 then T 4 p else if 0 < y - T 0 3 then y - T 0 3 else 0) = if y' = -1 then T 4 p else y' := by
  have enc : ∀ (u m : Nat), m < 1000 → (u * 1000 + m) / 1000 = u ∧ (u * 1000 + m) % 1000 = m := fun u m hm => by omega
  have inP : ∀ (u m : Nat), sub u (hasT T p) → ((m : Nat) : Int) ≤ T 3 p → gpP T p (2 ^ (T 0 1).toNat * 1000) (u * 1000 + m) := fun u m h1 h2 => by
    obtain ⟨e1, e2⟩ := enc u m (by omega)
    unfold gpP
    rw [e1, e2]
    have := hu u h1
    refine ⟨h1, h2, ?_⟩
    have h9 : (u + 1) * 1000 ≤ 2 ^ (T 0 1).toNat * 1000 := Nat.mul_le_mul_right _ this
    omega
  have low : ∀ c, gpP T p (2 ^ (T 0 1).toNat * 1000) c → gpPos T c → posT T p (c / 1000) ∧ (if 0 < offT T p (c / 1000) - T 0 3 then offT T p (c / 1000) - T 0 3 else 0) ≤ gpOff T p c := fun c h1 h2 => by
    obtain ⟨-, h1, -⟩ := h1
    unfold gpPos at h2
    refine ⟨by unfold posT; omega, ?_⟩
    unfold gpOff offT mx
    repeat' split
    all_goals omega
  have opt : ∀ u, sub u (hasT T p) → posT T p u → ∃ m : Nat, ((m : Nat) : Int) ≤ T 3 p ∧ gpPos T (u * 1000 + m) ∧ gpOff T p (u * 1000 + m) = if 0 < offT T p u - T 0 3 then offT T p u - T 0 3 else 0 := fun u h1 h2 => by
    unfold posT at h2
    have hwu := hw u
    by_cases c1 : T 4 p < wtT T u
    · refine ⟨0, by omega, ?_, ?_⟩
      · unfold gpPos; rw [(enc u 0 (by omega)).1, (enc u 0 (by omega)).2]; omega
      · unfold gpOff offT mx; rw [(enc u 0 (by omega)).1, (enc u 0 (by omega)).2]
        repeat' split
        all_goals omega
    · by_cases c2 : wtT T u + T 3 p < T 4 p
      · obtain ⟨e1, e2⟩ := enc u (T 3 p).toNat (by omega)
        refine ⟨(T 3 p).toNat, by omega, ?_, ?_⟩
        · unfold gpPos; rw [e1, e2]; omega
        · unfold gpOff offT mx; rw [e1, e2]
          repeat' split
          all_goals omega
      · obtain ⟨e1, e2⟩ := enc u (T 4 p - wtT T u).toNat (by omega)
        refine ⟨(T 4 p - wtT T u).toNat, by omega, ?_, ?_⟩
        · unfold gpPos; rw [e1, e2]; omega
        · unfold gpOff offT mx; rw [e1, e2]
          repeat' split
          all_goals omega
  have off0 : ∀ u, 0 ≤ offT T p u := fun u => by unfold offT mx; repeat' split
                                                 all_goals omega
  have gp0 : ∀ c, 0 ≤ gpOff T p c := fun c => by unfold gpOff mx; repeat' split
                                                 all_goals omega
  rcases h with ⟨a1, a2⟩ | ⟨u, a1, a2, a3, a4⟩ <;> rcases h' with ⟨b1, b2⟩ | ⟨c, b1, b2, b3, b4⟩
  · rw [if_pos a1, if_pos b1]
  · exact absurd (low c b1 b2).1 (a2 _ b1.1)
  · obtain ⟨m, m1, m2, -⟩ := opt u a1 a2
    exact absurd m2 (b2 _ (inP u m a1 m1))
  · have h1 := off0 u
    have h2 := gp0 c
    rw [if_neg (show ¬ y = -1 by omega), if_neg (show ¬ y' = -1 by omega)]
    obtain ⟨m, m1, m2, m3⟩ := opt u a1 a2
    have k1 := b4 _ (inP u m a1 m1) m2
    rw [m3] at k1
    obtain ⟨l1, l2⟩ := low c b1 b2
    have k2 := a4 _ b1.1 l1
    rw [a3, b3]
    by_cases q1 : 0 < offT T p u - T 0 3
    · rw [if_pos q1] at k1 ⊢
      rw [if_pos (by omega)] at l2
      omega
    · rw [if_neg q1] at k1 ⊢
      omega
