/-! a gift taken back, as a step between values; the book's rows can be taken back all the way down -/
def unT (T : gTw) (r : Nat → Int) : gTw := upT (upT (upT (upT (handT T (r 3).toNat (r 1).toNat (r 2) (r 0).toNat) 4 (r 0).toNat (r 5)) 5 (r 0).toNat (r 6)) 4 (r 3).toNat (r 7)) 5 (r 3).toNat (r 8)
def unOK (T : gTw) (r : Nat → Int) : Prop := 0 ≤ r 0 ∧ 0 ≤ r 1 ∧ 0 ≤ r 3 ∧ canG T (r 3).toNat (r 1).toNat (r 2) (r 0).toNat ∧ (0 ≤ r 5 ∧ r 5 ≤ 2000) ∧ (-1 ≤ r 6 ∧ (¬ r 6 = -1 → r 6 < T 0 0 ∧ ¬ r 6 = r 0)) ∧ (0 ≤ r 7 ∧ r 7 ≤ 2000) ∧ (-1 ≤ r 8 ∧ (¬ r 8 = -1 → r 8 < T 0 0 ∧ ¬ r 8 = r 3))
theorem hand_congr {A B : gTw} {g s k f i : Nat} {n : Int} (h6 : ∀ q, A 6 q = B 6 q) (h3 : ∀ q, A 3 q = B 3 q) (hf : A f i = B f i) : handT A g s n k f i = handT B g s n k f i := by
  simp only [handT, upT, hasT]
  rw [h6, h6, h3, h3, hf]
theorem un_h {T : gTw} {r : Nat → Int} {f i : Nat} (h4 : f ≠ 4) (h5 : f ≠ 5) : unT T r f i = handT T (r 3).toNat (r 1).toNat (r 2) (r 0).toNat f i := by
  rw [unT, upT_ne (by omega), upT_ne (by omega), upT_ne (by omega), upT_ne (by omega)]
theorem un_o {T : gTw} {r : Nat → Int} {f i : Nat} (h : f ≠ 3 ∧ f ≠ 4 ∧ f ≠ 5 ∧ f ≠ 6) : unT T r f i = T f i := by
  rw [un_h (by omega) (by omega), hand_o (by omega) (by omega)]
theorem un_4 {T : gTw} {r : Nat → Int} {i : Nat} : unT T r 4 i = if i = (r 3).toNat then r 7 else if i = (r 0).toNat then r 5 else T 4 i := by
  rw [unT, upT_ne (by omega)]
  by_cases h1 : i = (r 3).toNat
  · rw [if_pos h1, h1, upT_eq]
  · rw [if_neg h1, upT_ne (by omega), upT_ne (by omega)]
    by_cases h2 : i = (r 0).toNat
    · rw [if_pos h2, h2, upT_eq]
    · rw [if_neg h2, upT_ne (by omega), hand_o (by omega) (by omega)]
theorem un_5 {T : gTw} {r : Nat → Int} {i : Nat} : unT T r 5 i = if i = (r 3).toNat then r 8 else if i = (r 0).toNat then r 6 else T 5 i := by
  rw [unT]
  by_cases h1 : i = (r 3).toNat
  · rw [if_pos h1, h1, upT_eq]
  · rw [if_neg h1, upT_ne (by omega), upT_ne (by omega)]
    by_cases h2 : i = (r 0).toNat
    · rw [if_pos h2, h2, upT_eq]
    · rw [if_neg h2, upT_ne (by omega), upT_ne (by omega), hand_o (by omega) (by omega)]
theorem INV.un {T : gTw} {r : Nat → Int} (h : INV T) (hr : unOK T r) : INV (unT T r) := by
  obtain ⟨r0, r1, r3, hc, r5, r6, r7, r8⟩ := hr
  obtain ⟨h1, h2, h3⟩ := INV.hand h hc
  obtain ⟨o1, o2, o3, o4, o5, o6, o7, o8⟩ := h1
  have b00 := h.1.1
  have hp := hc.2.1
  have hk := hc.1
  have e00 : handT T (r 3).toNat (r 1).toNat (r 2) (r 0).toNat 0 0 = T 0 0 := hand_o (by decide) (by decide)
  have u00 : unT T r 0 0 = T 0 0 := un_o (by decide)
  refine ⟨⟨?_, ?_, ?_, ?_, ?_, ?_, fun p hp => ?_, fun i hi => ?_⟩, ?_, fun q hq hne => ?_⟩
  · rw [un_h (by decide) (by decide)]; exact o1
  · rw [un_h (by decide) (by decide)]; exact o2
  · rw [un_h (by decide) (by decide)]; exact o3
  · rw [un_h (by decide) (by decide)]; exact o4
  · rw [un_h (by decide) (by decide)]; exact o5
  · rw [un_h (by decide) (by decide)]; exact o6
  · obtain ⟨a, b, c, d, e, f, g⟩ := o7 p hp
    rw [hand_o (by decide) (by decide)] at d e
    refine ⟨?_, ?_, ?_, ?_, ?_, ?_, ?_⟩
    · rw [un_h (by decide) (by decide)]; exact a
    · rw [un_h (by decide) (by decide)]; exact b
    · rw [un_h (by decide) (by decide)]; exact c
    · rw [un_4]
      split
      · exact r7
      · split
        · exact r5
        · exact d
    · rw [un_5]
      split
      · by_cases q : r 8 = -1
        · omega
        · have := r8.2 q; omega
      · split
        · by_cases q : r 6 = -1
          · omega
          · have := r6.2 q; omega
        · exact e
    · rw [un_h (by decide) (by decide)]; exact f
    · rw [un_h (by decide) (by decide), un_h (by decide) (by decide)]; exact g
  · rw [un_h (by decide) (by decide), un_h (by decide) (by decide)]; exact o8 i hi
  · rw [sumT] at h2 ⊢
    rw [u00]
    rw [e00] at h2
    have e : unT T r 3 = handT T (r 3).toNat (r 1).toNat (r 2) (r 0).toNat 3 := funext fun i => un_h (by decide) (by decide)
    rw [e]; exact h2
  · rw [u00] at hq ⊢
    rw [un_5] at hne ⊢
    by_cases q1 : q = (r 3).toNat
    · rw [if_pos q1] at hne ⊢
      have := r8.2 hne
      omega
    · rw [if_neg q1] at hne ⊢
      by_cases q2 : q = (r 0).toNat
      · rw [if_pos q2] at hne ⊢
        have := r6.2 hne
        omega
      · rw [if_neg q2] at hne ⊢
        exact h.2.2 q hq hne
theorem RW.un {T : gTw} {r : Nat → Int} {row : Nat → Int32} {n pI b5 b6 b7 b8 : Int32} (hI : INV T) (hr : RW T row) (ho : unOK T r) (hn : n.toInt = r 2) (hp : pI.toInt = r 0) (h5 : b5.toInt = r 5) (h6 : b6.toInt = r 6) (h7 : b7.toInt = r 7) (h8 : b8.toInt = r 8) : RW (unT T r) (unRow row (T 0 1).toNat (r 0).toNat (r 1).toNat (r 3).toNat n pI b5 b6 b7 b8) := by
  obtain ⟨r0, r1, r3, hc, -, -, -, -⟩ := ho
  rw [← hn] at hc
  have hh := RW.hand (oI := pI) hI hr hc (by omega)
  have c1 := hc.1
  have c2 := hc.2.1
  have c3 := hc.2.2.1
  have b00 := hI.1.1
  have b01 := hI.1.2.1
  have er : unRow row (T 0 1).toNat (r 0).toNat (r 1).toNat (r 3).toNat n pI b5 b6 b7 b8 = up1 (up1 (up1 (up1 (hdRow row (T 0 1).toNat (r 3).toNat (r 1).toNat (r 0).toNat n pI) (18 + (r 0).toNat) b5) (24 + (r 0).toNat) b6) (18 + (r 3).toNat) b7) (24 + (r 3).toNat) b8 := by
    rw [unRow]
    have : up1 (up1 (mk0 row (r 1).toNat pI (T 0 1).toNat) (12 + (r 0).toNat) (mk0 row (r 1).toNat pI (T 0 1).toNat (12 + (r 0).toNat) + n)) (12 + (r 3).toNat) (up1 (mk0 row (r 1).toNat pI (T 0 1).toNat) (12 + (r 0).toNat) (mk0 row (r 1).toNat pI (T 0 1).toNat (12 + (r 0).toNat) + n) (12 + (r 3).toNat) - n) = hdRow row (T 0 1).toNat (r 3).toNat (r 1).toNat (r 0).toNat n pI := by
      rw [hdRow, up1_ne (r := mk0 row (r 1).toNat pI (T 0 1).toNat) (by omega), up1_ne (r := mk0 row (r 1).toNat pI (T 0 1).toNat) (by omega)]
      funext j
      by_cases a : j = 12 + (r 3).toNat
      · rw [a, up1_eq, up1_ne (by omega), up1_eq]
      · rw [up1_ne a]
        by_cases b : j = 12 + (r 0).toNat
        · rw [b, up1_eq, up1_eq]
        · rw [up1_ne b, up1_ne b, up1_ne a]
    show up1 (up1 (up1 (up1 (up1 (up1 (mk0 row (r 1).toNat pI (T 0 1).toNat) (12 + (r 0).toNat) _) (12 + (r 3).toNat) _) _ _) _ _) _ _) _ _ = _
    rw [this]
  rw [er]
  have e0 : handT T (r 3).toNat (r 1).toNat n.toInt (r 0).toNat 0 0 = T 0 0 := hand_o (by decide) (by decide)
  have e1 : handT T (r 3).toNat (r 1).toNat n.toInt (r 0).toNat 0 1 = T 0 1 := hand_o (by decide) (by decide)
  refine ⟨fun q hq => ?_, fun i hi => ?_⟩
  · rw [un_o (by decide)] at hq
    obtain ⟨a, b, c, d⟩ := hh.1 q (by rw [e0]; exact hq)
    rw [hand_o (by decide) (by decide)] at b c
    refine ⟨?_, ?_, ?_, fun i => ?_⟩
    · rw [up1_ne (by omega), up1_ne (by omega), up1_ne (by omega), up1_ne (by omega), un_h (by decide) (by decide), ← hn]; exact a
    · rw [un_4, up1_ne (by omega)]
      by_cases q1 : q = (r 3).toNat
      · rw [if_pos q1, q1, up1_eq]; exact h7
      · rw [if_neg q1, up1_ne (by omega), up1_ne (by omega)]
        by_cases q2 : q = (r 0).toNat
        · rw [if_pos q2, q2, up1_eq]; exact h5
        · rw [if_neg q2, up1_ne (by omega)]; exact b
    · rw [un_5]
      by_cases q1 : q = (r 3).toNat
      · rw [if_pos q1, q1, up1_eq]; exact h8
      · rw [if_neg q1, up1_ne (by omega), up1_ne (by omega)]
        by_cases q2 : q = (r 0).toNat
        · rw [if_pos q2, q2, up1_eq]; exact h6
        · rw [if_neg q2, up1_ne (by omega), up1_ne (by omega)]; exact c
    · have hhs : hasT (unT T r) q = hasT (handT T (r 3).toNat (r 1).toNat n.toInt (r 0).toNat) q := by rw [hasT, hasT, un_h (by decide) (by decide), hn]
      rw [hhs, d i, e1, un_o (by decide)]
      by_cases hi : (i : Int) < T 0 1
      · rw [up1_ne (by omega), up1_ne (by omega), up1_ne (by omega), up1_ne (by omega)]
      · exact ⟨fun h => absurd h.1 hi, fun h => absurd h.1 hi⟩
  · rw [un_o (by decide)] at hi
    rw [un_o (by decide), up1_ne (by omega), up1_ne (by omega), up1_ne (by omega), up1_ne (by omega)]
    have := hh.2 i (by rw [e1]; exact hi)
    rw [e0] at this
    exact this
theorem bkT_0 {T : gTw} {p s k : Nat} {n : Int} : (bkT T p s n k 0).toNat = p ∧ (bkT T p s n k 1).toNat = s ∧ bkT T p s n k 2 = n ∧ (bkT T p s n k 3).toNat = k ∧ bkT T p s n k 5 = T 4 p ∧ bkT T p s n k 6 = T 5 p ∧ bkT T p s n k 7 = T 4 k ∧ bkT T p s n k 8 = T 5 k ∧ bkT T p s n k 0 = (p : Int) ∧ bkT T p s n k 1 = (s : Int) ∧ bkT T p s n k 3 = (k : Int) := by
  simp [bkT]
theorem un_gift {T : gTw} {row : Nat → Int32} {p s k : Nat} {n : Int} (hI : INV T) (hr : RW T row) (hc : canG T p s n k) : unT (giftT T p s n k) (bkT T p s n k) = T ∧ unOK (giftT T p s n k) (bkT T p s n k) := by
  obtain ⟨a0, a1, a2, a3, a5, a6, a7, a8, d0, d1, d3⟩ := bkT_0 (T := T) (p := p) (s := s) (k := k) (n := n)
  have hb := hand_back hI hr hc
  obtain ⟨c1, c2, c3, c4, c5, c6⟩ := id hc
  have b00 := hI.1.1
  have bp := hI.1.2.2.2.2.2.2.1 p (by omega)
  have bk := hI.1.2.2.2.2.2.2.1 k (by omega)
  have g00 : giftT T p s n k 0 0 = T 0 0 := gift_o (by decide)
  have h36 : ∀ f i, f ≠ 4 → f ≠ 5 → handT (giftT T p s n k) k s n p f i = handT (handT T p s n k) k s n p f i := fun f i q4 q5 => by
    have e : ∀ f i, f ≠ 4 → f ≠ 5 → giftT T p s n k f i = handT T p s n k f i := fun f i q4 q5 => (hand_g q4 q5).symm
    exact hand_congr (fun q => e 6 q (by decide) (by decide)) (fun q => e 3 q (by decide) (by decide)) (e f i q4 q5)
  refine ⟨?_, ?_⟩
  · funext f i
    by_cases q4 : f = 4
    · rw [q4, un_4, a0, a3, a5, a7, gift_4]
      by_cases q1 : i = k
      · rw [if_pos q1, q1]
      · rw [if_neg q1]
        by_cases q2 : i = p
        · rw [if_pos q2, q2]
        · rw [if_neg q2, if_neg q1, if_neg q2]
    · by_cases q5 : f = 5
      · rw [q5, un_5, a0, a3, a6, a8, gift_5]
        by_cases q1 : i = k
        · rw [if_pos q1, q1]
        · rw [if_neg q1]
          by_cases q2 : i = p
          · rw [if_pos q2, q2]
          · rw [if_neg q2, if_neg q1, if_neg q2]
      · rw [un_h q4 q5, a0, a1, a2, a3, h36 f i q4 q5, hb]
  · unfold unOK
    rw [a0, a1, a2, a3, a5, a6, a7, a8, d0, d1, d3, g00]
    refine ⟨by omega, by omega, by omega, ⟨by rw [g00]; omega, by rw [g00]; omega, fun e => c3 e.symm, ?_, c5, ?_⟩, bp.2.2.2.1, ⟨bp.2.2.2.2.1.1, fun q => hI.2.2 p c1 q⟩, bk.2.2.2.1, ⟨bk.2.2.2.2.1.1, fun q => hI.2.2 k c2 q⟩⟩
    · intro i hi
      rw [gift_has c3, if_pos rfl, Nat.testBit_or, hi]; simp
    · rw [gift_3 c3, if_pos rfl]; omega
theorem unOK.same {T T' : gTw} {r : Nat → Int} (h : unOK T r) (e0 : T' 0 0 = T 0 0) (e3 : ∀ i, T' 3 i = T 3 i) (e6 : ∀ i, T' 6 i = T 6 i) : unOK T' r := by
  unfold unOK canG hasT at h ⊢
  rw [e0, e3, e6]; exact h
theorem un_day {T : gTw} {r : Nat → Int} : unT (dayT T) r = dayT (unT T r) := by
  have e : ∀ f i, f ≠ 7 → ¬ (f = 0 ∧ i = 4) → dayT T f i = T f i := fun f i a b => by rw [dayT, upT_ne b, dryT, if_neg a]
  have e' : ∀ f i, f ≠ 7 → ¬ (f = 0 ∧ i = 4) → dayT (unT T r) f i = unT T r f i := fun f i a b => by rw [dayT, upT_ne b, dryT, if_neg a]
  funext f i
  by_cases q4 : f = 4
  · rw [q4, un_4, e' 4 i (by decide) (by omega), un_4, e 4 i (by decide) (by omega)]
  · by_cases q5 : f = 5
    · rw [q5, un_5, e' 5 i (by decide) (by omega), un_5, e 5 i (by decide) (by omega)]
    · by_cases q36 : f = 3 ∨ f = 6
      · rw [e' f i (by omega) (by omega), un_h q4 q5, un_h q4 q5]
        exact hand_congr (fun q => e 6 q (by decide) (by omega)) (fun q => e 3 q (by decide) (by omega)) (e f i (by omega) (by omega))
      · rw [un_o (by omega)]
        by_cases q0 : f = 0 ∧ i = 4
        · rw [dayT, dayT, q0.1, q0.2, upT_eq, upT_eq, un_o (by decide)]
        · rw [dayT, dayT, upT_ne q0, upT_ne q0, dryT, dryT]
          by_cases q7 : f = 7
          · rw [if_pos q7, if_pos q7, dryV, dryV, un_o (by decide), un_o (by decide), un_o (by decide)]
          · rw [if_neg q7, if_neg q7, un_o (by omega)]
def HIST : Nat → gTw → (Nat → Nat → Int) → Prop
  | 0, _, _ => True
  | g + 1, T, B => unOK T (B g) ∧ HIST g (unT T (B g)) B
theorem HIST.ext {B B' : Nat → Nat → Int} : ∀ (g : Nat) (T : gTw), HIST g T B → (∀ i, i < g → B' i = B i) → HIST g T B' := by
  intro g
  induction g with
  | zero => intro T _ _; exact trivial
  | succ g ih =>
    intro T h e
    refine ⟨by rw [e g (by omega)]; exact h.1, ?_⟩
    rw [e g (by omega)]
    exact ih _ h.2 (fun i hi => e i (by omega))
theorem HIST.day {B : Nat → Nat → Int} : ∀ (g : Nat) (T : gTw), HIST g T B → HIST g (dayT T) B := by
  intro g
  induction g with
  | zero => intro T _; exact trivial
  | succ g ih =>
    intro T h
    refine ⟨unOK.same h.1 ?_ (fun i => ?_) (fun i => ?_), by rw [un_day]; exact ih _ h.2⟩
    · rw [dayT, upT_ne (by decide), dryT, if_neg (by decide)]
    · rw [dayT, upT_ne (by omega), dryT, if_neg (by decide)]
    · rw [dayT, upT_ne (by omega), dryT, if_neg (by decide)]
theorem HIST.give {S : gSt} {row : Nat → Int32} {p s k : Nat} {n : Int} (hI : INV S.1) (hr : RW S.1 row) (hc : canG S.1 p s n k) (h : HIST S.2.1 S.1 S.2.2) : HIST (gvS S p s n k).2.1 (gvS S p s n k).1 (gvS S p s n k).2.2 := by
  obtain ⟨u1, u2⟩ := un_gift hI hr hc
  show HIST (S.2.1 + 1) (giftT S.1 p s n k) (addB S.2.2 S.2.1 (bkT S.1 p s n k))
  have e : addB S.2.2 S.2.1 (bkT S.1 p s n k) S.2.1 = bkT S.1 p s n k := if_pos rfl
  refine ⟨by rw [e]; exact u2, ?_⟩
  rw [e, u1]
  exact HIST.ext _ _ h (fun i hi => if_neg (by omega))
