def RP (T : gTw) (M : gM) : Prop := (M.1 402 4).toInt = T 0 0 ∧ (M.1 402 5).toInt = T 0 1 ∧ (M.1 402 6).toInt = T 0 2 ∧ (M.1 402 7).toInt = T 0 3
  ∧ (∀ p : Nat, (p : Int) < T 0 0 → (M.1 403 (6 + p)).toInt = T 1 p ∧ (M.1 404 (6 + p)).toInt = T 2 p ∧ (M.1 408 (12 + p)).toInt = T 3 p ∧ (M.1 408 (18 + p)).toInt = T 4 p ∧ (M.1 408 (24 + p)).toInt = T 5 p)
  ∧ (∀ p : Nat, T 0 0 ≤ (p : Int) → p < 6 → (M.1 408 (18 + p)).toInt = 0 ∧ (M.1 408 (24 + p)).toInt = -1)
  ∧ (∀ i : Nat, (i : Int) < T 0 1 → (M.1 405 (12 + i)).toInt = T 8 i ∧ (M.1 410 i).toInt = T 7 i ∧ (M.1 411 (12 + i)).toInt = (if (T 0 5).toNat.testBit i then 1 else 0) ∧ 0 ≤ (M.1 408 i).toInt ∧ (M.1 408 i).toInt < T 0 0)
  ∧ ∀ p i : Nat, (p : Int) < T 0 0 → ((hasT T p).testBit i = true ↔ ((i : Int) < T 0 1 ∧ (M.1 408 i).toInt = (p : Int)))
def frP (M M' : gM) : Prop := (∀ j, j ≠ 300 → j ≠ 402 → j ≠ 403 → j ≠ 404 → j ≠ 405 → j ≠ 408 → j ≠ 410 → j ≠ 411 → M'.1 j = M.1 j) ∧ M'.2 = M.2 ∧ (∀ k, ¬ (15 ≤ k ∧ k ≤ 22 ∧ k ≠ 16) → M'.1 300 k = M.1 300 k) ∧ (∀ k, k < 4 → M'.1 402 k = M.1 402 k) ∧ (∀ k, k < 6 → M'.1 403 k = M.1 403 k ∧ M'.1 404 k = M.1 404 k) ∧ ∀ k, k < 12 → M'.1 405 k = M.1 405 k ∧ M'.1 411 k = M.1 411 k
theorem frP.rf {M : gM} : frP M M := ⟨fun _ _ _ _ _ _ _ _ _ => rfl, rfl, fun _ _ => rfl, fun _ _ => rfl, fun _ _ => ⟨rfl, rfl⟩, fun _ _ => ⟨rfl, rfl⟩⟩
theorem frP.tr {M M1 M2 : gM} (h : frP M M1) (h2 : frP M1 M2) : frP M M2 := ⟨fun j a b c d e f g i => by rw [h2.1 j a b c d e f g i, h.1 j a b c d e f g i], by rw [h2.2.1, h.2.1], fun k a => by rw [h2.2.2.1 k a, h.2.2.1 k a], fun k a => by rw [h2.2.2.2.1 k a, h.2.2.2.1 k a], fun k a => ⟨by rw [(h2.2.2.2.2.1 k a).1, (h.2.2.2.2.1 k a).1], by rw [(h2.2.2.2.2.1 k a).2, (h.2.2.2.2.1 k a).2]⟩, fun k a => ⟨by rw [(h2.2.2.2.2.2 k a).1, (h.2.2.2.2.2 k a).1], by rw [(h2.2.2.2.2.2 k a).2, (h.2.2.2.2.2 k a).2]⟩⟩
theorem frT.p {M M1 : gM} (h : frT M M1) : frP M M1 := ⟨fun j a _ _ _ _ _ _ _ => h.1 j a, h.2.1, h.2.2, fun k _ => by rw [h.1 402 (by decide)], fun k _ => ⟨by rw [h.1 403 (by decide)], by rw [h.1 404 (by decide)]⟩, fun k _ => ⟨by rw [h.1 405 (by decide)], by rw [h.1 411 (by decide)]⟩⟩
theorem frP.u {M : gM} {i k : Nat} {x : Int32} (h : (i = 402 ∧ 4 ≤ k) ∨ (i = 403 ∧ 6 ≤ k) ∨ (i = 404 ∧ 6 ≤ k) ∨ (i = 405 ∧ 12 ≤ k) ∨ i = 408 ∨ i = 410 ∨ (i = 411 ∧ 12 ≤ k)) : frP M (g_u M i k x) := by
  have hh : ∀ a b, ¬ (a = i ∧ b = k) → (g_u M i k x).1 a b = M.1 a b := fun a b q => by simp [g_u, q]
  refine ⟨fun j a b c d e f g r => g_u_ne (by omega), rfl, fun q a => hh _ _ (by omega), fun q a => hh _ _ (by omega), fun q a => ⟨hh _ _ (by omega), hh _ _ (by omega)⟩, fun q a => ⟨hh _ _ (by omega), hh _ _ (by omega)⟩⟩
theorem HTx.p {t : Nat → Int} {n : Nat} {M M' : gM} (h : HTx t n M) (hf : frP M M') : HTx t n M' := by
  obtain ⟨a, b, c, d⟩ := h
  exact ⟨by rw [hf.2.2.1 16 (by omega)]; exact a, b, c, fun k hk => by rw [hf.1 413 (by decide) (by decide) (by decide) (by decide) (by decide) (by decide) (by decide) (by decide)]; exact d k hk⟩
theorem RD.u {t : Nat → Int} {n : Nat} {ρ : (Int × Int) ⊕ Nat} {M : gM} {i k : Nat} {x : Int32} (h : RD t n ρ M) (hi : ¬ 300 = i) : RD t n ρ (g_u M i k x) := by
  have e : (g_u M i k x).1 300 = M.1 300 := g_u_ne hi
  unfold RD TKM at h ⊢
  rw [e]; exact h
theorem RP.t {T : gTw} {M M' : gM} (h : RP T M) (hf : frT M M') : RP T M' := by
  unfold RP at h ⊢
  rw [hf.1 402 (by decide), hf.1 403 (by decide), hf.1 404 (by decide), hf.1 405 (by decide), hf.1 408 (by decide), hf.1 410 (by decide), hf.1 411 (by decide)]
  exact h
theorem RP.ext {T : gTw} {M M' : gM} (hV : PIV T) (h : RP T M) (h402 : M'.1 402 = M.1 402) (h403 : ∀ p : Nat, (p : Int) < T 0 0 → M'.1 403 (6 + p) = M.1 403 (6 + p) ∧ M'.1 404 (6 + p) = M.1 404 (6 + p) ∧ M'.1 408 (12 + p) = M.1 408 (12 + p)) (h18 : ∀ p : Nat, p < 6 → M'.1 408 (18 + p) = M.1 408 (18 + p) ∧ M'.1 408 (24 + p) = M.1 408 (24 + p)) (h12 : ∀ i : Nat, (i : Int) < T 0 1 → M'.1 405 (12 + i) = M.1 405 (12 + i) ∧ M'.1 410 i = M.1 410 i ∧ M'.1 411 (12 + i) = M.1 411 (12 + i) ∧ M'.1 408 i = M.1 408 i) : RP T M' := by
  obtain ⟨a1, a2, a3, a4, a5, a6, a7, a8⟩ := h
  have b0 := hV.1.1
  refine ⟨by rw [h402]; exact a1, by rw [h402]; exact a2, by rw [h402]; exact a3, by rw [h402]; exact a4, fun p hp => ?_, fun p hp hp6 => ?_, fun i hi => ?_, fun p i hp => ?_⟩
  · rw [(h403 p hp).1, (h403 p hp).2.1, (h403 p hp).2.2, (h18 p (by omega)).1, (h18 p (by omega)).2]; exact a5 p hp
  · rw [(h18 p hp6).1, (h18 p hp6).2]; exact a6 p hp hp6
  · rw [(h12 i hi).1, (h12 i hi).2.1, (h12 i hi).2.2.1, (h12 i hi).2.2.2]; exact a7 i hi
  · rw [a8 p i hp]
    by_cases hi : (i : Int) < T 0 1
    · rw [(h12 i hi).2.2.2]
    · exact ⟨fun q => absurd q.1 hi, fun q => absurd q.1 hi⟩
theorem RP.one {T : gTw} {M : gM} {k g s : Int} {x : Int32} (hV : PIV T) (h : RP T M) (h6 : T 0 0 < 6) (h1 : (M.1 403 (6 + (T 0 0).toNat)).toInt = k) (h2 : (M.1 404 (6 + (T 0 0).toNat)).toInt = g) (h3 : (M.1 408 (12 + (T 0 0).toNat)).toInt = s) (hx : x.toInt = T 0 0 + 1) : RP (addPT T k g s) (g_u M 402 4 x) := by
  have e00 : addPT T k g s 0 0 = T 0 0 + 1 := by simp [addPT, upT]
  have e0 : ∀ i, i ≠ 0 → addPT T k g s 0 i = T 0 i := fun i hi => by simp [addPT, upT, hi]
  have e1 : ∀ i, addPT T k g s 1 i = if i = (T 0 0).toNat then k else T 1 i := fun i => by simp [addPT, upT]
  have e2 : ∀ i, addPT T k g s 2 i = if i = (T 0 0).toNat then g else T 2 i := fun i => by simp [addPT, upT]
  have e3 : ∀ i, addPT T k g s 3 i = if i = (T 0 0).toNat then s else T 3 i := fun i => by simp [addPT, upT]
  have e4 : ∀ i, addPT T k g s 4 i = if i = (T 0 0).toNat then 0 else T 4 i := fun i => by simp [addPT, upT]
  have e5 : ∀ i, addPT T k g s 5 i = if i = (T 0 0).toNat then -1 else T 5 i := fun i => by simp [addPT, upT]
  have e6 : ∀ i, addPT T k g s 6 i = if i = (T 0 0).toNat then 0 else T 6 i := fun i => by simp [addPT, upT]
  have e7 : ∀ i, addPT T k g s 7 i = T 7 i := fun i => by simp [addPT, upT]
  have e8 : ∀ i, addPT T k g s 8 i = T 8 i := fun i => by simp [addPT, upT]
  have b0 := hV.1.1
  obtain ⟨a1, a2, a3, a4, a5, a6, a7, a8⟩ := h
  have n3 : (g_u M 402 4 x).1 403 = M.1 403 := g_u_ne (by decide)
  have n4 : (g_u M 402 4 x).1 404 = M.1 404 := g_u_ne (by decide)
  have n5 : (g_u M 402 4 x).1 405 = M.1 405 := g_u_ne (by decide)
  have n8 : (g_u M 402 4 x).1 408 = M.1 408 := g_u_ne (by decide)
  have n10 : (g_u M 402 4 x).1 410 = M.1 410 := g_u_ne (by decide)
  have n11 : (g_u M 402 4 x).1 411 = M.1 411 := g_u_ne (by decide)
  unfold RP
  rw [n3, n4, n5, n8, n10, n11, e00, e0 1 (by decide), e0 2 (by decide), e0 3 (by decide), e0 5 (by decide)]
  refine ⟨by rw [g_u_eq, if_pos rfl]; exact hx, by rw [g_u_eq, if_neg (by decide)]; exact a2, by rw [g_u_eq, if_neg (by decide)]; exact a3, by rw [g_u_eq, if_neg (by decide)]; exact a4, fun p hp => ?_, fun p hp hp6 => a6 p (by omega) hp6, fun i hi => ?_, fun p i hp => ?_⟩
  · rw [e1, e2, e3, e4, e5]
    by_cases q : p = (T 0 0).toNat
    · subst q
      simp only [if_pos]
      have := a6 (T 0 0).toNat (by omega) (by omega)
      exact ⟨h1, h2, h3, this.1, this.2⟩
    · simp only [if_neg q]
      exact a5 p (by omega)
  · rw [e7, e8]
    have := a7 i hi
    exact ⟨this.1, this.2.1, this.2.2.1, this.2.2.2.1, by omega⟩
  · show ((addPT T k g s 6 p).toNat.testBit i = true ↔ _)
    rw [e6]
    by_cases q : p = (T 0 0).toNat
    · rw [if_pos q]
      refine ⟨fun z => ?_, fun z => ?_⟩
      · rw [show (0 : Int).toNat = 0 from rfl, Nat.zero_testBit] at z; cases z
      · have := a7 i z.1; omega
    · rw [if_neg q]; exact a8 p i (by omega)
theorem RP.thg {T : gTw} {M : gM} {w v : Int} {h0 : Nat} {b : Bool} {x : Int32} (hV : PIV T) (h : RP T M) (h12 : T 0 1 < 12) (h1 : (M.1 410 (T 0 1).toNat).toInt = w) (h2 : (M.1 405 (12 + (T 0 1).toNat)).toInt = v) (h3 : (M.1 408 (T 0 1).toNat).toInt = (h0 : Int)) (hh : (h0 : Int) < T 0 0) (h4 : (M.1 411 (12 + (T 0 1).toNat)).toInt = if b = true then 1 else 0) (hx : x.toInt = T 0 1 + 1) : RP (addTT T w v h0 b) (g_u M 402 5 x) := by
  have e01 : addTT T w v h0 b 0 1 = T 0 1 + 1 := by simp [addTT, upT]
  have e05 : addTT T w v h0 b 0 5 = (((T 0 5).toNat ||| (if b = true then 2 ^ (T 0 1).toNat else 0) : Nat) : Int) := by simp [addTT, upT]
  have e0 : ∀ i, i ≠ 1 → i ≠ 5 → addTT T w v h0 b 0 i = T 0 i := fun i hi hi2 => by simp [addTT, upT, hi, hi2]
  have e1 : ∀ f i, f ≠ 0 → f ≠ 6 → f ≠ 7 → f ≠ 8 → addTT T w v h0 b f i = T f i := fun f i q0 q6 q7 q8 => by simp [addTT, upT, q0, q6, q7, q8]
  have e6 : ∀ i, addTT T w v h0 b 6 i = if i = h0 then (((T 6 h0).toNat ||| 2 ^ (T 0 1).toNat : Nat) : Int) else T 6 i := fun i => by simp [addTT, upT]
  have e7 : ∀ i, addTT T w v h0 b 7 i = if i = (T 0 1).toNat then w else T 7 i := fun i => by simp [addTT, upT]
  have e8 : ∀ i, addTT T w v h0 b 8 i = if i = (T 0 1).toNat then v else T 8 i := fun i => by simp [addTT, upT]
  have b0 := hV.1.1
  have b1 := hV.1.2.1
  have hwet := hV.2.1
  obtain ⟨a1, a2, a3, a4, a5, a6, a7, a8⟩ := h
  have n3 : (g_u M 402 5 x).1 403 = M.1 403 := g_u_ne (by decide)
  have n4 : (g_u M 402 5 x).1 404 = M.1 404 := g_u_ne (by decide)
  have n5 : (g_u M 402 5 x).1 405 = M.1 405 := g_u_ne (by decide)
  have n8 : (g_u M 402 5 x).1 408 = M.1 408 := g_u_ne (by decide)
  have n10 : (g_u M 402 5 x).1 410 = M.1 410 := g_u_ne (by decide)
  have n11 : (g_u M 402 5 x).1 411 = M.1 411 := g_u_ne (by decide)
  unfold RP
  rw [n3, n4, n5, n8, n10, n11, e01, e05, e0 0 (by decide) (by decide), e0 2 (by decide) (by decide), e0 3 (by decide) (by decide), Int.toNat_natCast]
  refine ⟨by rw [g_u_eq, if_neg (by decide)]; exact a1, by rw [g_u_eq, if_pos rfl]; exact hx, by rw [g_u_eq, if_neg (by decide)]; exact a3, by rw [g_u_eq, if_neg (by decide)]; exact a4, fun p hp => ?_, fun p hp hp6 => a6 p hp hp6, fun i hi => ?_, fun p i hp => ?_⟩
  · rw [e1 1 _ (by decide) (by decide) (by decide) (by decide), e1 2 _ (by decide) (by decide) (by decide) (by decide), e1 3 _ (by decide) (by decide) (by decide) (by decide), e1 4 _ (by decide) (by decide) (by decide) (by decide), e1 5 _ (by decide) (by decide) (by decide) (by decide)]
    exact a5 p hp
  · rw [e7, e8, Nat.testBit_or]
    by_cases q : i = (T 0 1).toNat
    · subst q
      simp only [if_pos]
      have z1 : (T 0 5).toNat.testBit (T 0 1).toNat = false := Nat.testBit_lt_two_pow hwet
      rw [z1, Bool.false_or]
      refine ⟨h2, h1, ?_, by omega, by omega⟩
      rw [h4]
      cases b
      · simp
      · simp [Nat.testBit_two_pow_self]
    · simp only [if_neg q]
      have := a7 i (by omega)
      refine ⟨this.1, this.2.1, ?_, this.2.2.2⟩
      rw [this.2.2.1]
      have z2 : (if b = true then 2 ^ (T 0 1).toNat else 0 : Nat).testBit i = false := by
        cases b
        · simp
        · simp only [if_pos]; rw [Nat.testBit_two_pow]; simp; omega
      rw [z2, Bool.or_false]
  · show ((addTT T w v h0 b 6 p).toNat.testBit i = true ↔ _)
    rw [e6]
    have z8 : ∀ q : Nat, (q : Int) < T 0 0 → (T 6 q).toNat.testBit (T 0 1).toNat = false := fun q hq => Nat.testBit_lt_two_pow (hV.2.2.2.2.2.2 q hq)
    by_cases qi : i = (T 0 1).toNat
    · subst qi
      rw [h3]
      by_cases q : p = h0
      · rw [if_pos q, Int.toNat_natCast, Nat.testBit_or, Nat.testBit_two_pow_self, Bool.or_true]
        exact ⟨fun _ => ⟨by omega, by omega⟩, fun _ => rfl⟩
      · rw [if_neg q, z8 p hp]
        exact ⟨fun z => absurd z (by decide), fun z => by omega⟩
    · by_cases q : p = h0
      · rw [if_pos q, Int.toNat_natCast, Nat.testBit_or, Nat.testBit_two_pow]
        have := a8 p i hp
        rw [show decide ((T 0 1).toNat = i) = false by simp; omega, Bool.or_false, ← q]
        rw [show (T 6 p).toNat = hasT T p from rfl, this]
        exact ⟨fun z => ⟨by omega, z.2⟩, fun z => ⟨by omega, z.2⟩⟩
      · rw [if_neg q]
        rw [show (T 6 p).toNat = hasT T p from rfl, a8 p i hp]
        exact ⟨fun z => ⟨by omega, z.2⟩, fun z => ⟨by omega, z.2⟩⟩
/-- the reader behind a piece of the text -/
def RDP (t : Nat → Int) (n : Nat) (x : pR gTw) (M : gM) : Prop := match x with
  | .inl q => RD t n (.inl q) M
  | .inr (T, e) => RD t n (.inr e) M ∧ RP T M
def kdW (j : Nat) : List Int32 := [w_plain, w_least, w_fewest, w_aim, w_wait].getD j []
theorem kdW_at {i : Nat} (h : i < 5) : ∃ q0, gCs[15 + i]? = some q0 ∧ q0.2.2.2 = kdW i := by
  rcases (show i = 0 ∨ i = 1 ∨ i = 2 ∨ i = 3 ∨ i = 4 by omega) with rfl | rfl | rfl | rfl | rfl <;> exact ⟨_, rfl, rfl⟩
theorem kindW_of {t : Nat → Int} {n e : Nat} {k : Int} (h1 : ∀ j : Nat, j < 5 → isW t n e (kdW j) → k = (j : Int)) (h2 : k = -1 ∨ ∃ j : Nat, j < 5 ∧ k = (j : Int) ∧ isW t n e (kdW j)) : kindW t n e = k := by
  have hkd : kindW t n e = pIf t n e (kdW 0) 0 (pIf t n e (kdW 1) 1 (pIf t n e (kdW 2) 2 (pIf t n e (kdW 3) 3 (pIf t n e (kdW 4) 4 (-1))))) := rfl
  rcases h2 with h2 | ⟨j, hj, hk, hw⟩
  · have g : ∀ j : Nat, j < 5 → ¬ isW t n e (kdW j) := fun j hj hw => by have := h1 j hj hw; omega
    rw [hkd, pIf_neg (g 0 (by decide)), pIf_neg (g 1 (by decide)), pIf_neg (g 2 (by decide)), pIf_neg (g 3 (by decide)), pIf_neg (g 4 (by decide)), h2]
  · have g : ∀ i : Nat, i < 5 → i ≠ j → ¬ isW t n e (kdW i) := fun i hi hne hw => by have := h1 i hi hw; omega
    rw [hk, hkd]
    rcases (show j = 0 ∨ j = 1 ∨ j = 2 ∨ j = 3 ∨ j = 4 by omega) with rfl | rfl | rfl | rfl | rfl
    · rw [pIf_pos hw]; rfl
    · rw [pIf_neg (g 0 (by decide) (by decide)), pIf_pos hw]; rfl
    · rw [pIf_neg (g 0 (by decide) (by decide)), pIf_neg (g 1 (by decide) (by decide)), pIf_pos hw]; rfl
    · rw [pIf_neg (g 0 (by decide) (by decide)), pIf_neg (g 1 (by decide) (by decide)), pIf_neg (g 2 (by decide) (by decide)), pIf_pos hw]; rfl
    · rw [pIf_neg (g 0 (by decide) (by decide)), pIf_neg (g 1 (by decide) (by decide)), pIf_neg (g 2 (by decide) (by decide)), pIf_neg (g 3 (by decide) (by decide)), pIf_pos hw]; rfl
