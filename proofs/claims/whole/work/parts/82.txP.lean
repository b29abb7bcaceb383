/-! what reading keeps -/
theorem pBd_ok {α β : Type} {x : pR α} {f : α → Nat → pR β} {y : β × Nat} (h : pBd x f = .inr y) : ∃ a e, x = .inr (a, e) ∧ f a e = .inr y := by
  cases x with
  | inl q => cases h
  | inr q => exact ⟨q.1, q.2, rfl, h⟩
theorem pNum_ok {t : Nat → Int} {n e e1 : Nat} {a b v : Int} (h : pNum t n e a b = .inr (v, e1)) : a ≤ v ∧ v ≤ b ∧ e1 = tkE t n e ∧ tkK t n e = 2 ∧ v = tkV t n e ∧ tkE t n e - tkB t n e ≤ 4 := by
  rw [pNum] at h
  split at h
  · cases h
  · split at h
    · cases h
    · cases h; omega
theorem pPer_ok {t : Nat → Int} {n e e1 : Nat} {m v : Int} (h : pPer t n e m = .inr (v, e1)) : 0 ≤ v ∧ v < m ∧ e1 = tkE t n e ∧ tkK t n e = 2 ∧ v = tkV t n e ∧ tkE t n e - tkB t n e ≤ 4 := by
  rw [pPer] at h
  split at h
  · cases h
  · split at h
    · cases h
    · split at h
      · cases h
      · cases h
        have := tkV_rng (t := t) (n := n) (e := e) (by omega) (by omega)
        omega
theorem pIf_or {α : Type} {t : Nat → Int} {n e : Nat} {w : List Int32} {x y : α} : (isW t n e w ∧ pIf t n e w x y = x) ∨ (¬ isW t n e w ∧ pIf t n e w x y = y) := by
  by_cases h : isW t n e w
  · exact Or.inl ⟨h, pIf_pos h⟩
  · exact Or.inr ⟨h, pIf_neg h⟩
theorem kindW_rng {t : Nat → Int} {n e : Nat} : -1 ≤ kindW t n e ∧ kindW t n e ≤ 4 := by
  rw [kindW]
  rcases pIf_or (t := t) (n := n) (e := e) (w := w_plain) (x := (0 : Int)) (y := (pIf t n e w_least 1 (pIf t n e w_fewest 2 (pIf t n e w_aim 3 (pIf t n e w_wait 4 (-1)))))) with ⟨-, q⟩ | ⟨-, q⟩ <;> rw [q]
  · decide
  rcases pIf_or (t := t) (n := n) (e := e) (w := w_least) (x := (1 : Int)) (y := (pIf t n e w_fewest 2 (pIf t n e w_aim 3 (pIf t n e w_wait 4 (-1))))) with ⟨-, q⟩ | ⟨-, q⟩ <;> rw [q]
  · decide
  rcases pIf_or (t := t) (n := n) (e := e) (w := w_fewest) (x := (2 : Int)) (y := (pIf t n e w_aim 3 (pIf t n e w_wait 4 (-1)))) with ⟨-, q⟩ | ⟨-, q⟩ <;> rw [q]
  · decide
  rcases pIf_or (t := t) (n := n) (e := e) (w := w_aim) (x := (3 : Int)) (y := (pIf t n e w_wait 4 (-1))) with ⟨-, q⟩ | ⟨-, q⟩ <;> rw [q]
  · decide
  rcases pIf_or (t := t) (n := n) (e := e) (w := w_wait) (x := (4 : Int)) (y := (-1 : Int)) with ⟨-, q⟩ | ⟨-, q⟩ <;> rw [q] <;> decide
def PIV (T : gTw) : Prop := TOK T ∧ (T 0 5).toNat < 2 ^ (T 0 1).toNat ∧ T 0 4 = 0 ∧ (∀ p : Nat, (p : Int) < T 0 0 → T 3 p ≤ 99) ∧ own T ∧ (∀ i : Nat, T 0 1 ≤ (i : Int) → i < 12 → T 7 i = 0) ∧ ∀ p : Nat, (p : Int) < T 0 0 → (T 6 p).toNat < 2 ^ (T 0 1).toNat
theorem PIV.inv {T : gTw} (h : PIV T) : INV T := by
  obtain ⟨h1, -, -, h4, h5, -, -⟩ := h
  refine ⟨h1, ?_, h5⟩
  have hp := h1.1
  have : ∀ k : Nat, (k : Int) ≤ T 0 0 → psum (T 3) k ≤ 99 * (k : Int) := by
    intro k
    induction k with
    | zero => intro _; rw [psum]; decide
    | succ k ih =>
      intro hk
      have a := ih (by omega)
      have b := h4 k (by omega)
      rw [psum]
      omega
  have := this (T 0 0).toNat (by omega)
  rw [sumT]
  omega
theorem lt_or_pow {a n : Nat} (h : a < 2 ^ n) : a ||| 2 ^ n < 2 ^ (n + 1) := Nat.or_lt_two_pow (by rw [Nat.pow_succ]; omega) (by rw [Nat.pow_succ]; have := Nat.two_pow_pos n; omega)
theorem pow_4095 {a n : Nat} (h : a < 2 ^ n) (hn : n ≤ 12) : a ≤ 4095 := by
  have : (2 : Nat) ^ n ≤ 2 ^ 12 := Nat.pow_le_pow_right (by decide) hn
  omega
theorem PIV.addP {T : gTw} {k g s : Int} (h : PIV T) (h6 : ¬ T 0 0 = 6) (hk : 0 ≤ k ∧ k ≤ 4) (hg : 0 ≤ g ∧ g ≤ 99) (hkg : k = 3 → g ≤ 11) (hs : 0 ≤ s ∧ s ≤ 99) : PIV (addPT T k g s) := by
  obtain ⟨⟨a1, a2, a3, a4, a5, a6, a7, a8⟩, h2, h3, h4, h5, h7, h8⟩ := h
  have e00 : addPT T k g s 0 0 = T 0 0 + 1 := by simp [addPT, upT]
  have e0 : ∀ i, i ≠ 0 → addPT T k g s 0 i = T 0 i := fun i hi => by simp [addPT, upT, hi]
  have e1 : ∀ i, addPT T k g s 1 i = if i = (T 0 0).toNat then k else T 1 i := fun i => by simp [addPT, upT]
  have e2 : ∀ i, addPT T k g s 2 i = if i = (T 0 0).toNat then g else T 2 i := fun i => by simp [addPT, upT]
  have e3 : ∀ i, addPT T k g s 3 i = if i = (T 0 0).toNat then s else T 3 i := fun i => by simp [addPT, upT]
  have e4 : ∀ i, addPT T k g s 4 i = if i = (T 0 0).toNat then 0 else T 4 i := fun i => by simp [addPT, upT]
  have e5 : ∀ i, addPT T k g s 5 i = if i = (T 0 0).toNat then -1 else T 5 i := fun i => by simp [addPT, upT]
  have e6 : ∀ i, addPT T k g s 6 i = if i = (T 0 0).toNat then 0 else T 6 i := fun i => by simp [addPT, upT]
  have e7 : ∀ i, addPT T k g s 7 i = T 7 i := fun i => by simp [addPT, upT]
  have e8 : ∀ i, addPT T k g s 8 i = T 8 i := fun i => by simp [addPT, upT]
  refine ⟨⟨by rw [e00]; omega, by rw [e0 _ (by decide)]; exact a2, by rw [e0 _ (by decide)]; exact a3, by rw [e0 _ (by decide)]; exact a4, by rw [e0 _ (by decide)]; exact a5, by rw [e0 _ (by decide)]; exact a6, fun p hp => ?_, fun i hi => by rw [e7, e8]; exact a8 i hi⟩, by rw [e0 _ (by decide), e0 _ (by decide)]; exact h2, by rw [e0 _ (by decide)]; exact h3, fun p hp => ?_, fun q hq hne => ?_, fun i hi hi2 => ?_, fun p hp => ?_⟩
  · rw [e1, e2, e3, e4, e5, e6]
    by_cases q : p = (T 0 0).toNat
    · simp only [if_pos q]; omega
    · simp only [if_neg q]; exact a7 p hp
  · rw [e3]
    rw [e00] at hp
    split
    · exact hs.2
    · exact h4 p (by omega)
  · rw [e5] at hne ⊢
    rw [e00] at hq ⊢
    by_cases q2 : q = (T 0 0).toNat
    · rw [if_pos q2] at hne; exact absurd rfl hne
    · rw [if_neg q2] at hne ⊢
      have := h5 q (by omega) hne
      omega
  · rw [e0 _ (by decide)] at hi
    rw [e7]; exact h7 i hi hi2
  · rw [e6, e0 _ (by decide)]
    rw [e00] at hp
    split
    · exact Nat.two_pow_pos _
    · exact h8 p (by omega)
theorem PIV.addT {T : gTw} {w v : Int} {x : Nat} {b : Bool} (h : PIV T) (h12 : ¬ T 0 1 = 12) (hw : 1 ≤ w ∧ w ≤ 99) (hv : 0 ≤ v ∧ v ≤ 999) (hx : (x : Int) < T 0 0) : PIV (addTT T w v x b) := by
  obtain ⟨⟨a1, a2, a3, a4, a5, a6, a7, a8⟩, h2, h3, h4, h5, h7, h8⟩ := h
  have e01 : addTT T w v x b 0 1 = T 0 1 + 1 := by simp [addTT, upT]
  have e05 : addTT T w v x b 0 5 = (((T 0 5).toNat ||| (if b = true then 2 ^ (T 0 1).toNat else 0) : Nat) : Int) := by simp [addTT, upT]
  have e0 : ∀ i, i ≠ 1 → i ≠ 5 → addTT T w v x b 0 i = T 0 i := fun i hi hi2 => by simp [addTT, upT, hi, hi2]
  have e1 : ∀ f i, f ≠ 0 → f ≠ 6 → f ≠ 7 → f ≠ 8 → addTT T w v x b f i = T f i := fun f i q0 q6 q7 q8 => by simp [addTT, upT, q0, q6, q7, q8]
  have e6 : ∀ i, addTT T w v x b 6 i = if i = x then (((T 6 x).toNat ||| 2 ^ (T 0 1).toNat : Nat) : Int) else T 6 i := fun i => by simp [addTT, upT]
  have e7 : ∀ i, addTT T w v x b 7 i = if i = (T 0 1).toNat then w else T 7 i := fun i => by simp [addTT, upT]
  have e8 : ∀ i, addTT T w v x b 8 i = if i = (T 0 1).toNat then v else T 8 i := fun i => by simp [addTT, upT]
  have en : (T 0 1 + 1).toNat = (T 0 1).toNat + 1 := by omega
  have hwet : (T 0 5).toNat ||| (if b = true then 2 ^ (T 0 1).toNat else 0) < 2 ^ ((T 0 1).toNat + 1) := by
    split
    · exact lt_or_pow h2
    · rw [Nat.or_zero, Nat.pow_succ]; omega
  have hhas := lt_or_pow (h8 x hx)
  have w1 := pow_4095 hwet (by omega)
  have w2 := pow_4095 hhas (by omega)
  refine ⟨⟨by rw [e0 _ (by decide) (by decide)]; exact a1, by rw [e01]; omega, by rw [e0 _ (by decide) (by decide)]; exact a3, by rw [e0 _ (by decide) (by decide)]; exact a4, by rw [e0 _ (by decide) (by decide)]; exact a5, by rw [e05]; omega, fun p hp => ?_, fun i hi => ?_⟩, ?_, by rw [e0 _ (by decide) (by decide)]; exact h3, fun p hp => ?_, fun q hq hne => ?_, fun i hi hi2 => ?_, fun p hp => ?_⟩
  · rw [e1 1 _ (by decide) (by decide) (by decide) (by decide), e1 2 _ (by decide) (by decide) (by decide) (by decide), e1 3 _ (by decide) (by decide) (by decide) (by decide), e1 4 _ (by decide) (by decide) (by decide) (by decide), e1 5 _ (by decide) (by decide) (by decide) (by decide), e6]
    have := a7 p hp
    split <;> omega
  · rw [e7, e8]
    have := a8 i hi
    split <;> omega
  · rw [e05, e01, en]; exact hwet
  · rw [e1 3 _ (by decide) (by decide) (by decide) (by decide)]
    rw [e0 _ (by decide) (by decide)] at hp
    exact h4 p hp
  · rw [e1 5 _ (by decide) (by decide) (by decide) (by decide)] at hne ⊢
    rw [e0 _ (by decide) (by decide)] at hq ⊢
    exact h5 q hq hne
  · rw [e01] at hi
    rw [e7, if_neg (by omega)]; exact h7 i (by omega) hi2
  · rw [e6, e01, en]
    rw [e0 _ (by decide) (by decide)] at hp
    split
    · exact hhas
    · have := h8 p hp
      rw [Nat.pow_succ]; omega
theorem PIV.owe {T : gTw} {p : Nat} {v : Int} (h : PIV T) (hp : (p : Int) < T 0 0) (hv : 1 ≤ v ∧ v ≤ 999) : PIV (upT T 4 p v) := by
  obtain ⟨⟨a1, a2, a3, a4, a5, a6, a7, a8⟩, h2, h3, h4, h5, h7, h8⟩ := h
  have e1 : ∀ f i, f ≠ 4 → upT T 4 p v f i = T f i := fun f i q => by simp [upT, q]
  have e4 : ∀ i, upT T 4 p v 4 i = if i = p then v else T 4 i := fun i => by simp [upT]
  have e0 := fun i => e1 0 i (by decide)
  refine ⟨⟨by rw [e0]; exact a1, by rw [e0]; exact a2, by rw [e0]; exact a3, by rw [e0]; exact a4, by rw [e0]; exact a5, by rw [e0]; exact a6, fun q hq => ?_, fun i hi => by rw [e1 7 _ (by decide), e1 8 _ (by decide)]; exact a8 i hi⟩, by rw [e0, e0]; exact h2, by rw [e0]; exact h3, fun q hq => by rw [e1 3 _ (by decide)]; exact h4 q (by rw [e0] at hq; exact hq), fun q hq hne => ?_, fun i hi hi2 => by rw [e1 7 _ (by decide)]; exact h7 i (by rw [e0] at hi; exact hi) hi2, fun q hq => by rw [e1 6 _ (by decide), e0]; exact h8 q (by rw [e0] at hq; exact hq)⟩
  · rw [e1 1 _ (by decide), e1 2 _ (by decide), e1 3 _ (by decide), e4, e1 5 _ (by decide), e1 6 _ (by decide)]
    have := a7 q hq
    split <;> omega
  · rw [e1 5 _ (by decide)] at hne ⊢
    rw [e0] at hq ⊢
    exact h5 q hq hne
theorem PIV.oweTo {T : gTw} {p : Nat} {q : Int} (h : PIV T) (hp : (p : Int) < T 0 0) (hq : 0 ≤ q ∧ q < T 0 0) (hne : ¬ q = (p : Int)) : PIV (upT T 5 p q) := by
  obtain ⟨⟨a1, a2, a3, a4, a5, a6, a7, a8⟩, h2, h3, h4, h5, h7, h8⟩ := h
  have e1 : ∀ f i, f ≠ 5 → upT T 5 p q f i = T f i := fun f i q => by simp [upT, q]
  have e4 : ∀ i, upT T 5 p q 5 i = if i = p then q else T 5 i := fun i => by simp [upT]
  have e0 := fun i => e1 0 i (by decide)
  refine ⟨⟨by rw [e0]; exact a1, by rw [e0]; exact a2, by rw [e0]; exact a3, by rw [e0]; exact a4, by rw [e0]; exact a5, by rw [e0]; exact a6, fun q hq => ?_, fun i hi => by rw [e1 7 _ (by decide), e1 8 _ (by decide)]; exact a8 i hi⟩, by rw [e0, e0]; exact h2, by rw [e0]; exact h3, fun q hq => by rw [e1 3 _ (by decide)]; exact h4 q (by rw [e0] at hq; exact hq), fun r hr hnr => ?_, fun i hi hi2 => by rw [e1 7 _ (by decide)]; exact h7 i (by rw [e0] at hi; exact hi) hi2, fun q hq => by rw [e1 6 _ (by decide), e0]; exact h8 q (by rw [e0] at hq; exact hq)⟩
  · rw [e1 1 _ (by decide), e1 2 _ (by decide), e1 3 _ (by decide), e4, e1 4 _ (by decide), e1 6 _ (by decide)]
    have := a7 q hq
    split <;> omega
  · rw [e4] at hnr ⊢
    rw [e0] at hr ⊢
    by_cases hrp : r = p
    · rw [if_pos hrp]; omega
    · rw [if_neg hrp] at hnr ⊢; exact h5 r hr hnr
theorem PIV.set {T : gTw} {i : Nat} {v : Int} (h : PIV T) (hi : (i = 2 ∧ 0 ≤ v ∧ v ≤ 1) ∨ (i = 3 ∧ 0 ≤ v ∧ v ≤ 9)) : PIV (upT T 0 i v) := by
  obtain ⟨⟨a1, a2, a3, a4, a5, a6, a7, a8⟩, h2, h3, h4, h5, h7, h8⟩ := h
  have e1 : ∀ f j, f ≠ 0 → upT T 0 i v f j = T f j := fun f j q => by simp [upT, q]
  have e0 : ∀ j, upT T 0 i v 0 j = if j = i then v else T 0 j := fun j => by simp [upT]
  have n0 : ∀ j, j ≠ i → upT T 0 i v 0 j = T 0 j := fun j q => by rw [e0, if_neg q]
  refine ⟨⟨by rw [n0 0 (by omega)]; exact a1, by rw [n0 1 (by omega)]; exact a2, by rw [e0]; split <;> omega, by rw [e0]; split <;> omega, by rw [n0 4 (by omega)]; exact a5, by rw [n0 5 (by omega)]; exact a6, fun q hq => ?_, fun j hj => by rw [e1 7 _ (by decide), e1 8 _ (by decide)]; exact a8 j hj⟩, by rw [n0 5 (by omega), n0 1 (by omega)]; exact h2, by rw [n0 4 (by omega)]; exact h3, fun q hq => by rw [e1 3 _ (by decide)]; exact h4 q (by rw [n0 0 (by omega)] at hq; exact hq), fun r hr hnr => ?_, fun j hj hj2 => by rw [e1 7 _ (by decide)]; exact h7 j (by rw [n0 1 (by omega)] at hj; exact hj) hj2, fun q hq => by rw [e1 6 _ (by decide), n0 1 (by omega)]; exact h8 q (by rw [n0 0 (by omega)] at hq; exact hq)⟩
  · rw [e1 1 _ (by decide), e1 2 _ (by decide), e1 3 _ (by decide), e1 4 _ (by decide), e1 5 _ (by decide), e1 6 _ (by decide)]
    exact a7 q hq
  · rw [e1 5 _ (by decide)] at hnr ⊢
    rw [n0 0 (by omega)] at hr ⊢
    exact h5 r hr hnr
theorem pOne_ok {t : Nat → Int} {n e e1 : Nat} {T T1 : gTw} (hV : PIV T) (he : e ≤ n) (h : pOne t n T e = .inr (T1, e1)) : PIV T1 ∧ e ≤ e1 ∧ e1 ≤ n ∧ T1 0 2 = T 0 2 := by
  have r1 := tk_rng (t := t) he
  rw [pOne] at h
  split at h
  · cases h
  rename_i h6
  obtain ⟨s, e2, hx, h⟩ := pBd_ok h
  have hs : (0 ≤ s ∧ s ≤ 99) ∧ e ≤ e2 ∧ e2 ≤ n := by
    rcases pIf_or (t := t) (n := n) (e := tkE t n e) (w := w_sand) (x := pNum t n (tkE t n (tkE t n e)) 0 99) (y := .inr (0, tkE t n e)) with ⟨-, q⟩ | ⟨-, q⟩ <;> rw [q] at hx
    · have r2 := tk_rng (t := t) r1.2.2.1
      have r3 := tk_rng (t := t) r2.2.2.1
      have := pNum_ok hx
      omega
    · cases hx; omega
  have r4 := tk_rng (t := t) hs.2.2
  split at h
  · cases h
  rename_i hk
  have hkr := kindW_rng (t := t) (n := n) (e := e2)
  obtain ⟨g, e3, hx, h⟩ := pBd_ok h
  cases h
  have hg : (0 ≤ g ∧ g ≤ 99) ∧ (kindW t n e2 = 3 → g ≤ 11) ∧ e2 ≤ e1 ∧ e1 ≤ n := by
    have r5 := tk_rng (t := t) r4.2.2.1
    split at hx
    · have := pNum_ok hx; omega
    · split at hx
      · have := pNum_ok hx; omega
      · cases hx; omega
  exact ⟨PIV.addP hV h6 (by omega) hg.1 hg.2.1 hs.1, by omega, by omega, by simp [addPT, upT]⟩
theorem pThg_ok {t : Nat → Int} {n e e1 : Nat} {T T1 : gTw} (hV : PIV T) (he : e ≤ n) (h : pThg t n T e = .inr (T1, e1)) : PIV T1 ∧ e ≤ e1 ∧ e1 ≤ n ∧ T1 0 2 = T 0 2 := by
  have r1 := tk_rng (t := t) he
  rw [pThg] at h
  split at h
  · cases h
  rename_i h12
  obtain ⟨w, e2, hx, h⟩ := pBd_ok h
  have a1 := pNum_ok hx
  have r2 := tk_rng (t := t) (n := n) (e := tkE t n e) (by omega)
  obtain ⟨v, e3, hx, h⟩ := pBd_ok h
  have a2 := pNum_ok hx
  have r3 := tk_rng (t := t) (n := n) (e := e2) (by omega)
  obtain ⟨p, e4, hx, h⟩ := pBd_ok h
  have a3 := pPer_ok hx
  have r4 := tk_rng (t := t) (n := n) (e := e3) (by omega)
  have r5 := tk_rng (t := t) (n := n) (e := e4) (by omega)
  have hp : ((p.toNat : Nat) : Int) < T 0 0 := by omega
  rcases pIf_or (α := pR gTw) (t := t) (n := n) (e := e4) (w := w_wet) (x := .inr (addTT T w v p.toNat true, tkE t n e4)) (y := .inr (addTT T w v p.toNat false, e4)) with ⟨-, q⟩ | ⟨-, q⟩ <;> rw [q] at h <;> cases h
  · exact ⟨PIV.addT hV h12 ⟨a1.1, a1.2.1⟩ ⟨a2.1, a2.2.1⟩ hp, by omega, by omega, by simp [addTT, upT]⟩
  · exact ⟨PIV.addT hV h12 ⟨a1.1, a1.2.1⟩ ⟨a2.1, a2.2.1⟩ hp, by omega, by omega, by simp [addTT, upT]⟩
theorem pOwe_ok {t : Nat → Int} {n e e1 : Nat} {T T1 : gTw} (hV : PIV T) (he : e ≤ n) (h : pOwe t n T e = .inr (T1, e1)) : PIV T1 ∧ e ≤ e1 ∧ e1 ≤ n ∧ T1 0 2 = T 0 2 := by
  have r1 := tk_rng (t := t) he
  rw [pOwe] at h
  obtain ⟨p, e2, hx, h⟩ := pBd_ok h
  have a1 := pPer_ok hx
  have r2 := tk_rng (t := t) (n := n) (e := e2) (by omega)
  have hp : ((p.toNat : Nat) : Int) < T 0 0 := by omega
  split at h
  · cases h
  obtain ⟨v, e3, hx, h⟩ := pBd_ok h
  have a2 := pNum_ok hx
  have r3 := tk_rng (t := t) (n := n) (e := e3) (by omega)
  have V1 := PIV.owe hV hp ⟨a2.1, a2.2.1⟩
  have q0 : upT T 4 p.toNat v 0 0 = T 0 0 := by simp [upT]
  rcases pIf_or (α := pR gTw) (t := t) (n := n) (e := e3) (w := w_to) (x := (pBd (pPer t n (tkE t n e3) (T 0 0)) (fun q e3' => if q = p then .inl (4, tkB t n (tkE t n e3)) else .inr (upT (upT T 4 p.toNat v) 5 p.toNat q, e3')))) (y := .inr (upT T 4 p.toNat v, e3)) with ⟨-, q⟩ | ⟨-, q⟩ <;> rw [q] at h
  · obtain ⟨r, e4, hx, h⟩ := pBd_ok h
    have a3 := pPer_ok hx
    have r4 := tk_rng (t := t) (n := n) (e := tkE t n e3) (by omega)
    split at h
    · cases h
    cases h
    exact ⟨PIV.oweTo V1 (by rw [q0]; exact hp) (by rw [q0]; omega) (by omega), by omega, by omega, by simp [upT]⟩
  · cases h
    exact ⟨V1, by omega, by omega, by simp [upT]⟩
theorem pLaw_ok {t : Nat → Int} {n e e1 : Nat} {T T1 : gTw} (hV : PIV T) (he : e ≤ n) (h : pLaw t n T e = .inr (T1, e1)) : PIV T1 ∧ e ≤ e1 ∧ e1 ≤ n := by
  have r1 := tk_rng (t := t) he
  rw [pLaw] at h
  rcases pIf_or (α := pR gTw) (t := t) (n := n) (e := e) (w := w_giver) (x := .inr (T, tkE t n e)) (y := (pIf t n e w_anyone (.inr (upT T 0 2 1, tkE t n e)) (.inl (1, tkB t n e)))) with ⟨-, q⟩ | ⟨-, q⟩ <;> rw [q] at h
  · cases h; exact ⟨hV, by omega, by omega⟩
  · rcases pIf_or (α := pR gTw) (t := t) (n := n) (e := e) (w := w_anyone) (x := .inr (upT T 0 2 1, tkE t n e)) (y := .inl (1, tkB t n e)) with ⟨-, q⟩ | ⟨-, q⟩ <;> rw [q] at h
    · cases h; exact ⟨PIV.set hV (Or.inl ⟨rfl, by decide, by decide⟩), by omega, by omega⟩
    · cases h
theorem pStop_ok {α : Type} {t : Nat → Int} {n e e1 : Nat} {x y : α} (he : e ≤ n) (h : pStop t n x e = .inr (y, e1)) : y = x ∧ e < e1 ∧ e1 ≤ n ∧ e1 = tkE t n e ∧ tkK t n e = 3 := by
  have r1 := tk_rng (t := t) he
  rw [pStop] at h
  split at h
  · cases h; exact ⟨rfl, by omega, by omega, rfl, by omega⟩
  · cases h
/-- one line of the text: what is kept -/
theorem pLine_ok {t : Nat → Int} {n e e1 : Nat} {T T1 : gTw} {sl sw l1 w1 : Int} (hV : PIV T) (he : e ≤ n) (hl : ¬ sl = 1 → T 0 2 = 0) (h : pLine t n T sl sw e = .inr ((T1, l1, w1), e1)) : PIV T1 ∧ e < e1 ∧ e1 ≤ n ∧ (¬ l1 = 1 → T1 0 2 = 0) := by
  have r1 := tk_rng (t := t) he
  rw [pLine] at h
  by_cases c1 : isW t n e w_person
  · rw [pIf_pos c1] at h
    obtain ⟨T2, e2, hx, h⟩ := pBd_ok h
    have a := pOne_ok hV he hx
    have b := pStop_ok a.2.2.1 h
    obtain ⟨b1, b2, b3, -⟩ := b
    cases b1
    exact ⟨a.1, by omega, by omega, fun q => by rw [a.2.2.2]; exact hl q⟩
  rw [pIf_neg c1] at h
  by_cases c2 : isW t n e w_thing
  · rw [pIf_pos c2] at h
    obtain ⟨T2, e2, hx, h⟩ := pBd_ok h
    have a := pThg_ok hV he hx
    have b := pStop_ok a.2.2.1 h
    obtain ⟨b1, b2, b3, -⟩ := b
    cases b1
    exact ⟨a.1, by omega, by omega, fun q => by rw [a.2.2.2]; exact hl q⟩
  rw [pIf_neg c2] at h
  by_cases c3 : isW t n e w_owes
  · rw [pIf_pos c3] at h
    obtain ⟨T2, e2, hx, h⟩ := pBd_ok h
    have a := pOwe_ok hV r1.2.2.1 hx
    have b := pStop_ok a.2.2.1 h
    obtain ⟨b1, b2, b3, -⟩ := b
    cases b1
    exact ⟨a.1, by omega, by omega, fun q => by rw [a.2.2.2]; exact hl q⟩
  rw [pIf_neg c3] at h
  by_cases c4 : isW t n e w_law
  · rw [pIf_pos c4] at h
    split at h
    · cases h
    obtain ⟨T2, e2, hx, h⟩ := pBd_ok h
    have a := pLaw_ok hV r1.2.2.1 hx
    have b := pStop_ok a.2.2 h
    obtain ⟨b1, b2, b3, -⟩ := b
    cases b1
    exact ⟨a.1, by omega, by omega, fun q => absurd rfl q⟩
  rw [pIf_neg c4] at h
  by_cases c5 : isW t n e w_within
  · rw [pIf_pos c5] at h
    split at h
    · cases h
    obtain ⟨v, e2, hx, h⟩ := pBd_ok h
    have a := pNum_ok hx
    have r2 := tk_rng (t := t) (n := n) (e := tkE t n e) (by omega)
    have b := pStop_ok (show e2 ≤ n by omega) h
    obtain ⟨b1, b2, b3, -⟩ := b
    cases b1
    exact ⟨PIV.set hV (Or.inr ⟨rfl, a.1, a.2.1⟩), by omega, by omega, fun q => by rw [show upT T 0 3 v 0 2 = T 0 2 by simp [upT]]; exact hl q⟩
  rw [pIf_neg c5] at h
  cases h
