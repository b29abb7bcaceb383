/-! the class's Week: the object 240, its row 241, its town 180 -/
theorem v_hand {M : gM} {t g k : Nat} {s n : Int32} (hO : TOK (tv M t)) (hg : g < 6) (hk : k < 6) (hgk : g ≠ k) (hs : bn s < 4096) (hn : 0 ≤ n.toInt ∧ n.toInt ≤ tv M t 3 g) : tv (handM M t g s n k) t = handT (tv M t) g (bn s) n.toInt k := by
  have l6 : ∀ f, f ≤ 6 → lenT f = 6 := fun f hf => by rw [lenT, if_pos hf]
  have bg := hO.2.2.2.2.2.2.1 g hg
  have bk := hO.2.2.2.2.2.2.1 k hk
  have t6g : tv M t 6 g = (M.1 (t + 6) g).toInt := tvp (by decide) hg
  have t6k : tv M t 6 k = (M.1 (t + 6) k).toInt := tvp (by decide) hk
  have t3g : tv M t 3 g = (M.1 (t + 3) g).toInt := tvp (by decide) hg
  have t3k : tv M t 3 k = (M.1 (t + 3) k).toInt := tvp (by decide) hk
  have ng : bn (M.1 (t + 6) g) = hasT (tv M t) g := bn_lit (by rw [hasT, t6g]; rw [t6g] at bg; omega)
  have nk : bn (M.1 (t + 6) k) = hasT (tv M t) k := bn_lit (by rw [hasT, t6k]; rw [t6k] at bk; omega)
  have hg4 : hasT (tv M t) g < 4096 := by rw [hasT]; omega
  have hk4 : hasT (tv M t) k < 4096 := by rw [hasT]; omega
  have e12 : (2 : Nat) ^ 12 = 4096 := rfl
  have x1 : bn (M.1 (t + 6) g &&& (s ^^^ -1)) = nd (hasT (tv M t) g) (bn s) := by
    rw [bn_and, bn_xor, show bn (-1) = 4294967295 from rfl, and_not (bn_lt _), ng]
  have x1l := nd_le (hasT (tv M t) g) (bn s)
  have x2 : bn (M.1 (t + 6) k ||| s) = hasT (tv M t) k ||| bn s := by rw [bn_or, nk]
  have x2l : hasT (tv M t) k ||| bn s < 4096 := by rw [← e12]; exact Nat.or_lt_two_pow (by omega) (by omega)
  have y1 : (M.1 (t + 6) g &&& (s ^^^ -1)).toInt = ((nd (hasT (tv M t) g) (bn s) : Nat) : Int) := by rw [i_bn (by omega), x1]
  have y2 : (M.1 (t + 6) k ||| s).toInt = ((hasT (tv M t) k ||| bn s : Nat) : Int) := by rw [i_bn (by omega), x2]
  have y3 : (M.1 (t + 3) g - n).toInt = tv M t 3 g - n.toInt := by rw [i_sub ⟨by omega, by omega⟩, t3g]
  have y4 : (M.1 (t + 3) k + n).toInt = tv M t 3 k + n.toInt := by rw [i_add ⟨by omega, by omega⟩, t3k]
  show tv (g_u (g_u (g_u (g_u M (t + 6) g _) (t + 6) k _) (t + 3) g _) (t + 3) k _) t = _
  rw [tv_u (by rw [l6 _ (by decide)]; omega), tv_u (by rw [l6 _ (by decide)]; omega), tv_u (by rw [l6 _ (by decide)]; omega), tv_u (by rw [l6 _ (by decide)]; omega)]
  have a1 : ∀ x, (g_u M (t + 6) g x).1 (t + 6) k = M.1 (t + 6) k := fun x => by rw [g_u_eq, if_neg (fun e => hgk e.symm)]
  have a2 : ∀ x y z, (g_u (g_u (g_u M (t + 6) g x) (t + 6) k y) (t + 3) g z).1 (t + 3) k = M.1 (t + 3) k := fun x y z => by rw [g_u_eq, if_neg (fun e => hgk e.symm), g_u_ne (by simp), g_u_ne (by simp)]
  rw [a2, a1, y1, y2, y3, y4]
  rfl
theorem hand_back {T : gTw} {r : Nat → Int32} {g s k : Nat} {n : Int} (hI : INV T) (hr : RW T r) (h : canG T g s n k) : handT (handT T g s n k) k s n g = T := by
  obtain ⟨c1, c2, c3, c4, c5, c6⟩ := h
  have hb := hI.1.1
  have bg := hI.1.2.2.2.2.2.2.1 g (by omega)
  have bk := hI.1.2.2.2.2.2.2.1 k (by omega)
  have e6k : handT T g s n k 6 k = ((hasT T k ||| s : Nat) : Int) := by simp [handT, upT]
  have e6g : handT T g s n k 6 g = ((nd (hasT T g) s : Nat) : Int) := by simp [handT, upT, c3]
  have e3k : handT T g s n k 3 k = T 3 k + n := by simp [handT, upT]
  have e3g : handT T g s n k 3 g = T 3 g - n := by simp [handT, upT, c3]
  have hk : hasT (handT T g s n k) k = hasT T k ||| s := by rw [hasT, e6k]; rfl
  have hg : hasT (handT T g s n k) g = nd (hasT T g) s := by rw [hasT, e6g]; rfl
  have q1 : nd (hasT T k ||| s) s = hasT T k := by
    refine Nat.eq_of_testBit_eq fun i => ?_
    rw [nd_bit, Nat.testBit_or]
    cases hsi : s.testBit i
    · simp
    · have a := ((hr.1 g c1).2.2.2 i).mp (c4 i hsi)
      cases hki : (hasT T k).testBit i
      · rfl
      · have b := ((hr.1 k c2).2.2.2 i).mp hki
        omega
  have q2 : nd (hasT T g) s ||| s = hasT T g := by
    refine Nat.eq_of_testBit_eq fun i => ?_
    rw [Nat.testBit_or, nd_bit]
    cases hsi : s.testBit i
    · simp
    · rw [c4 i hsi]; rfl
  funext a b
  rw [handT, hk, hg, e3k, e3g, q1, q2]
  simp only [upT, handT]
  by_cases u1 : a = 3 ∧ b = g
  · rw [if_pos u1, u1.1, u1.2]; omega
  · rw [if_neg u1]
    by_cases u2 : a = 3 ∧ b = k
    · rw [if_pos u2, u2.1, u2.2]; omega
    · rw [if_neg u2]
      by_cases u3 : a = 6 ∧ b = g
      · rw [if_pos u3, u3.1, u3.2]; show ((T 6 g).toNat : Int) = _; omega
      · rw [if_neg u3]
        by_cases u4 : a = 6 ∧ b = k
        · rw [if_pos u4, u4.1, u4.2]; show ((T 6 k).toNat : Int) = _; omega
        · rw [if_neg u4, if_neg u2, if_neg u1, if_neg u4, if_neg u3]
/-- how many of the first n bits -/
def nbt : Nat → Nat → Nat
  | 0, _ => 0
  | n + 1, s => nbt n s + if s.testBit n = true then 1 else 0
theorem nbt_zero {s : Nat} : ∀ n : Nat, nbt n s = 0 → ∀ p, p < n → s.testBit p = false := by
  intro n
  induction n with
  | zero => intro _ p hp; omega
  | succ n ih =>
    intro h p hp
    rw [nbt] at h
    by_cases hpn : p = n
    · subst hpn
      cases hb : s.testBit p
      · rfl
      · rw [hb, if_pos rfl] at h; omega
    · exact ih (by omega) p (by omega)
theorem nbt_clear {s p : Nat} (hb : s.testBit p = true) : ∀ n : Nat, nbt n s = nbt n (nd s (2 ^ p)) + if p < n then 1 else 0 := by
  intro n
  induction n with
  | zero => rfl
  | succ n ih =>
    rw [nbt, nbt, ih, nd_bit, Nat.testBit_two_pow]
    by_cases hpn : p = n
    · subst hpn; simp [hb]
    · by_cases hlt : p < n
      · simp [hpn, hlt, show p < n + 1 by omega]; omega
      · simp [hpn, hlt, show ¬ p < n + 1 by omega]
theorem nbt_le {s : Nat} : ∀ n : Nat, nbt n s ≤ n := by
  intro n
  induction n with
  | zero => exact Nat.le_refl _
  | succ n ih => rw [nbt]; split <;> omega
/-- who is left -/
def LFT (T : gTw) (dn left r : Nat) : Prop := (∀ p : Nat, left.testBit p = true ↔ ((p : Int) < T 0 0 ∧ ¬ T 4 p = 0 ∧ dn.testBit p = false)) ∧ nbt 6 left = r ∧ left < 64
theorem LFT.zero {T : gTw} {dn left r : Nat} (h : LFT T dn left r) : left = 0 ↔ r = 0 := by
  constructor
  · intro e; rw [← h.2.1, e]; decide
  · intro e
    refine Nat.eq_of_testBit_eq fun i => ?_
    rw [Nat.zero_testBit]
    by_cases hi : i < 6
    · exact nbt_zero 6 (by rw [h.2.1, e]) i hi
    · exact Nat.testBit_lt_two_pow (Nat.lt_of_lt_of_le h.2.2 (Nat.pow_le_pow_right (n := 2) (by decide) (show 6 ≤ i by omega)))
theorem LFT.step {T : gTw} {dn left r p : Nat} (hb : T 0 0 ≤ 6) (h : LFT T dn left (r + 1)) (hp : left.testBit p = true) : LFT T (dn ||| 2 ^ p) (nd left (2 ^ p)) r := by
  have hp6 := (h.1 p).mp hp
  refine ⟨fun q => ?_, ?_, Nat.lt_of_le_of_lt (nd_le _ _) h.2.2⟩
  · rw [nd_bit, Nat.testBit_or, Nat.testBit_two_pow]
    have := h.1 q
    by_cases hpq : p = q
    · subst hpq; simp
    · simp [hpq]; rw [this]
  · have := nbt_clear hp 6
    rw [h.2.1, if_pos (by omega)] at this
    omega
theorem LFT.hand {T : gTw} {dn left r g s k : Nat} {n : Int} (h : LFT T dn left r) : LFT (handT T g s n k) dn left r := by
  refine ⟨fun p => ?_, h.2⟩
  rw [hand_o (by decide) (by decide), hand_o (by decide) (by decide)]
  exact h.1 p
def g_Week (Γ : gW) : Prop := g_o Γ 240 (.inl (4, [some (some 180), some (some 241), none, none, none])) ∧ g_o Γ 241 (.inr (1, 6)) ∧ g_Town Γ 180
def WKp (σ : gWk) : Prop := WKO σ ∧ (σ.2.2.2 = 2 → σ.1 = 20000)
def WKc (σ : gWk) (M : gM) : Prop := WKp σ ∧ (M.1 240 3).toInt = σ.1 + (if σ.2.2.2 = 2 then 1 else 0) ∧ (M.1 240 4).toInt = σ.2.1 ∧ ∀ i, i < 6 → (M.1 241 i).toInt = σ.2.2.1 i
/-- only the week's own things move -/
def frV (M M' : gM) : Prop := (∀ j, j ≠ 240 → j ≠ 241 → j ≠ 183 → j ≠ 186 → M'.1 j = M.1 j) ∧ M'.2 = M.2 ∧ ∀ k, k ≠ 3 → k ≠ 4 → M'.1 240 k = M.1 240 k
theorem frV.rf {M : gM} : frV M M := ⟨fun _ _ _ _ _ => rfl, rfl, fun _ _ _ => rfl⟩
theorem frV.tr {M M1 M2 : gM} (h : frV M M1) (h2 : frV M1 M2) : frV M M2 := ⟨fun j a b c d => by rw [h2.1 j a b c d, h.1 j a b c d], by rw [h2.2.1, h.2.1], fun k a b => by rw [h2.2.2 k a b, h.2.2 k a b]⟩
theorem frV.u {M : gM} {k : Nat} {x : Int32} (h : k = 3 ∨ k = 4) : frV M (g_u M 240 k x) := ⟨fun j a _ _ _ => by rw [g_u_ne a], rfl, fun i a b => by rw [g_u_eq, if_neg (by omega)]⟩
theorem frV.hand {M : gM} {g k : Nat} {s n : Int32} : frV M (handM M 180 g s n k) := ⟨fun j _ _ c d => handM_ne d c, rfl, fun k _ _ => by rw [handM_ne (by decide) (by decide)]⟩
theorem frV.tbt {M M1 : gM} (h : frV M M1) (ht : TBt M 180) : TBt M1 180 := by
  intro s hs
  have e7 : M1.1 (180 + 7) = M.1 (180 + 7) := h.1 187 (by decide) (by decide) (by decide) (by decide)
  have e9 : M1.1 (180 + 9) = M.1 (180 + 9) := h.1 189 (by decide) (by decide) (by decide) (by decide)
  have e10 : M1.1 (180 + 10) = M.1 (180 + 10) := h.1 190 (by decide) (by decide) (by decide) (by decide)
  have := ht s hs
  unfold wtF at this ⊢
  rw [e7, e9, e10]; exact this
theorem nf_T {M : gM} {t p : Nat} {a z : Int} {T : gTw} (hB : TB M t) (hT : tv M t = T) (hp : p < 6) (h : NF M t p a z) : (z = -1 ∧ ∀ u : Nat, a < (u : Int) → ¬ fitT T p u) ∨ (∃ m : Nat, z = (m : Int) ∧ a < (m : Int) ∧ fitT T p m ∧ ∀ u : Nat, a < (u : Int) → u < m → ¬ fitT T p u) := by
  subst hT
  have e3 : tv M t 3 p = (M.1 (t + 3) p).toInt := tvp (by decide) hp
  rw [NF, v_may hp, v_has hB hp, v_lgt hp, v_hvy hp, ← e3] at h
  rcases h with ⟨hm, hx | ⟨m, h1, h2, h3, h4, h5⟩⟩ | ⟨hm, hz⟩
  · exact Or.inl ⟨hx.1, fun u hu hf => hx.2 u hf.2.1 hu (v_fitW.mpr hf.2.2)⟩
  · exact Or.inr ⟨m, h1, h3, ⟨hm, h2, v_fitW.mp h4⟩, fun u hu hum hf => h5 u hf.2.1 hu hum (v_fitW.mpr hf.2.2)⟩
  · exact Or.inl ⟨hz, fun u _ hf => hm hf.1⟩
theorem wfold_to {f : Nat → gWk → gWk} {σ : gWk} {a b : Nat} (hab : a ≤ b) (h : ∀ u, a ≤ u → u < b → ∀ τ, f u τ = τ) : wfold f b σ = wfold f a σ := wfold_tail b hab (fun u h1 h2 => h u h1 h2 _)
theorem wkSet_fin {on : gTw → gWk → gWk} {T : gTw} {p u : Nat} {σ : gWk} (h : ¬ σ.2.2.2 = 0) : wkSet on T p u σ = σ := wkSet_no (fun q => h q.1)
theorem wfold_fin {on : gTw → gWk → gWk} {T : gTw} {p m : Nat} {σ : gWk} (hm : m ≤ 4096) (h : ¬ (wfold (wkSet on T p) m σ).2.2.2 = 0) : wfold (wkSet on T p) 4096 σ = wfold (wkSet on T p) m σ := wfold_tail 4096 hm (fun u _ _ => wkSet_fin h)
set_option maxHeartbeats 1200000 in
theorem c_wkSpent {Γ : gW} {M : gM} (hA : g_Week Γ) {σ : gWk} (hσ : WKc σ M) : Ct Γ yX4_isSpent μX4_isSpent 0 [.ref 240] M (g_qi (fun z M1 => M1 = M ∧ (z.toInt = 0 ∨ z.toInt = 1) ∧ (z.toInt = 1 ↔ σ.2.2.2 = 2))) := by
  obtain ⟨⟨⟨s1, s2, s3⟩, s4⟩, s5, -⟩ := id hσ
  have s6 : 20000 < (M.1 240 3).toInt ↔ σ.2.2.2 = 2 := by
    by_cases q : σ.2.2.2 = 2
    · rw [if_pos q] at s5; have := s4 q; constructor <;> intro _ <;> first | exact q | omega
    · rw [if_neg q] at s5; constructor <;> intro _ <;> omega
  refine g_enter rfl rfl rfl (Nat.le_of_ble_eq_true rfl) ?_
  show G Γ _ _ _ _ 0 [some (.ref 240)] [] M
  refine g_aload_n0 dX4_isSpent_0 rfl ?_
  refine g_geti dX4_isSpent_1 rfl fX4_26 hA.1 rfl ?_
  refine g_sipushI dX4_isSpent_4 rfl rfl (fun w4 h4 => ?_)
  refine g_icmp_leI (t := 14) dX4_isSpent_7 (by decide) rfl (fun c7 => ?_) (fun c7 => ?_)
  · -- 7 t
    refine g_iconstI dX4_isSpent_14 rfl rfl (fun w14 h14 => ?_)
    refine g_zretI dX4_isSpent_15 rfl (by omega) ?_
    exact ⟨_, rfl, rfl, by omega, by rw [← s6]; omega⟩
  · -- 7 f
    refine g_iconstI dX4_isSpent_10 rfl rfl (fun w10 h10 => ?_)
    refine g_goto (t := 15) dX4_isSpent_11 (by decide) ?_
    refine g_zretI dX4_isSpent_15 rfl (by omega) ?_
    exact ⟨_, rfl, rfl, by omega, by rw [← s6]; omega⟩
