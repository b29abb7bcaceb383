theorem nd0 {a b : Nat} : nd a b = 0 ↔ sub a b := by
  constructor
  · intro h i hi
    have := nd_bit a b i
    rw [h, Nat.zero_testBit, hi] at this
    cases hb : b.testBit i
    · rw [hb] at this; cases this
    · rfl
  · intro h
    refine Nat.eq_of_testBit_eq fun i => ?_
    rw [nd_bit, Nat.zero_testBit]
    cases ha : a.testBit i
    · rfl
    · rw [h i ha]; rfl
theorem lgtT_rng {T : gTw} {p : Nat} (hO : TOK T) (hp : p < 6) : 1 ≤ lgtT T p ∧ lgtT T p ≤ 2000 := by
  have := (hO.2.2.2.2.2.2.1 p hp).2.2.2.1
  have := hO.2.2.2.1
  rw [lgtT]; split <;> omega
set_option maxHeartbeats 4000000 in
theorem r_sandFor {Γ : gW} {M : gM} {T : gTw} (hR : g_Ref Γ) (hO : TOK T) (hC : CR T M) (hW : WR T M) {a : Nat} (ha : g_o Γ a (.inr (1, 30))) (hA : RW T (M.1 a)) {p : Int32} (hp : 0 ≤ p.toInt ∧ p.toInt < T 0 0) {s : Int32} (hs : 0 ≤ s.toInt ∧ s.toInt < (2 : Int) ^ (T 0 1).toNat) {w : Int32} (hw : w.toInt = T 4 p.toInt.toNat) : Ct Γ yX6_sandFor μX6_sandFor 1 [.ref 300, .ref a, .int p, .int s, .int w] M (g_qi (fun z M1 => M1 = M ∧ ((fitT T p.toInt.toNat s.toInt.toNat ∧ z.toInt = sandT T p.toInt.toNat s.toInt.toNat) ∨ (¬ fitT T p.toInt.toNat s.toInt.toNat ∧ z.toInt = -1)))) := by
  obtain ⟨o_pe, o_th, o_la, o_wi, o_da, o_we, o_p, o_i⟩ := id hO
  obtain ⟨r_0, r_1, r_2, r_3, r_p, r_i⟩ := id hC
  have op := o_p p.toInt.toNat (by omega)
  obtain ⟨a_s, a_o, a_t, a_h⟩ := hA.1 p.toInt.toNat (by omega)
  have epn : ((p.toInt.toNat : Nat) : Int) = p.toInt := by omega
  have ep : ((2 ^ (T 0 1).toNat : Nat) : Int) = (2 : Int) ^ (T 0 1).toNat := by simp
  have hp12 : 2 ^ (T 0 1).toNat ≤ 2 ^ 12 := Nat.pow_le_pow_right (by decide) (by omega)
  have hp12e : (2 : Nat) ^ 12 = 4096 := rfl
  have hsn : s.toInt.toNat < 2 ^ (T 0 1).toNat := by omega
  have hwt : wsum (T 7) (T 0 1).toNat s.toInt.toNat = wtT T s.toInt.toNat := (wsum_ext hsn (by omega)).symm
  have hwr := wsum_le (w := T 7) (B := 99) (n := 12) (s := s.toInt.toNat) (fun j hj => (o_i j hj).1) (by omega)
  rw [show wsum (T 7) 12 s.toInt.toNat = wtT T s.toInt.toNat from rfl] at hwr
  have hlr := lgtT_rng (p := p.toInt.toNat) hO (by omega)
  refine g_enter rfl rfl rfl (Nat.le_of_ble_eq_true rfl) ?_
  show G Γ _ _ _ _ 0 [some (.ref 300), some (.ref a), some (.int p), some (.int s), some (.int w), none, none] [] M
  refine g_iload4 dX6_sandFor_0 rfl ?_
  refine g_if_eqI (t := 28) dX6_sandFor_2 (by decide) rfl (fun c2 => ?_) (fun c2 => ?_)
  · -- 2 t
    refine g_iconstI dX6_sandFor_28 rfl rfl (fun w28 h28 => ?_)
    refine g_iret dX6_sandFor_29 rfl ?_
    refine ⟨_, rfl, rfl, Or.inr ⟨fun hf => ?_, by omega⟩⟩
    obtain ⟨⟨m1, m2⟩, m3, -⟩ := hf
    first
      | omega
      | exact hnsub m3
  · -- 2 f
    refine g_aload_n0 dX6_sandFor_5 rfl ?_
    refine g_getr dX6_sandFor_6 rfl fX6_25 hR.1 rfl ?_
    refine g_iconstI dX6_sandFor_9 rfl rfl (fun w9 h9 => ?_)
    refine g_ialdI dX6_sandFor_10 rfl (rf_told hR) ⟨by omega, by omega⟩ ?_
    have et10 : w9.toInt.toNat = 0 := by omega
    rw [et10]
    refine g_iconstI dX6_sandFor_11 rfl rfl (fun w11 h11 => ?_)
    refine g_icmp_ltI (t := 28) dX6_sandFor_12 (by decide) rfl (fun c12 => ?_) (fun c12 => ?_)
    · -- 12 t
      refine g_iconstI dX6_sandFor_28 rfl rfl (fun w28 h28 => ?_)
      refine g_iret dX6_sandFor_29 rfl ?_
      refine ⟨_, rfl, rfl, Or.inr ⟨fun hf => ?_, by omega⟩⟩
      obtain ⟨⟨m1, m2⟩, m3, -⟩ := hf
      first
        | omega
        | exact hnsub m3
    · -- 12 f
      refine g_iload_n3 dX6_sandFor_15 rfl ?_
      refine g_aload_n0 dX6_sandFor_16 rfl ?_
      refine g_aload_n1 dX6_sandFor_17 rfl ?_
      refine g_iload_n2 dX6_sandFor_18 rfl ?_
      refine g_callVi2 dX6_sandFor_19 rfl vX6_266 hR.1 rfl (r_hasOf hR hO hC ha) (g_rm (by omega)) (Nat.le_of_ble_eq_true rfl) (fun z19 M19 e19 => ?_)
      obtain ⟨rfl, e19⟩ := e19
      rw [← epn, RW.has hA (by omega)] at e19
      refine g_iconstI dX6_sandFor_22 rfl rfl (fun w22 h22 => ?_)
      refine g_ixorB dX6_sandFor_23 rfl  (fun w23 h23 => ?_)
      refine g_iandB dX6_sandFor_24 rfl  (fun w24 h24 => ?_)
      rw [h23, bn_neg1 h22, and_not (bn_lt _), e19, bn_toNat hs.1] at h24
      have hndl := nd_le s.toInt.toNat (hasT T p.toInt.toNat)
      have e24 : w24.toInt = bn w24 := i_bn (by omega)
      refine g_if_eqI (t := 30) dX6_sandFor_25 (by decide) rfl (fun c25 => ?_) (fun c25 => ?_)
      · -- 25 t
        have hsub : sub s.toInt.toNat (hasT T p.toInt.toNat) := nd0.mp (by omega)
        refine g_aload_n0 dX6_sandFor_30 rfl ?_
        refine g_iload_n3 dX6_sandFor_31 rfl ?_
        refine g_callVi1 dX6_sandFor_32 rfl vX6_273 hR.1 rfl (r_weightOf hR hO hC hW (by omega)) (g_rm (by omega)) (Nat.le_of_ble_eq_true rfl) (fun z32 M32 e32 => ?_)
        obtain ⟨rfl, e32⟩ := e32
        rw [hwt] at e32
        refine g_istore5 dX6_sandFor_35 rfl rfl ?_
        refine g_iconstI dX6_sandFor_37 rfl rfl (fun w37 h37 => ?_)
        refine g_aload_n0 dX6_sandFor_38 rfl ?_
        refine g_iload4 dX6_sandFor_39 rfl ?_
        refine g_callVi1 dX6_sandFor_41 rfl vX6_279 hR.1 rfl (r_lightest hR hO hC ⟨by omega, by omega⟩) (g_rm (by omega)) (Nat.le_of_ble_eq_true rfl) (fun z41 M41 e41 => ?_)
        obtain ⟨rfl, e41⟩ := e41
        rw [hw] at e41
        have e41 : z41.toInt = lgtT T p.toInt.toNat := e41
        refine g_iload5 dX6_sandFor_44 rfl ?_
        refine g_isubI dX6_sandFor_46 rfl ⟨by omega, by omega⟩ (fun w46 h46 => ?_)
        refine g_mmaxI dX6_sandFor_47 rfl jX6_282 jm_max_s jm_i jm_max_c ⟨by show 1 ≤ _ + 1; omega, by show _ ≤ 40 + 50 * _; simp [Value.category] <;> omega⟩ (fun w47 h47 => ?_)
        have e47 : w47.toInt = sandT T p.toInt.toNat s.toInt.toNat := by rw [h47, h46, h37, e41, e32, sandT]
        have hsd : (0 < lgtT T p.toInt.toNat - wtT T s.toInt.toNat ∧ w47.toInt = lgtT T p.toInt.toNat - wtT T s.toInt.toNat) ∨ (lgtT T p.toInt.toNat - wtT T s.toInt.toNat ≤ 0 ∧ w47.toInt = 0) := by
          rw [e47, sandT]; split <;> omega
        have hlh : lgtT T p.toInt.toNat ≤ hvyT T p.toInt.toNat := by
          rw [lgtT, hvyT]; split <;> omega
        refine g_istore6 dX6_sandFor_50 rfl rfl ?_
        refine g_iload5 dX6_sandFor_52 rfl ?_
        refine g_iload6 dX6_sandFor_54 rfl ?_
        refine g_iaddI dX6_sandFor_56 rfl ⟨by omega, by omega⟩ (fun w56 h56 => ?_)
        refine g_iload4 dX6_sandFor_57 rfl ?_
        refine g_aload_n0 dX6_sandFor_59 rfl ?_
        refine g_getr dX6_sandFor_60 rfl fX6_25 hR.1 rfl ?_
        refine g_iconstI dX6_sandFor_63 rfl rfl (fun w63 h63 => ?_)
        refine g_ialdI dX6_sandFor_64 rfl (rf_told hR) ⟨by omega, by omega⟩ ?_
        have et64 : w63.toInt.toNat = 3 := by omega
        rw [et64]
        refine g_iaddI dX6_sandFor_65 rfl ⟨by omega, by omega⟩ (fun w65 h65 => ?_)
        refine g_icmp_gtI (t := 85) dX6_sandFor_66 (by decide) rfl (fun c66 => ?_) (fun c66 => ?_)
        · -- 66 t
          refine g_iconstI dX6_sandFor_85 rfl rfl (fun w85 h85 => ?_)
          refine g_iret dX6_sandFor_86 rfl ?_
          first
            | (refine ⟨_, rfl, rfl, Or.inl ⟨⟨⟨by omega, by omega⟩, hsub, ?_, ?_⟩, e47⟩⟩ <;> (first | (rw [hvyT] at *; omega) | omega))
            | (refine ⟨_, rfl, rfl, Or.inr ⟨fun hf => ?_, by omega⟩⟩; obtain ⟨-, -, m4, m5⟩ := hf; rw [hvyT] at *; omega)
        · -- 66 f
          refine g_iload6 dX6_sandFor_69 rfl ?_
          refine g_aload_n1 dX6_sandFor_71 rfl ?_
          refine g_bipushI dX6_sandFor_72 rfl rfl (fun w72 h72 => ?_)
          refine g_iload_n2 dX6_sandFor_74 rfl ?_
          refine g_iaddI dX6_sandFor_75 rfl ⟨by omega, by omega⟩ (fun w75 h75 => ?_)
          refine g_ialdI dX6_sandFor_76 rfl ha ⟨by omega, by omega⟩ ?_
          have e75 : w75.toInt.toNat = 12 + p.toInt.toNat := by omega
          rw [e75]
          refine g_icmp_gtI (t := 85) dX6_sandFor_77 (by decide) rfl (fun c77 => ?_) (fun c77 => ?_)
          · -- 77 t
            refine g_iconstI dX6_sandFor_85 rfl rfl (fun w85 h85 => ?_)
            refine g_iret dX6_sandFor_86 rfl ?_
            first
              | (refine ⟨_, rfl, rfl, Or.inl ⟨⟨⟨by omega, by omega⟩, hsub, ?_, ?_⟩, e47⟩⟩ <;> (first | (rw [hvyT] at *; omega) | omega))
              | (refine ⟨_, rfl, rfl, Or.inr ⟨fun hf => ?_, by omega⟩⟩; obtain ⟨-, -, m4, m5⟩ := hf; rw [hvyT] at *; omega)
          · -- 77 f
            refine g_iload6 dX6_sandFor_80 rfl ?_
            refine g_goto (t := 86) dX6_sandFor_82 (by decide) ?_
            refine g_iret dX6_sandFor_86 rfl ?_
            first
              | (refine ⟨_, rfl, rfl, Or.inl ⟨⟨⟨by omega, by omega⟩, hsub, ?_, ?_⟩, e47⟩⟩ <;> (first | (rw [hvyT] at *; omega) | omega))
              | (refine ⟨_, rfl, rfl, Or.inr ⟨fun hf => ?_, by omega⟩⟩; obtain ⟨-, -, m4, m5⟩ := hf; rw [hvyT] at *; omega)
      · -- 25 f
        have hnsub : ¬ sub s.toInt.toNat (hasT T p.toInt.toNat) := fun h => by have := nd0.mpr h; omega
        refine g_iconstI dX6_sandFor_28 rfl rfl (fun w28 h28 => ?_)
        refine g_iret dX6_sandFor_29 rfl ?_
        refine ⟨_, rfl, rfl, Or.inr ⟨fun hf => ?_, by omega⟩⟩
        obtain ⟨⟨m1, m2⟩, m3, -⟩ := hf
        first
          | omega
          | exact hnsub m3
set_option maxHeartbeats 4000000 in
theorem r_fits {Γ : gW} {M : gM} {T : gTw} (hR : g_Ref Γ) (hO : TOK T) (hC : CR T M) (hW : WR T M) {a : Nat} (ha : g_o Γ a (.inr (1, 30))) (hA : RW T (M.1 a)) {p : Int32} (hp : 0 ≤ p.toInt ∧ p.toInt < T 0 0) {s : Int32} (hs : 0 ≤ s.toInt ∧ s.toInt < (2 : Int) ^ (T 0 1).toNat)  : Ct Γ yX6_fits μX6_fits 2 [.ref 300, .ref a, .int p, .int s] M (g_qi (fun z M1 => M1 = M ∧ (z.toInt = 0 ∨ z.toInt = 1) ∧ (z.toInt = 1 ↔ fitT T p.toInt.toNat s.toInt.toNat))) := by
  obtain ⟨o_pe, o_th, o_la, o_wi, o_da, o_we, o_p, o_i⟩ := id hO
  obtain ⟨r_0, r_1, r_2, r_3, r_p, r_i⟩ := id hC
  have op := o_p p.toInt.toNat (by omega)
  obtain ⟨a_s, a_o, a_t, a_h⟩ := hA.1 p.toInt.toNat (by omega)
  have epn : ((p.toInt.toNat : Nat) : Int) = p.toInt := by omega
  refine g_enter rfl rfl rfl (Nat.le_of_ble_eq_true rfl) ?_
  show G Γ _ _ _ _ 0 [some (.ref 300), some (.ref a), some (.int p), some (.int s)] [] M
  refine g_aload_n0 dX6_fits_0 rfl ?_
  refine g_aload_n1 dX6_fits_1 rfl ?_
  refine g_iload_n2 dX6_fits_2 rfl ?_
  refine g_iload_n3 dX6_fits_3 rfl ?_
  refine g_aload_n1 dX6_fits_4 rfl ?_
  refine g_bipushI dX6_fits_5 rfl rfl (fun w5 h5 => ?_)
  refine g_iload_n2 dX6_fits_7 rfl ?_
  refine g_iaddI dX6_fits_8 rfl ⟨by omega, by omega⟩ (fun w8 h8 => ?_)
  have e8 : w8.toInt.toNat = 18 + p.toInt.toNat := by omega
  refine g_ialdI dX6_fits_9 rfl ha ⟨by omega, by omega⟩ ?_
  refine g_callVi4 dX6_fits_10 rfl vX6_297 hR.1 rfl (r_sandFor hR hO hC hW ha hA hp hs (by rw [e8]; exact a_o)) (g_rm (by omega)) (Nat.le_of_ble_eq_true rfl) (fun z10 M10 e10 => ?_)
  obtain ⟨rfl, e10⟩ := e10
  have hs0 : 0 ≤ sandT T p.toInt.toNat s.toInt.toNat := by rw [sandT]; split <;> omega
  refine g_iconstI dX6_fits_13 rfl rfl (fun w13 h13 => ?_)
  refine g_icmp_eqI (t := 21) dX6_fits_14 (by decide) rfl (fun c14 => ?_) (fun c14 => ?_)
  · -- 14 t
    refine g_iconstI dX6_fits_21 rfl rfl (fun w21 h21 => ?_)
    refine g_zretI dX6_fits_22 rfl (by omega) ?_
    refine ⟨_, rfl, rfl, by omega, ?_⟩
    rcases e10 with ⟨f1, f2⟩ | ⟨f1, f2⟩
    · exact ⟨fun _ => f1, fun _ => by omega⟩
    · exact ⟨fun h => by omega, fun h => absurd h f1⟩
  · -- 14 f
    refine g_iconstI dX6_fits_17 rfl rfl (fun w17 h17 => ?_)
    refine g_goto (t := 22) dX6_fits_18 (by decide) ?_
    refine g_zretI dX6_fits_22 rfl (by omega) ?_
    refine ⟨_, rfl, rfl, by omega, ?_⟩
    rcases e10 with ⟨f1, f2⟩ | ⟨f1, f2⟩
    · exact ⟨fun _ => f1, fun _ => by omega⟩
    · exact ⟨fun h => by omega, fun h => absurd h f1⟩
theorem wsum_clear {w : Nat → Int} {n x y k : Nat} (hk : k < n) (hx : x.testBit k = true) (h : ∀ i, y.testBit i = (x.testBit i && !decide (i = k))) : wsum w n x = wsum w n y + w k := by
  induction n with
  | zero => omega
  | succ n ih =>
    rw [wsum, wsum, h n]
    by_cases hn : k = n
    · subst hn
      have e : wsum w k x = wsum w k y := wsum_congr (fun i hi => by
        have hik : ¬ i = k := by omega
        rw [h i]; simp [hik])
      rw [e, hx]; simp
    · have hn2 : ¬ n = k := fun e => hn e.symm
      rw [ih (by omega)]; simp [hn2]; omega
theorem clear_low {x : Nat} (h0 : 0 < x) : ∃ k, x.testBit k = true ∧ ∀ i, (x &&& (x - 1)).testBit i = (x.testBit i && !decide (i = k)) := by
  obtain ⟨k, j, e⟩ := low_ex x h0
  have e1 : x - 1 = 2 ^ k * (2 * j) + (2 ^ k - 1) := by
    have : 0 < 2 ^ k := Nat.two_pow_pos k
    rw [e, Nat.mul_add, Nat.mul_one]; omega
  have hb : ∀ i, x.testBit i = (decide (k ≤ i) && (2 * j + 1).testBit (i - k)) := fun i => by rw [e, Nat.testBit_two_pow_mul]
  refine ⟨k, by rw [hb]; simp, fun i => ?_⟩
  rw [Nat.testBit_and, e1, Nat.testBit_two_pow_mul_add _ (by have := Nat.two_pow_pos k; omega), hb]
  by_cases h1 : i < k
  · have : ¬ k ≤ i := by omega
    simp [this]
  · rw [if_neg h1]
    by_cases h2 : i = k
    · subst h2; simp
    · obtain ⟨m, em⟩ : ∃ m, i = k + (m + 1) := ⟨i - k - 1, by omega⟩
      rw [em, show k + (m + 1) - k = m + 1 by omega, Nat.testBit_succ, Nat.testBit_succ, show (2 * j + 1) / 2 = 2 * j / 2 by omega]
      have : ¬ k + (m + 1) = k := by omega
      simp [this]
set_option maxHeartbeats 4000000 in
theorem l_bitsOf {Γ : gW} {M : gM} {s : Int32} (hs : 0 ≤ s.toInt ∧ s.toInt < 4096) {Q : Option Value → gM → Prop} (hQ : ∀ z : Int32, z.toInt = popc s.toInt.toNat → Q (some (.int z)) M) : ∀ (n : Nat) (n1 l : Int32), l.toInt.toNat = n → 0 ≤ l.toInt → l.toInt < 4096 → 0 ≤ n1.toInt → n1.toInt + popc l.toInt.toNat = popc s.toInt.toNat → G Γ μX6_bitsOf (g_R 0) (0, 0) (g_Z Γ Q) 4 [some (.int s), some (.int n1), some (.int l)] [] M := by
  intro n
  induction n using Nat.strongRecOn with
  | ind n ih =>
    intro n1 l hn hl0 hl1 hn0 hpop
    have hpr := wsum_le (w := fun _ => 1) (B := 1) (n := 12) (s := s.toInt.toNat) (fun _ _ => by omega) (by omega)
    have hpl := wsum_le (w := fun _ => 1) (B := 1) (n := 12) (s := l.toInt.toNat) (fun _ _ => by omega) (by omega)
    have hpe : ∀ x, wsum (fun _ => 1) 12 x = popc x := fun _ => rfl
    rw [hpe] at hpr hpl
    refine g_iload_n2 dX6_bitsOf_4 rfl ?_
    refine g_if_eqI (t := 20) dX6_bitsOf_5 (by decide) rfl (fun c5 => ?_) (fun c5 => ?_)
    · -- 5 t
      refine g_iload_n1 dX6_bitsOf_20 rfl ?_
      refine g_iret dX6_bitsOf_21 rfl ?_
      refine hQ _ ?_
      rw [show l.toInt.toNat = 0 by omega, show popc 0 = 0 from rfl] at hpop
      omega
    · -- 5 f
      refine g_iincI1 dX6_bitsOf_8 rfl rfl rfl ⟨by omega, by omega⟩ (fun w8 h8 => ?_)
      refine g_iload_n2 dX6_bitsOf_11 rfl ?_
      refine g_iload_n2 dX6_bitsOf_12 rfl ?_
      refine g_iconstI dX6_bitsOf_13 rfl rfl (fun w13 h13 => ?_)
      refine g_isubI dX6_bitsOf_14 rfl ⟨by omega, by omega⟩ (fun w14 h14 => ?_)
      refine g_iandB dX6_bitsOf_15 rfl  (fun w15 h15 => ?_)
      have e14 : bn w14 = l.toInt.toNat - 1 := by rw [bn_toNat (by omega)]; omega
      rw [bn_toNat hl0, e14] at h15
      have hle : l.toInt.toNat &&& (l.toInt.toNat - 1) ≤ l.toInt.toNat - 1 := Nat.and_le_right
      have e15 : w15.toInt = bn w15 := i_bn (by omega)
      obtain ⟨k, hk1, hk2⟩ := clear_low (x := l.toInt.toNat) (by omega)
      have hk12 : k < 12 := by
        have h3 := Nat.ge_two_pow_of_testBit hk1
        rcases Nat.lt_or_ge k 12 with h | h
        · exact h
        · have := Nat.pow_le_pow_right (n := 2) (by decide) h
          have : (2 : Nat) ^ 12 = 4096 := rfl
          omega
      have hcl : popc l.toInt.toNat = popc (l.toInt.toNat &&& (l.toInt.toNat - 1)) + 1 := wsum_clear hk12 hk1 hk2
      have e15b : w15.toInt.toNat = l.toInt.toNat &&& (l.toInt.toNat - 1) := by omega
      refine g_istore_n2 dX6_bitsOf_16 rfl rfl ?_
      refine g_goto (t := 4) dX6_bitsOf_17 (by decide) ?_
      exact ih _ (by omega) _ _ rfl (by omega) (by omega) (by omega) (by rw [e15b]; omega)
set_option maxHeartbeats 4000000 in
theorem r_bitsOf {Γ : gW} {M : gM} {s : Int32} (hs : 0 ≤ s.toInt ∧ s.toInt < 4096) : Ct Γ yX6_bitsOf μX6_bitsOf 0 [.int s] M (g_qi (fun z M1 => M1 = M ∧ z.toInt = popc s.toInt.toNat)) := by
  refine g_enter rfl rfl rfl (Nat.le_of_ble_eq_true rfl) ?_
  show G Γ _ _ _ _ 0 [some (.int s), none, none] [] M
  refine g_iconstI dX6_bitsOf_0 rfl rfl (fun w0 h0 => ?_)
  refine g_istore_n1 dX6_bitsOf_1 rfl rfl ?_
  refine g_iload_n0 dX6_bitsOf_2 rfl ?_
  refine g_istore_n2 dX6_bitsOf_3 rfl rfl ?_
  exact l_bitsOf hs (fun z hz => ⟨_, rfl, rfl, hz⟩) _ _ _ rfl (by omega) (by omega) (by omega) (by omega)
set_option maxHeartbeats 4000000 in
theorem r_rankOf {Γ : gW} {M : gM} {T : gTw} (hR : g_Ref Γ) (hO : TOK T) (hC : CR T M) {p : Int32} (hp : 0 ≤ p.toInt ∧ p.toInt < T 0 0) {s : Int32} (hs : 0 ≤ s.toInt ∧ s.toInt < (2 : Int) ^ (T 0 1).toNat)  : Ct Γ yX6_rankOf μX6_rankOf 1 [.ref 300, .int p, .int s] M (g_qi (fun z M1 => M1 = M ∧ z.toInt = rankT T p.toInt.toNat s.toInt.toNat)) := by
  obtain ⟨o_pe, o_th, o_la, o_wi, o_da, o_we, o_p, o_i⟩ := id hO
  obtain ⟨r_0, r_1, r_2, r_3, r_p, r_i⟩ := id hC
  have ep : ((2 ^ (T 0 1).toNat : Nat) : Int) = (2 : Int) ^ (T 0 1).toNat := by simp
  have hp12 : 2 ^ (T 0 1).toNat ≤ 2 ^ 12 := Nat.pow_le_pow_right (by decide) (by omega)
  have hp12e : (2 : Nat) ^ 12 = 4096 := rfl
  have rp := r_p p.toInt.toNat (by omega)
  refine g_enter rfl rfl rfl (Nat.le_of_ble_eq_true rfl) ?_
  show G Γ _ _ _ _ 0 [some (.ref 300), some (.int p), some (.int s)] [] M
  refine g_aload_n0 dX6_rankOf_0 rfl ?_
  refine g_getr dX6_rankOf_1 rfl fX6_29 hR.1 rfl ?_
  refine g_iload_n1 dX6_rankOf_4 rfl ?_
  refine g_ialdI dX6_rankOf_5 rfl (rf_kind hR) ⟨by omega, by omega⟩ ?_
  refine g_iconstI dX6_rankOf_6 rfl rfl (fun w6 h6 => ?_)
  refine g_icmp_neI (t := 18) dX6_rankOf_7 (by decide) rfl (fun c7 => ?_) (fun c7 => ?_)
  · -- 7 t
    refine g_aload_n0 dX6_rankOf_18 rfl ?_
    refine g_getr dX6_rankOf_19 rfl fX6_29 hR.1 rfl ?_
    refine g_iload_n1 dX6_rankOf_22 rfl ?_
    refine g_ialdI dX6_rankOf_23 rfl (rf_kind hR) ⟨by omega, by omega⟩ ?_
    refine g_iconstI dX6_rankOf_24 rfl rfl (fun w24 h24 => ?_)
    refine g_icmp_neI (t := 35) dX6_rankOf_25 (by decide) rfl (fun c25 => ?_) (fun c25 => ?_)
    · -- 25 t
      refine g_iconstI dX6_rankOf_35 rfl rfl (fun w35 h35 => ?_)
      refine g_iret dX6_rankOf_36 rfl ?_
      refine ⟨_, rfl, rfl, ?_⟩
      rw [rankT]
      first
        | (rw [if_pos (by omega)]; exact e12)
        | (rw [if_neg (by omega), if_pos (by omega)]; exact e29)
        | (rw [if_neg (by omega), if_neg (by omega)]; omega)
    · -- 25 f
      refine g_iload_n2 dX6_rankOf_28 rfl ?_
      refine g_callSi1 dX6_rankOf_29 rfl sX6_305 (r_bitsOf ⟨by omega, by omega⟩) (g_rm (by omega)) (Nat.le_of_ble_eq_true rfl) (fun z29 M29 e29 => ?_)
      obtain ⟨rfl, e29⟩ := e29
      refine g_goto (t := 36) dX6_rankOf_32 (by decide) ?_
      refine g_iret dX6_rankOf_36 rfl ?_
      refine ⟨_, rfl, rfl, ?_⟩
      rw [rankT]
      first
        | (rw [if_pos (by omega)]; exact e12)
        | (rw [if_neg (by omega), if_pos (by omega)]; exact e29)
        | (rw [if_neg (by omega), if_neg (by omega)]; omega)
  · -- 7 f
    refine g_aload_n0 dX6_rankOf_10 rfl ?_
    refine g_iload_n2 dX6_rankOf_11 rfl ?_
    refine g_callVi1 dX6_rankOf_12 rfl vX6_270 hR.1 rfl (r_worthOf hR hO hC (by omega)) (g_rm (by omega)) (Nat.le_of_ble_eq_true rfl) (fun z12 M12 e12 => ?_)
    obtain ⟨rfl, e12⟩ := e12
    refine g_goto (t := 36) dX6_rankOf_15 (by decide) ?_
    refine g_iret dX6_rankOf_36 rfl ?_
    refine ⟨_, rfl, rfl, ?_⟩
    rw [rankT]
    first
      | (rw [if_pos (by omega)]; exact e12)
      | (rw [if_neg (by omega), if_pos (by omega)]; exact e29)
      | (rw [if_neg (by omega), if_neg (by omega)]; omega)
