/-- those who owe, of the first n -/
def oweS (T : gTw) : Nat → Nat
  | 0 => 0
  | n + 1 => oweS T n ||| (if (n : Int) < T 0 0 ∧ 0 < T 4 n then 2 ^ n else 0)
theorem oweS_lt (T : gTw) : ∀ n, oweS T n < 2 ^ n := by
  intro n
  induction n with
  | zero => exact (by decide : (0 : Nat) < 2 ^ 0)
  | succ n ih =>
    rw [oweS]
    split
    · exact lt_or_pow ih
    · rw [Nat.or_zero, Nat.pow_succ]; omega
theorem oweS_bit {T : gTw} : ∀ n p : Nat, (oweS T n).testBit p = true ↔ (p < n ∧ (p : Int) < T 0 0 ∧ 0 < T 4 p) := by
  intro n
  induction n with
  | zero => intro p; rw [oweS, Nat.zero_testBit]; exact ⟨fun q => absurd q (by decide), fun q => absurd q.1 (by omega)⟩
  | succ n ih =>
    intro p
    rw [oweS, Nat.testBit_or, Bool.or_eq_true, ih p]
    by_cases hc : (n : Int) < T 0 0 ∧ 0 < T 4 n
    · rw [if_pos hc, Nat.testBit_two_pow]
      by_cases hpn : p = n
      · subst hpn; simp; exact hc
      · simp; omega
    · rw [if_neg hc, Nat.zero_testBit]
      by_cases hpn : p = n
      · subst hpn; simp; intro q; omega
      · simp; omega
theorem oweS_nbt {T : gTw} : ∀ n : Nat, nbt n (oweS T n) = owe T n := by
  have ext : ∀ n s s' : Nat, (∀ p, p < n → s.testBit p = s'.testBit p) → nbt n s = nbt n s' := by
    intro n
    induction n with
    | zero => intro s s' _; rfl
    | succ n ih => intro s s' h; rw [nbt, nbt, ih s s' (fun p hp => h p (by omega)), h n (by omega)]
  intro n
  induction n with
  | zero => rfl
  | succ n ih =>
    rw [nbt, owe, ← ih]
    congr 1
    · refine ext n _ _ (fun p hp => ?_)
      have a := oweS_bit (T := T) (n + 1) p
      have b := oweS_bit (T := T) n p
      cases h1 : (oweS T (n + 1)).testBit p <;> cases h2 : (oweS T n).testBit p
      · rfl
      · rw [h1] at a; have := a.mpr ⟨by omega, (b.mp h2).2⟩; cases this
      · rw [h2] at b; have := b.mpr ⟨hp, (a.mp h1).2⟩; cases this
      · rfl
    · have a := oweS_bit (T := T) (n + 1) n
      by_cases hc : (n : Int) < T 0 0 ∧ 0 < T 4 n
      · rw [if_pos (a.mpr ⟨by omega, hc⟩), if_pos hc]
      · rw [if_neg (fun q => hc (a.mp q).2), if_neg hc]
theorem oweS_top {T : gTw} (hO : TOK T) : oweS T (T 0 0).toNat = oweS T 6 ∧ owe T (T 0 0).toNat = owe T 6 := by
  have hb := hO.1
  have h : ∀ k : Nat, (T 0 0).toNat + k ≤ 6 → oweS T ((T 0 0).toNat + k) = oweS T (T 0 0).toNat ∧ owe T ((T 0 0).toNat + k) = owe T (T 0 0).toNat := by
    intro k
    induction k with
    | zero => intro _; exact ⟨rfl, rfl⟩
    | succ k ih =>
      intro hk
      have := ih (by omega)
      rw [← Nat.add_assoc, oweS, owe, if_neg (by omega), if_neg (by omega), Nat.or_zero, Nat.add_zero]
      exact this
  have := h (6 - (T 0 0).toNat) (by omega)
  rw [show (T 0 0).toNat + (6 - (T 0 0).toNat) = 6 by omega] at this
  exact ⟨this.1.symm, this.2.symm⟩
theorem LFT.all {T : gTw} (hO : TOK T) : LFT T 0 (oweS T 6) (owe T 6) := by
  have hb := hO.1
  refine ⟨fun p => ?_, oweS_nbt 6, oweS_lt T 6⟩
  rw [oweS_bit, Nat.zero_testBit]
  constructor
  · intro q; exact ⟨q.2.1, by omega, rfl⟩
  · intro q
    have := (hO.2.2.2.2.2.2.1 p (by omega)).2.2.2.1
    exact ⟨by omega, q.1, by omega⟩
theorem CP.tbt {M M1 : gM} {t t2 : Nat} (h : CP M M1 t t2) (ht : TBt M t2) : TBt M1 t := by
  intro s hs
  have l64 : ∀ f, 9 ≤ f → lenT f = 64 := fun f hf => by rw [lenT, if_neg (by omega), if_neg (by omega)]
  have l12 : lenT 7 = 12 := rfl
  have e7 : ∀ i, i < 12 → wtF M1 t i = wtF M t2 i := fun i hi => by
    show (M1.1 (t + 7) i).toInt = (M.1 (t2 + 7) i).toInt
    rw [h.2.2 7 (by decide) i (by rw [l12]; exact hi)]
  have := ht s hs
  rw [h.2.2 9 (by decide) s (by rw [l64 _ (by decide)]; exact hs), h.2.2 10 (by decide) s (by rw [l64 _ (by decide)]; exact hs), wsum_fcongr (fun i hi => e7 i (by omega)), wsum_fcongr (w := fun i => wtF M1 t (6 + i)) (v := fun i => wtF M t2 (6 + i)) (fun i hi => e7 (6 + i) (by omega))]
  exact this
/-- the week's things and its town's all may move -/
def frY (M M' : gM) : Prop := (∀ j, j ≠ 240 → j ≠ 241 → (j < 180 ∨ 190 < j) → M'.1 j = M.1 j) ∧ M'.2 = M.2
theorem frV.y {M M1 : gM} (h : frV M M1) : frY M M1 := ⟨fun j a b c => h.1 j a b (by omega) (by omega), h.2.1⟩
theorem frY.tr {M M1 M2 : gM} (h : frY M M1) (h2 : frY M1 M2) : frY M M2 := ⟨fun j a b c => by rw [h2.1 j a b c, h.1 j a b c], by rw [h2.2, h.2]⟩
set_option maxHeartbeats 1200000 in
theorem l_ta {Γ : gW} (hA : g_Week Γ) {T : gTw} {t2 : Nat} {M0 : gM} (hO : TOK T) {Q : Option Value → gM → Prop} (hk : ∀ (lf p : Int32) (M : gM), lf.toInt = (oweS T 6 : Int) → (M.1 240 2).toInt = (owe T 6 : Int) → (∀ j, j ≠ 240 → M.1 j = M0.1 j) → M.2 = M0.2 → (∀ k, k ≠ 2 → M.1 240 k = M0.1 240 k) → G Γ μX4_tryAll (g_R 15) (0, 0) (g_Z Γ Q) 72 [some (.ref 240), some (.ref t2), some (.int lf), some (.int p)] [] M) : ∀ (n9 : Nat) (lf p : Int32) (M : gM), 6 - p.toInt.toNat = n9 → 0 ≤ p.toInt → p.toInt ≤ T 0 0 → tv M 180 = T → bn lf = oweS T p.toInt.toNat → (M.1 240 2).toInt = (owe T p.toInt.toNat : Int) → (∀ j, j ≠ 240 → M.1 j = M0.1 j) → M.2 = M0.2 → (∀ k, k ≠ 2 → M.1 240 k = M0.1 240 k) → G Γ μX4_tryAll (g_R 15) (0, 0) (g_Z Γ Q) 27 [some (.ref 240), some (.ref t2), some (.int lf), some (.int p)] [] M := by
  intro n9
  induction n9 using Nat.strongRecOn with
  | ind n9 ih =>
    intro lf p M h9 hp0 hp1 hT hlf how g1 g2 g3
    have hb0 := hO.1
    have t00 : (M.1 180 0).toInt = T 0 0 := by rw [← hT]; exact (tv0 (by decide)).symm
    have hle := owe_le T p.toInt.toNat
    have hlt := oweS_lt T p.toInt.toNat
    refine g_iload_n3 dX4_tryAll_27 rfl ?_
    refine g_aload_n0 dX4_tryAll_28 rfl ?_
    refine g_getr dX4_tryAll_29 rfl fX4_12 hA.1 rfl ?_
    refine g_geti dX4_tryAll_32 rfl fX4_36 hA.2.2.1 rfl ?_
    refine g_icmp_geI (t := 72) dX4_tryAll_35 (by decide) rfl (fun c35 => ?_) (fun c35 => ?_)
    · -- 35 t
      have htop := oweS_top hO
      rw [show (T 0 0).toNat = p.toInt.toNat by omega] at htop
      refine hk lf p M ?_ (by rw [how, htop.2]) g1 g2 g3
      have := oweS_lt T 6
      rw [i_bn (by rw [hlf, htop.1]; omega), hlf, htop.1]
    · -- 35 f
      refine g_aload_n0 dX4_tryAll_38 rfl ?_
      refine g_getr dX4_tryAll_39 rfl fX4_12 hA.1 rfl ?_
      refine g_getr dX4_tryAll_42 rfl fX4_39 hA.2.2.1 rfl ?_
      refine g_iload_n3 dX4_tryAll_45 rfl ?_
      refine g_ialdI dX4_tryAll_46 rfl (tw_owed hA.2.2) ⟨by omega, by omega⟩ ?_
      have t4 : p.toInt.toNat < 6 → (M.1 (180 + 4) p.toInt.toNat).toInt = T 4 p.toInt.toNat := fun h => by rw [← hT]; exact (tvp (f := 4) (by decide) h).symm
      refine g_if_leI (t := 66) dX4_tryAll_47 (by decide) rfl (fun c47 => ?_) (fun c47 => ?_)
      · -- 47 t
        refine g_iincI3 dX4_tryAll_66 rfl rfl rfl ⟨by omega, by omega⟩ (fun w66 h66 => ?_)
        refine g_goto (t := 27) dX4_tryAll_69 (by decide) ?_
        have e1 : w66.toInt.toNat = p.toInt.toNat + 1 := by omega
        have t5 := t4 (by omega)
        clear t4
        first
          | (have hz : ¬ 0 < T 4 p.toInt.toNat := by omega
             exact ih _ (show 6 - w66.toInt.toNat < n9 by omega) lf w66 M rfl (by omega) (by omega) hT (by rw [e1, oweS, if_neg (fun q => hz q.2), Nat.or_zero]; exact hlf) (by rw [e1, owe, if_neg (fun q => hz q.2)]; exact how) g1 g2 g3)
          | (have hz : (p.toInt.toNat : Int) < T 0 0 ∧ 0 < T 4 p.toInt.toNat := by omega
             obtain ⟨M', hM'⟩ : ∃ M', M' = g_u M 240 2 w62 := ⟨_, rfl⟩
             refine g_fwd (M1 := M') ?_ hM'
             refine ih _ (show 6 - w66.toInt.toNat < n9 by omega) w54 w66 M' rfl (by omega) (by omega) ?_ (by rw [e1, oweS, if_pos hz]; exact h54) ?_ (fun j hj => by rw [hM', g_u_ne hj]; exact g1 j hj) (by rw [hM']; exact g2) (fun k hk2 => by rw [hM', g_u_eq, if_neg hk2]; exact g3 k hk2)
             · rw [← hT]; exact tv_far (fun j a b => by rw [hM', g_u_ne (by omega)])
             · rw [hM', g_u_eq, if_pos rfl, e1, owe, if_pos hz]; omega)
      · -- 47 f
        refine g_iload_n2 dX4_tryAll_50 rfl ?_
        refine g_iconstI dX4_tryAll_51 rfl rfl (fun w51 h51 => ?_)
        refine g_iload_n3 dX4_tryAll_52 rfl ?_
        refine g_ishlB dX4_tryAll_53 rfl ⟨by omega, by omega⟩ (fun w53 h53 => ?_)
        rw [bn_lit (n := 1) h51, Nat.shiftLeft_eq, Nat.one_mul] at h53
        have h2p : 2 ^ p.toInt.toNat ≤ 32 := Nat.pow_le_pow_right (by decide : 2 > 0) (show p.toInt.toNat ≤ 5 by omega)
        rw [Nat.mod_eq_of_lt (by omega)] at h53
        refine g_iorB dX4_tryAll_54 rfl  (fun w54 h54 => ?_)
        rw [hlf, h53] at h54
        refine g_istore_n2 dX4_tryAll_55 rfl rfl ?_
        refine g_aload_n0 dX4_tryAll_56 rfl ?_
        refine g_dup dX4_tryAll_57 rfl rfl ?_
        refine g_geti dX4_tryAll_58 rfl fX4_22 hA.1 rfl ?_
        refine g_iconstI dX4_tryAll_61 rfl rfl (fun w61 h61 => ?_)
        refine g_iaddI dX4_tryAll_62 rfl ⟨by omega, by omega⟩ (fun w62 h62 => ?_)
        refine g_put dX4_tryAll_63 rfl fX4_22 hA.1 rfl rfl rfl ?_
        refine g_iincI3 dX4_tryAll_66 rfl rfl rfl ⟨by omega, by omega⟩ (fun w66 h66 => ?_)
        refine g_goto (t := 27) dX4_tryAll_69 (by decide) ?_
        have e1 : w66.toInt.toNat = p.toInt.toNat + 1 := by omega
        have t5 := t4 (by omega)
        clear t4
        first
          | (have hz : ¬ 0 < T 4 p.toInt.toNat := by omega
             exact ih _ (show 6 - w66.toInt.toNat < n9 by omega) lf w66 M rfl (by omega) (by omega) hT (by rw [e1, oweS, if_neg (fun q => hz q.2), Nat.or_zero]; exact hlf) (by rw [e1, owe, if_neg (fun q => hz q.2)]; exact how) g1 g2 g3)
          | (have hz : (p.toInt.toNat : Int) < T 0 0 ∧ 0 < T 4 p.toInt.toNat := by omega
             obtain ⟨M', hM'⟩ : ∃ M', M' = g_u M 240 2 w62 := ⟨_, rfl⟩
             refine g_fwd (M1 := M') ?_ hM'
             refine ih _ (show 6 - w66.toInt.toNat < n9 by omega) w54 w66 M' rfl (by omega) (by omega) ?_ (by rw [e1, oweS, if_pos hz]; exact h54) ?_ (fun j hj => by rw [hM', g_u_ne hj]; exact g1 j hj) (by rw [hM']; exact g2) (fun k hk2 => by rw [hM', g_u_eq, if_neg hk2]; exact g3 k hk2)
             · rw [← hT]; exact tv_far (fun j a b => by rw [hM', g_u_ne (by omega)])
             · rw [hM', g_u_eq, if_pos rfl, e1, owe, if_pos hz]; omega)
set_option maxHeartbeats 1200000 in
theorem c_tryAll {Γ : gW} (hA : g_Week Γ) {T : gTw} {t2 : Nat} {rr : Nat → Int32} {ord : Nat → Int} {M : gM} (hT2 : g_Town Γ t2) (hdj : 180 + 10 < t2 ∨ t2 + 10 < 180) (hd2 : t2 + 10 < 240) (hI : INV T) (hr : RW T rr) (hT : tv M t2 = T) (hTt : TBt M t2) (hord : ∀ i, i < 6 → (M.1 241 i).toInt = ord i) : Ct Γ yX4_tryAll μX4_tryAll 15 [.ref 240, .ref t2] M (g_qi (fun z M1 => WKc (wkT T ord) M1 ∧ (z.toInt = 0 ∨ z.toInt = 1) ∧ (z.toInt = 1 ↔ (wkT T ord).2.2.2 = 1) ∧ (M1.1 240 2).toInt = (owe T 6 : Int) ∧ frY M M1)) := by
  have hO := hI.1
  have hb0 := hO.1
  refine g_enter rfl rfl rfl (Nat.le_of_ble_eq_true rfl) ?_
  show G Γ _ _ _ _ 0 [some (.ref 240), some (.ref t2), none, none] [] M
  refine g_aload_n0 dX4_tryAll_0 rfl ?_
  refine g_getr dX4_tryAll_1 rfl fX4_12 hA.1 rfl ?_
  refine g_aload_n1 dX4_tryAll_4 rfl ?_
  refine g_callVv1 dX4_tryAll_5 rfl vX4_32 hA.2.2.1 rfl (c_copyFrom hA.2.2 hT2 hdj) (g_rm (by omega)) (Nat.le_of_ble_eq_true rfl) (fun M5 e5 => ?_)
  refine g_aload_n0 dX4_tryAll_8 rfl ?_
  refine g_iconst (v := 0) dX4_tryAll_9 rfl rfl ?_
  refine g_put dX4_tryAll_10 rfl fX4_22 hA.1 rfl rfl rfl ?_
  refine g_aload_n0 dX4_tryAll_13 rfl ?_
  refine g_iconst (v := 0) dX4_tryAll_14 rfl rfl ?_
  refine g_put dX4_tryAll_15 rfl fX4_26 hA.1 rfl rfl rfl ?_
  refine g_aload_n0 dX4_tryAll_18 rfl ?_
  refine g_iconst (v := 0) dX4_tryAll_19 rfl rfl ?_
  refine g_put dX4_tryAll_20 rfl fX4_29 hA.1 rfl rfl rfl ?_
  have hv := v_copy e5
  obtain ⟨M2, hM2⟩ : ∃ M2, M2 = g_u (g_u (g_u M5 240 2 0) 240 3 0) 240 4 0 := ⟨_, rfl⟩
  refine g_fwd (M1 := M2) ?_ hM2
  have m2j : ∀ j, j ≠ 240 → M2.1 j = M5.1 j := fun j hj => by rw [hM2, g_u_ne hj, g_u_ne hj, g_u_ne hj]
  have hTM : tv M2 180 = T := by rw [← hT, ← hv]; exact tv_far (fun j a b => m2j j (by omega))
  have hTtM : TBt M2 180 := by
    refine TBt.far (M := M5) ?_ (m2j _ (by decide)) (m2j _ (by decide)) (m2j _ (by decide))
    exact CP.tbt e5 hTt
  have hFM : frY M M2 := ⟨fun j a b c => by rw [m2j j a]; exact e5.1 j (by omega), by rw [hM2]; exact e5.2.1⟩
  have m22 : (M2.1 240 2).toInt = 0 := by rw [hM2]; rfl
  have m23 : (M2.1 240 3).toInt = 0 := by rw [hM2]; rfl
  have m24 : (M2.1 240 4).toInt = 0 := by rw [hM2]; rfl
  clear hM2
  refine g_iconstI dX4_tryAll_23 rfl rfl (fun w23 h23 => ?_)
  refine g_istore_n2 dX4_tryAll_24 rfl rfl ?_
  refine g_iconstI dX4_tryAll_25 rfl rfl (fun w25 h25 => ?_)
  refine g_istore_n3 dX4_tryAll_26 rfl rfl ?_
  refine l_ta hA hO (M0 := M2) (fun lf p M9 q1 q2 q3 q4 q5 => ?_) _ _ _ _ rfl (by omega) (by omega) hTM (by rw [h25, bn_lit (n := 0) h23]; rfl) (by rw [h25]; exact m22) (fun _ _ => rfl) rfl (fun _ _ => rfl)
  have hT9 : tv M9 180 = T := by rw [← hTM]; exact tv_far (fun j a b => q3 j (by omega))
  have hTt9 : TBt M9 180 := TBt.far hTtM (q3 _ (by decide)) (q3 _ (by decide)) (q3 _ (by decide))
  have hle6 := owe_le T 6
  have hF9 : frY M M9 := frY.tr hFM ⟨fun j a b c => q3 j a, q4⟩
  have hW9 : WKc (0, 0, ord, 0) M9 := by
    refine ⟨⟨⟨⟨Int.le_refl 0, (by decide : (0 : Int) ≤ 20000)⟩, ⟨Int.le_refl 0, (by decide : (0 : Int) ≤ 6)⟩, Or.inl rfl⟩, fun q => absurd (show (0 : Int) = 2 from q) (by decide)⟩, ?_, ?_, fun i hi => ?_⟩
    · rw [q5 3 (by decide), m23]; rfl
    · rw [q5 4 (by decide), m24]
    · rw [q3 241 (by decide), m2j 241 (by decide), e5.1 241 (by decide)]; exact hord i hi
  refine g_aload_n0 dX4_tryAll_72 rfl ?_
  refine g_iload_n2 dX4_tryAll_73 rfl ?_
  refine g_iconstI dX4_tryAll_74 rfl rfl (fun w74 h74 => ?_)
  refine g_callVi2 dX4_tryAll_75 rfl vX4_42 hA.1 rfl (c_tryRest hA (owe T 6) T rr 0 0 (oweS T 6) _ _ (0, 0, ord, 0) _ hI hr hT9 hTt9 (LFT.all hO) (by have := owe_le T 6; omega) q1 (by rw [h74]; rfl) hW9 rfl) (g_rm (by omega)) (Nat.le_of_ble_eq_true rfl) (fun z75 M75 e75 => ?_)
  refine g_zretI dX4_tryAll_78 rfl (by have := e75.2.1; omega) ?_
  obtain ⟨a1, a2, a3, a4, a5⟩ := e75
  exact ⟨_, rfl, a1, a2, a3, by rw [a5.2.2 2 (by decide) (by decide)]; exact q2, frY.tr hF9 a5.y⟩
set_option maxHeartbeats 1200000 in
theorem c_wkLength {Γ : gW} {M : gM} (hA : g_Week Γ)  : Ct Γ yX4_length μX4_length 0 [.ref 240] M (g_qi (fun z M1 => M1 = M ∧ z = M.1 240 2)) := by
  refine g_enter rfl rfl rfl (Nat.le_of_ble_eq_true rfl) ?_
  show G Γ _ _ _ _ 0 [some (.ref 240)] [] M
  refine g_aload_n0 dX4_length_0 rfl ?_
  refine g_geti dX4_length_1 rfl fX4_22 hA.1 rfl ?_
  refine g_iret dX4_length_4 rfl ?_
  exact ⟨_, rfl, rfl, rfl⟩
set_option maxHeartbeats 1200000 in
theorem c_wkMost {Γ : gW} {M : gM} (hA : g_Week Γ)  : Ct Γ yX4_most μX4_most 0 [.ref 240] M (g_qi (fun z M1 => M1 = M ∧ z = M.1 240 4)) := by
  refine g_enter rfl rfl rfl (Nat.le_of_ble_eq_true rfl) ?_
  show G Γ _ _ _ _ 0 [some (.ref 240)] [] M
  refine g_aload_n0 dX4_most_0 rfl ?_
  refine g_geti dX4_most_1 rfl fX4_29 hA.1 rfl ?_
  refine g_iret dX4_most_4 rfl ?_
  exact ⟨_, rfl, rfl, rfl⟩
set_option maxHeartbeats 1200000 in
theorem c_wkTries {Γ : gW} {M : gM} (hA : g_Week Γ)  : Ct Γ yX4_tries μX4_tries 0 [.ref 240] M (g_qi (fun z M1 => M1 = M ∧ z = M.1 240 3)) := by
  refine g_enter rfl rfl rfl (Nat.le_of_ble_eq_true rfl) ?_
  show G Γ _ _ _ _ 0 [some (.ref 240)] [] M
  refine g_aload_n0 dX4_tries_0 rfl ?_
  refine g_geti dX4_tries_1 rfl fX4_26 hA.1 rfl ?_
  refine g_iret dX4_tries_4 rfl ?_
  exact ⟨_, rfl, rfl, rfl⟩
set_option maxHeartbeats 1200000 in
theorem c_wkAt {Γ : gW} {M : gM} (hA : g_Week Γ) {i : Int32} (hi : 0 ≤ i.toInt ∧ i.toInt < 6) : Ct Γ yX4_personAt μX4_personAt 0 [.ref 240, .int i] M (g_qi (fun z M1 => M1 = M ∧ z = M.1 241 i.toInt.toNat)) := by
  refine g_enter rfl rfl rfl (Nat.le_of_ble_eq_true rfl) ?_
  show G Γ _ _ _ _ 0 [some (.ref 240), some (.int i)] [] M
  refine g_aload_n0 dX4_personAt_0 rfl ?_
  refine g_getr dX4_personAt_1 rfl fX4_18 hA.1 rfl ?_
  refine g_iload_n1 dX4_personAt_4 rfl ?_
  refine g_ialdI dX4_personAt_5 rfl hA.2.1 ⟨by omega, by omega⟩ ?_
  refine g_iret dX4_personAt_6 rfl ?_
  exact ⟨_, rfl, rfl, rfl⟩
