theorem wsum_bit {w : Nat → Int} {n i s : Nat} (hi : i < n) (hs : s < 2 ^ i) : wsum w n (2 ^ i + s) = wsum w n s + w i := by
  induction n with
  | zero => omega
  | succ n ih =>
    rw [wsum, wsum]
    by_cases h : i = n
    · subst h
      have h1 : wsum w i (2 ^ i + s) = wsum w i s := wsum_congr (fun j hj => Nat.testBit_two_pow_add_gt hj s)
      have h2 : s.testBit i = false := Nat.testBit_lt_two_pow hs
      rw [h1, Nat.testBit_two_pow_add_eq, h2]
      simp
    · have hle : 2 ^ (i + 1) ≤ 2 ^ n := Nat.pow_le_pow_right (by decide) (by omega)
      have h3 : (2 : Nat) ^ (i + 1) = 2 ^ i * 2 := Nat.pow_succ 2 i
      rw [ih (by omega), Nat.testBit_lt_two_pow (x := 2 ^ i + s) (by omega), Nat.testBit_lt_two_pow (x := s) (by omega)]
      simp
def same2 (M M' : gM) (t : Nat) : Prop := (∀ j, j ≠ t + 9 → j ≠ t + 10 → M'.1 j = M.1 j) ∧ M'.2 = M.2
def tabN (M : gM) (t n : Nat) : Prop := ∀ s, s < n → (M.1 (t + 9) s).toInt = wsum (wtF M t) 6 s ∧ (M.1 (t + 10) s).toInt = wsum (fun i => wtF M t (6 + i)) 6 s
theorem wtF_same {M M' : gM} {t : Nat} (h : same2 M M' t) : wtF M' t = wtF M t := by unfold wtF; rw [h.1 _ (by omega) (by omega)]
theorem g_u_2 {M : gM} {i k : Nat} {x : Int32} : (g_u M i k x).2 = M.2 := rfl
theorem g_u_eq {M : gM} {i k j : Nat} {x : Int32} : (g_u M i k x).1 i j = if j = k then x else M.1 i j := by rw [g_u_at]
theorem tab_step {M0 M : gM} {t i s : Nat} {x y : Int32} (hi : i < 6) (hs : s < 2 ^ i) (hsm : same2 M0 M t) (ht : tabN M t (2 ^ i + s)) (hx : x.toInt = (M.1 (t + 9) s).toInt + (M0.1 (t + 7) i).toInt) (hy : y.toInt = (M.1 (t + 10) s).toInt + (M0.1 (t + 7) (i + 6)).toInt) : same2 M0 (g_u (g_u M (t + 9) (2 ^ i + s) x) (t + 10) (2 ^ i + s) y) t ∧ tabN (g_u (g_u M (t + 9) (2 ^ i + s) x) (t + 10) (2 ^ i + s) y) t (2 ^ i + s + 1) := by
  have hs2 : same2 M0 (g_u (g_u M (t + 9) (2 ^ i + s) x) (t + 10) (2 ^ i + s) y) t := ⟨fun j h9 h10 => by rw [g_u_ne h10, g_u_ne h9]; exact hsm.1 j h9 h10, hsm.2⟩
  refine ⟨hs2, fun u hu => ?_⟩
  rw [wtF_same hs2, ← wtF_same hsm, g_u_eq, g_u_ne (show t + 9 ≠ t + 10 by omega), g_u_eq, g_u_ne (show t + 10 ≠ t + 9 by omega)]
  have e7 : M0.1 (t + 7) = M.1 (t + 7) := (hsm.1 _ (by omega) (by omega)).symm
  by_cases h : u = 2 ^ i + s
  · subst h
    rw [if_pos rfl, if_pos rfl, wsum_bit hi hs, wsum_bit hi hs, hx, hy, (ht s (by have := Nat.two_pow_pos i; omega)).1, (ht s (by have := Nat.two_pow_pos i; omega)).2, e7, Nat.add_comm i 6]
    exact ⟨rfl, rfl⟩
  · rw [if_neg h, if_neg h]
    exact ht u (by omega)
set_option maxHeartbeats 4000000 in
theorem l_weighIn {Γ : gW} {t : Nat} {M0 : gM} (hT : g_Town Γ t) (hw : ∀ i, i < 12 → 0 ≤ (M0.1 (t + 7) i).toInt ∧ (M0.1 (t + 7) i).toInt ≤ 99) {Q : Option Value → gM → Prop} {i b : Int32} (hi : 0 ≤ i.toInt ∧ i.toInt < 6) (hb : b.toInt = ((2 ^ i.toInt.toNat : Nat) : Int)) (hk : ∀ M : gM, same2 M0 M t → tabN M t (2 ^ (i.toInt.toNat + 1)) → ∀ s : Int32, G Γ μX3_weighSets (g_R 0) (0, 0) (g_Z Γ Q) 70 [some (.ref t), some (.int i), some (.int b), some (.int s)] [] M) : ∀ (n : Nat) (s : Int32) (M : gM), 2 ^ i.toInt.toNat - s.toInt.toNat = n → 0 ≤ s.toInt → s.toInt ≤ b.toInt → same2 M0 M t → tabN M t (2 ^ i.toInt.toNat + s.toInt.toNat) → G Γ μX3_weighSets (g_R 0) (0, 0) (g_Z Γ Q) 14 [some (.ref t), some (.int i), some (.int b), some (.int s)] [] M := by
  intro n
  induction n using Nat.strongRecOn with
  | ind n ih =>
    intro s M hn hs0 hs1 hsm htb
    have hpw : 2 ^ i.toInt.toNat ≤ 2 ^ 5 := Nat.pow_le_pow_right (by decide) (by omega)
    have hpe : (2 : Nat) ^ 5 = 32 := rfl
    have ebb := bn_lit hb
    have esb := bn_toNat hs0
    have h7 : M.1 (t + 7) = M0.1 (t + 7) := hsm.1 _ (by omega) (by omega)
    have hw1 := hw i.toInt.toNat (by omega)
    have hw2 := hw (i.toInt.toNat + 6) (by omega)
    refine g_iload_n3 dX3_weighSets_14 rfl ?_
    refine g_iload_n2 dX3_weighSets_15 rfl ?_
    refine g_icmp_geI (t := 70) dX3_weighSets_16 (by decide) rfl (fun c16 => ?_) (fun c16 => ?_)
    · -- 16 t
      exact hk M hsm (by rw [Nat.pow_succ, show 2 ^ i.toInt.toNat * 2 = 2 ^ i.toInt.toNat + s.toInt.toNat by omega]; exact htb) s
    · -- 16 f
      refine g_aload_n0 dX3_weighSets_19 rfl ?_
      refine g_getr dX3_weighSets_20 rfl fX3_55 hT.1 rfl ?_
      refine g_iload_n2 dX3_weighSets_23 rfl ?_
      refine g_iload_n3 dX3_weighSets_24 rfl ?_
      refine g_iorB dX3_weighSets_25 rfl  (fun w25 h25 => ?_)
      have h25b : bn w25 = 2 ^ i.toInt.toNat + s.toInt.toNat := by
        rw [h25, ebb, esb]
        have := Nat.two_pow_add_eq_or_of_lt (i := i.toInt.toNat) (b := s.toInt.toNat) (by omega) 1
        rw [Nat.mul_one] at this
        exact this.symm
      have h25c : w25.toInt = bn w25 := i_bn (by omega)
      have h25d : w25.toInt.toNat = 2 ^ i.toInt.toNat + s.toInt.toNat := by omega
      have hlo := wsum_le (w := wtF M t) (B := 99) (n := 6) (s := s.toInt.toNat) (fun j hj => by unfold wtF; rw [h7]; exact hw j (by omega)) (by omega)
      have hhi := wsum_le (w := fun i => wtF M t (6 + i)) (B := 99) (n := 6) (s := s.toInt.toNat) (fun j hj => by show 0 ≤ wtF M t (6 + j) ∧ wtF M t (6 + j) ≤ 99; unfold wtF; rw [h7]; exact hw (6 + j) (by omega)) (by omega)
      have htl := htb s.toInt.toNat (by omega)
      refine g_aload_n0 dX3_weighSets_26 rfl ?_
      refine g_getr dX3_weighSets_27 rfl fX3_55 hT.1 rfl ?_
      refine g_iload_n3 dX3_weighSets_30 rfl ?_
      refine g_ialdI dX3_weighSets_31 rfl (tw_lowWeights hT) ⟨by omega, by omega⟩ ?_
      refine g_aload_n0 dX3_weighSets_32 rfl ?_
      refine g_getr dX3_weighSets_33 rfl fX3_49 hT.1 rfl ?_
      refine g_iload_n1 dX3_weighSets_36 rfl ?_
      refine g_ialdI dX3_weighSets_37 rfl (tw_weight hT) ⟨by omega, by omega⟩ ?_
      rw [h7]
      refine g_iaddI dX3_weighSets_38 rfl ⟨by omega, by omega⟩ (fun w38 h38 => ?_)
      refine g_iastI dX3_weighSets_39 rfl (tw_lowWeights hT) ⟨by omega, by omega⟩ ?_
      refine g_aload_n0 dX3_weighSets_40 rfl ?_
      refine g_getr dX3_weighSets_41 rfl fX3_58 hT.1 rfl ?_
      refine g_iload_n2 dX3_weighSets_44 rfl ?_
      refine g_iload_n3 dX3_weighSets_45 rfl ?_
      refine g_iorB dX3_weighSets_46 rfl  (fun w46 h46 => ?_)
      have h46b : bn w46 = 2 ^ i.toInt.toNat + s.toInt.toNat := by rw [h46, ← h25]; exact h25b
      have h46c : w46.toInt = bn w46 := i_bn (by omega)
      have h46d : w46.toInt.toNat = 2 ^ i.toInt.toNat + s.toInt.toNat := by omega
      refine g_aload_n0 dX3_weighSets_47 rfl ?_
      refine g_getr dX3_weighSets_48 rfl fX3_58 hT.1 rfl ?_
      refine g_iload_n3 dX3_weighSets_51 rfl ?_
      refine g_ialdI dX3_weighSets_52 rfl (tw_highWeights hT) ⟨by omega, by omega⟩ ?_
      rw [g_u_ne (show t + 10 ≠ t + 9 by omega)]
      refine g_aload_n0 dX3_weighSets_53 rfl ?_
      refine g_getr dX3_weighSets_54 rfl fX3_49 hT.1 rfl ?_
      refine g_iload_n1 dX3_weighSets_57 rfl ?_
      refine g_bipushI dX3_weighSets_58 rfl rfl (fun w58 h58 => ?_)
      refine g_iaddI dX3_weighSets_60 rfl ⟨by omega, by omega⟩ (fun w60 h60 => ?_)
      have h60b : w60.toInt.toNat = i.toInt.toNat + 6 := by omega
      refine g_ialdI dX3_weighSets_61 rfl (tw_weight hT) ⟨by omega, by omega⟩ ?_
      rw [g_u_ne (show t + 7 ≠ t + 9 by omega)]
      rw [h7, h60b]
      refine g_iaddI dX3_weighSets_62 rfl ⟨by omega, by omega⟩ (fun w62 h62 => ?_)
      refine g_iastI dX3_weighSets_63 rfl (tw_highWeights hT) ⟨by omega, by omega⟩ ?_
      refine g_iincI3 dX3_weighSets_64 rfl rfl rfl ⟨by omega, by omega⟩ (fun w64 h64 => ?_)
      refine g_goto (t := 14) dX3_weighSets_67 (by decide) ?_
      rw [h25d, h46d]
      obtain ⟨n1, n2⟩ := tab_step (i := i.toInt.toNat) (s := s.toInt.toNat) (x := w38) (y := w62) (by omega) (by omega) hsm htb (by omega) (by omega)
      exact ih _ (by omega) _ _ rfl (by omega) (by omega) n1 (by rw [h64, show (s.toInt + 1).toNat = s.toInt.toNat + 1 by omega, ← Nat.add_assoc]; exact n2)
set_option maxHeartbeats 4000000 in
theorem l_weighOut {Γ : gW} {t : Nat} {M0 : gM} (hT : g_Town Γ t) (hw : ∀ i, i < 12 → 0 ≤ (M0.1 (t + 7) i).toInt ∧ (M0.1 (t + 7) i).toInt ≤ 99) {Q : Option Value → gM → Prop} (hQ : ∀ M : gM, same2 M0 M t → TBt M t → Q none M) : ∀ (n : Nat) (i : Int32) (M : gM) (z2 z3 : Option Value) (h2 : g_c1 z2 = true), 6 - i.toInt.toNat = n → 0 ≤ i.toInt → i.toInt ≤ 6 → same2 M0 M t → tabN M t (2 ^ i.toInt.toNat) → G Γ μX3_weighSets (g_R 0) (0, 0) (g_Z Γ Q) 2 [some (.ref t), some (.int i), z2, z3] [] M := by
  intro n
  induction n using Nat.strongRecOn with
  | ind n ih =>
    intro i M z2 z3 h2 hn hi0 hi1 hsm htb
    refine g_iload_n1 dX3_weighSets_2 rfl ?_
    refine g_bipushI dX3_weighSets_3 rfl rfl (fun w3 h3 => ?_)
    refine g_icmp_geI (t := 76) dX3_weighSets_5 (by decide) rfl (fun c5 => ?_) (fun c5 => ?_)
    · -- 5 t
      refine g_vret dX3_weighSets_76 rfl ?_
      refine hQ M hsm ?_
      rw [show i.toInt.toNat = 6 by omega] at htb
      exact htb
    · -- 5 f
      refine g_iconstI dX3_weighSets_8 rfl rfl (fun w8 h8 => ?_)
      refine g_iload_n1 dX3_weighSets_9 rfl ?_
      refine g_ishlB dX3_weighSets_10 rfl ⟨by omega, by omega⟩ (fun w10 h10 => ?_)
      have hpw : 2 ^ i.toInt.toNat ≤ 2 ^ 5 := Nat.pow_le_pow_right (by decide) (by omega)
      have hpe : (2 : Nat) ^ 5 = 32 := rfl
      rw [bn_lit (n := 1) h8, Nat.shiftLeft_eq, Nat.one_mul, Nat.mod_eq_of_lt (by omega)] at h10
      have hb : w10.toInt = ((2 ^ i.toInt.toNat : Nat) : Int) := by rw [i_bn (by omega), h10]
      refine g_istore_n2 dX3_weighSets_11 rfl rfl ?_
      refine g_iconstI dX3_weighSets_12 rfl rfl (fun w12 h12 => ?_)
      refine g_istore_n3 dX3_weighSets_13 rfl rfl ?_
      refine l_weighIn hT hw ⟨hi0, by omega⟩ hb (fun M1 a1 a2 s1 => ?_) _ _ _ rfl (by omega) (by omega) hsm (by rw [h12]; exact htb)
      refine g_iincI1 dX3_weighSets_70 rfl rfl rfl ⟨by omega, by omega⟩ (fun w70 h70 => ?_)
      refine g_goto (t := 2) dX3_weighSets_73 (by decide) ?_
      exact ih _ (by omega) _ _ _ _ rfl rfl (by omega) (by omega) a1 (by rw [h70, show (i.toInt + 1).toNat = i.toInt.toNat + 1 by omega]; exact a2)
