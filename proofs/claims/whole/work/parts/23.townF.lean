def handM (M : gM) (t g : Nat) (s n : Int32) (k : Nat) : gM :=
  let A := g_u M (t + 6) g (M.1 (t + 6) g &&& (s ^^^ -1))
  let B := g_u A (t + 6) k (A.1 (t + 6) k ||| s)
  let C := g_u B (t + 3) g (M.1 (t + 3) g - n)
  g_u C (t + 3) k (C.1 (t + 3) k + n)
theorem i_of {n : Nat} (h : n < 2147483648) : (Int32.ofNat n).toInt = n := by
  rw [Int32.toInt_ofNat', show Int32.size = 4294967296 from rfl, Int.bmod_eq_of_le (by omega) (by omega)]
set_option maxHeartbeats 4000000 in
theorem c_hand {Γ : gW} {t : Nat} {M : gM} (hT : g_Town Γ t) {g s n k : Int32} (hg : 0 ≤ g.toInt ∧ g.toInt < 6) (hk : 0 ≤ k.toInt ∧ k.toInt < 6) : Ct Γ yX3_hand μX3_hand 0 [.ref t, .int g, .int s, .int n, .int k] M (g_qv (fun M1 => M1 = handM M t g.toInt.toNat s n k.toInt.toNat)) := by
  refine g_enter rfl rfl rfl (Nat.le_of_ble_eq_true rfl) ?_
  show G Γ _ _ _ _ 0 [some (.ref t), some (.int g), some (.int s), some (.int n), some (.int k)] [] M
  refine g_aload_n0 dX3_hand_0 rfl ?_
  refine g_getr dX3_hand_1 rfl fX3_46 hT.1 rfl ?_
  refine g_iload_n1 dX3_hand_4 rfl ?_
  refine g_dup2 dX3_hand_5 rfl rfl rfl ?_
  refine g_ialdI dX3_hand_6 rfl (tw_has hT) ⟨by omega, by omega⟩ ?_
  refine g_iload_n2 dX3_hand_7 rfl ?_
  refine g_iconst (v := -1) dX3_hand_8 rfl rfl ?_
  refine g_ixor dX3_hand_9 rfl ?_
  refine g_iand dX3_hand_10 rfl ?_
  refine g_iastI dX3_hand_11 rfl (tw_has hT) ⟨by omega, by omega⟩ ?_
  refine g_aload_n0 dX3_hand_12 rfl ?_
  refine g_getr dX3_hand_13 rfl fX3_46 hT.1 rfl ?_
  refine g_iload4 dX3_hand_16 rfl ?_
  refine g_dup2 dX3_hand_18 rfl rfl rfl ?_
  refine g_ialdI dX3_hand_19 rfl (tw_has hT) ⟨by omega, by omega⟩ ?_
  refine g_iload_n2 dX3_hand_20 rfl ?_
  refine g_ior dX3_hand_21 rfl ?_
  refine g_iastI dX3_hand_22 rfl (tw_has hT) ⟨by omega, by omega⟩ ?_
  refine g_aload_n0 dX3_hand_23 rfl ?_
  refine g_getr dX3_hand_24 rfl fX3_37 hT.1 rfl ?_
  refine g_iload_n1 dX3_hand_27 rfl ?_
  refine g_dup2 dX3_hand_28 rfl rfl rfl ?_
  refine g_ialdI dX3_hand_29 rfl (tw_sand hT) ⟨by omega, by omega⟩ ?_
  rw [g_u_ne (show t + 3 ≠ t + 6 by omega)]
  rw [g_u_ne (show t + 3 ≠ t + 6 by omega)]
  refine g_iload_n3 dX3_hand_30 rfl ?_
  refine g_isub dX3_hand_31 rfl ?_
  refine g_iastI dX3_hand_32 rfl (tw_sand hT) ⟨by omega, by omega⟩ ?_
  refine g_aload_n0 dX3_hand_33 rfl ?_
  refine g_getr dX3_hand_34 rfl fX3_37 hT.1 rfl ?_
  refine g_iload4 dX3_hand_37 rfl ?_
  refine g_dup2 dX3_hand_39 rfl rfl rfl ?_
  refine g_ialdI dX3_hand_40 rfl (tw_sand hT) ⟨by omega, by omega⟩ ?_
  refine g_iload_n3 dX3_hand_41 rfl ?_
  refine g_iadd dX3_hand_42 rfl ?_
  refine g_iastI dX3_hand_43 rfl (tw_sand hT) ⟨by omega, by omega⟩ ?_
  refine g_vret dX3_hand_44 rfl ?_
  exact ⟨rfl, rfl⟩
def TBw (M : gM) (t : Nat) : Prop := (∀ i, i < 12 → TB2 M t i) ∧ TBt M t
theorem TBw.of {M : gM} {t : Nat} (h : TB M t) : TBw M t := h.2.2
theorem TBw.moved {M M' : gM} {t : Nat} (h : TBw M t) (h7 : M'.1 (t + 7) = M.1 (t + 7)) (h8 : M'.1 (t + 8) = M.1 (t + 8)) (h9 : M'.1 (t + 9) = M.1 (t + 9)) (h10 : M'.1 (t + 10) = M.1 (t + 10)) : TBw M' t := by
  obtain ⟨a, b⟩ := h
  refine ⟨fun i hi => ?_, fun s hs => ?_⟩
  · have := a i hi
    simp only [TB2, h7, h8] at this ⊢
    exact this
  · have := b s hs
    have hw : wtF M' t = wtF M t := by unfold wtF; rw [h7]
    rw [hw, h9, h10]
    exact this
theorem wt_moved {M M' : gM} {t s : Nat} (h7 : M'.1 (t + 7) = M.1 (t + 7)) : wt M' t s = wt M t s := by unfold wt wtF; rw [h7]
theorem wt_rngW {M : gM} {t s : Nat} (h : TBw M t) : 0 ≤ wt M t s ∧ wt M t s ≤ 1188 := by
  have := wsum_le (w := wtF M t) (B := 99) (n := 12) (s := s) (fun i hi => (h.1 i hi).1) (by omega)
  simp only [wt]; omega
set_option maxHeartbeats 4000000 in
theorem c_weightOfW {Γ : gW} {t : Nat} {M : gM} (hT : g_Town Γ t) (hB : TBw M t) {s : Int32} (hs : 0 ≤ s.toInt ∧ s.toInt < 4096) : Ct Γ yX3_weightOf μX3_weightOf 0 [.ref t, .int s] M (g_qi (fun z M1 => M1 = M ∧ z.toInt = wt M t s.toInt.toNat)) := by
  have h64 : ∀ x : Nat, x &&& 63 < 64 := fun x => Nat.lt_of_le_of_lt Nat.and_le_right (by decide)
  refine g_enter rfl rfl rfl (Nat.le_of_ble_eq_true rfl) ?_
  show G Γ _ _ _ _ 0 [some (.ref t), some (.int s)] [] M
  refine g_aload_n0 dX3_weightOf_0 rfl ?_
  refine g_getr dX3_weightOf_1 rfl fX3_55 hT.1 rfl ?_
  refine g_iload_n1 dX3_weightOf_4 rfl ?_
  refine g_bipushI dX3_weightOf_5 rfl rfl (fun w5 h5 => ?_)
  refine g_iandB dX3_weightOf_7 rfl  (fun w7 h7 => ?_)
  have g7 : w7.toInt = ((s.toInt.toNat &&& 63 : Nat) : Int) := by
    have e5 := bn_lit (n := 63) h5
    have e1 := bn_toNat hs.1
    rw [e1, e5] at h7
    have := h64 s.toInt.toNat
    rw [i_bn (by omega), h7]
  have l7 := h64 s.toInt.toNat
  refine g_ialdI dX3_weightOf_8 rfl (tw_lowWeights hT) ⟨by omega, by omega⟩ ?_
  refine g_aload_n0 dX3_weightOf_9 rfl ?_
  refine g_getr dX3_weightOf_10 rfl fX3_58 hT.1 rfl ?_
  refine g_iload_n1 dX3_weightOf_13 rfl ?_
  refine g_bipushI dX3_weightOf_14 rfl rfl (fun w14 h14 => ?_)
  refine g_iushrB dX3_weightOf_16 rfl ⟨by omega, by omega⟩ (fun w16 h16 => ?_)
  refine g_bipushI dX3_weightOf_17 rfl rfl (fun w17 h17 => ?_)
  refine g_iandB dX3_weightOf_19 rfl  (fun w19 h19 => ?_)
  have g19 : w19.toInt = ((s.toInt.toNat >>> 6 &&& 63 : Nat) : Int) := by
    have e5 := bn_lit (n := 63) h17
    have e1 := bn_toNat hs.1
    rw [h16, e1, e5, h14] at h19
    have := h64 (s.toInt.toNat >>> 6)
    rw [i_bn (by rw [h19]; exact Nat.lt_trans this (by decide)), h19]
    rfl
  have l19 := h64 (s.toInt.toNat >>> 6)
  refine g_ialdI dX3_weightOf_20 rfl (tw_highWeights hT) ⟨by omega, by omega⟩ ?_
  have k1 := (hB.2 _ l7).1
  have k2 := (hB.2 _ l19).2
  have n7 : w7.toInt.toNat = s.toInt.toNat &&& 63 := by omega
  have n19 : w19.toInt.toNat = s.toInt.toNat >>> 6 &&& 63 := by omega
  rw [n7, n19]
  rw [wsum_and (wtF M t) 6 s.toInt.toNat 6 (by omega)] at k1
  rw [wsum_and (fun i => wtF M t (6 + i)) 6 (s.toInt.toNat >>> 6) 6 (by omega)] at k2
  have hw := wt_rngW (s := s.toInt.toNat) hB
  have hsp : wsum (wtF M t) 12 s.toInt.toNat = _ := wsum_split (wtF M t) 6 6 s.toInt.toNat
  rw [wt] at hw
  refine g_iaddI dX3_weightOf_21 rfl ⟨by omega, by omega⟩ (fun w21 h21 => ?_)
  refine g_iret dX3_weightOf_22 rfl ?_
  refine ⟨_, rfl, rfl, ?_⟩
  rw [h21, k1, k2, wt, hsp]
theorem handM_ne {M : gM} {t g k j : Nat} {s n : Int32} (h6 : j ≠ t + 6) (h3 : j ≠ t + 3) : (handM M t g s n k).1 j = M.1 j := by
  simp only [handM, g_u_ne h6, g_u_ne h3]
theorem handM_2 {M : gM} {t g k : Nat} {s n : Int32} : (handM M t g s n k).2 = M.2 := rfl
/-- a gift's memory: v is what both weigh together -/
def giftM (M : gM) (t g : Nat) (s n v : Int32) (k : Nat) : gM :=
  let A := handM M t g s n k
  let B := g_u (g_u A (t + 4) g 0) (t + 5) g (-1)
  let C := g_u B (t + 4) k v
  g_u C (t + 5) k (if (M.1 t 2).toInt = 0 then Int32.ofNat g else -1)
set_option maxHeartbeats 4000000 in
theorem c_makeGift {Γ : gW} {t : Nat} {M : gM} (hT : g_Town Γ t) (hB : TBw M t) {g s n k : Int32} (hg : 0 ≤ g.toInt ∧ g.toInt < 6) (hk : 0 ≤ k.toInt ∧ k.toInt < 6) (hs : 0 ≤ s.toInt ∧ s.toInt < 4096) (hn : -10000 ≤ n.toInt ∧ n.toInt ≤ 10000) : Ct Γ yX3_makeGift μX3_makeGift 1 [.ref t, .int g, .int s, .int n, .int k] M (g_qv (fun M1 => ∃ v : Int32, v.toInt = wt M t s.toInt.toNat + n.toInt ∧ M1 = giftM M t g.toInt.toNat s n v k.toInt.toNat)) := by
  refine g_enter rfl rfl rfl (Nat.le_of_ble_eq_true rfl) ?_
  show G Γ _ _ _ _ 0 [some (.ref t), some (.int g), some (.int s), some (.int n), some (.int k)] [] M
  refine g_aload_n0 dX3_makeGift_0 rfl ?_
  refine g_iload_n1 dX3_makeGift_1 rfl ?_
  refine g_iload_n2 dX3_makeGift_2 rfl ?_
  refine g_iload_n3 dX3_makeGift_3 rfl ?_
  refine g_iload4 dX3_makeGift_4 rfl ?_
  refine g_callVv4 dX3_makeGift_6 rfl vX3_127 hT.1 rfl (c_hand hT hg hk) (g_rm (by omega)) (Nat.le_of_ble_eq_true rfl) (fun M6 e6 => ?_)
  subst e6
  refine g_aload_n0 dX3_makeGift_9 rfl ?_
  refine g_getr dX3_makeGift_10 rfl fX3_40 hT.1 rfl ?_
  refine g_iload_n1 dX3_makeGift_13 rfl ?_
  refine g_iconst (v := 0) dX3_makeGift_14 rfl rfl ?_
  refine g_iastI dX3_makeGift_15 rfl (tw_owed hT) ⟨by omega, by omega⟩ ?_
  refine g_aload_n0 dX3_makeGift_16 rfl ?_
  refine g_getr dX3_makeGift_17 rfl fX3_43 hT.1 rfl ?_
  refine g_iload_n1 dX3_makeGift_20 rfl ?_
  refine g_iconst (v := -1) dX3_makeGift_21 rfl rfl ?_
  refine g_iastI dX3_makeGift_22 rfl (tw_owedTo hT) ⟨by omega, by omega⟩ ?_
  refine g_aload_n0 dX3_makeGift_23 rfl ?_
  refine g_getr dX3_makeGift_24 rfl fX3_40 hT.1 rfl ?_
  refine g_iload4 dX3_makeGift_27 rfl ?_
  refine g_aload_n0 dX3_makeGift_29 rfl ?_
  refine g_iload_n2 dX3_makeGift_30 rfl ?_
  have h7 : (g_u (g_u (handM M t g.toInt.toNat s n k.toInt.toNat) (t + 4) g.toInt.toNat 0) (t + 5) g.toInt.toNat (-1)).1 (t + 7) = M.1 (t + 7) := by rw [g_u_ne (by omega), g_u_ne (by omega), handM_ne (by omega) (by omega)]
  have h8 : (g_u (g_u (handM M t g.toInt.toNat s n k.toInt.toNat) (t + 4) g.toInt.toNat 0) (t + 5) g.toInt.toNat (-1)).1 (t + 8) = M.1 (t + 8) := by rw [g_u_ne (by omega), g_u_ne (by omega), handM_ne (by omega) (by omega)]
  have h9 : (g_u (g_u (handM M t g.toInt.toNat s n k.toInt.toNat) (t + 4) g.toInt.toNat 0) (t + 5) g.toInt.toNat (-1)).1 (t + 9) = M.1 (t + 9) := by rw [g_u_ne (by omega), g_u_ne (by omega), handM_ne (by omega) (by omega)]
  have h10 : (g_u (g_u (handM M t g.toInt.toNat s n k.toInt.toNat) (t + 4) g.toInt.toNat 0) (t + 5) g.toInt.toNat (-1)).1 (t + 10) = M.1 (t + 10) := by rw [g_u_ne (by omega), g_u_ne (by omega), handM_ne (by omega) (by omega)]
  refine g_callVi1 dX3_makeGift_31 rfl vX3_80 hT.1 rfl (c_weightOfW hT (TBw.moved hB h7 h8 h9 h10) hs) (g_rm (by omega)) (Nat.le_of_ble_eq_true rfl) (fun z31 M31 e31 => ?_)
  obtain ⟨e31a, e31⟩ := e31
  subst e31a
  rw [wt_moved h7] at e31
  have hwr := wt_rngW (s := s.toInt.toNat) hB
  refine g_iload_n3 dX3_makeGift_34 rfl ?_
  refine g_iaddI dX3_makeGift_35 rfl ⟨by omega, by omega⟩ (fun w35 h35 => ?_)
  refine g_iastI dX3_makeGift_36 rfl (tw_owed hT) ⟨by omega, by omega⟩ ?_
  refine g_aload_n0 dX3_makeGift_37 rfl ?_
  refine g_getr dX3_makeGift_38 rfl fX3_43 hT.1 rfl ?_
  refine g_iload4 dX3_makeGift_41 rfl ?_
  refine g_aload_n0 dX3_makeGift_43 rfl ?_
  refine g_geti dX3_makeGift_44 rfl fX3_18 hT.1 rfl ?_
  rw [g_u_ne (show t ≠ t + 4 by omega)]
  rw [g_u_ne (show t ≠ t + 5 by omega)]
  rw [g_u_ne (show t ≠ t + 4 by omega)]
  rw [handM_ne (by omega) (by omega)]
  refine g_if_neI (t := 54) dX3_makeGift_47 (by decide) rfl (fun c47 => ?_) (fun c47 => ?_)
  · -- 47 t
    refine g_iconst (v := -1) dX3_makeGift_54 rfl rfl ?_
    refine g_iastI dX3_makeGift_55 rfl (tw_owedTo hT) ⟨by omega, by omega⟩ ?_
    refine g_vret dX3_makeGift_56 rfl ?_
    refine ⟨rfl, w35, by omega, ?_⟩
    first
      | (rw [giftM, if_pos (by omega)]; congr 1; exact i_ext (by rw [i_of (by omega)]; omega))
      | (rw [giftM, if_neg (by omega)])
  · -- 47 f
    refine g_iload_n1 dX3_makeGift_50 rfl ?_
    refine g_goto (t := 55) dX3_makeGift_51 (by decide) ?_
    refine g_iastI dX3_makeGift_55 rfl (tw_owedTo hT) ⟨by omega, by omega⟩ ?_
    refine g_vret dX3_makeGift_56 rfl ?_
    refine ⟨rfl, w35, by omega, ?_⟩
    first
      | (rw [giftM, if_pos (by omega)]; congr 1; exact i_ext (by rw [i_of (by omega)]; omega))
      | (rw [giftM, if_neg (by omega)])
