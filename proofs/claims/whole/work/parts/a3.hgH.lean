theorem v_back1 {A : gM} {T : gTw} {g k : Nat} {s n b5 b6 b7 b8 : Int32} (hA : tv A 100 = T) (hO : TOK T) (hg : g < 6) (hk : k < 6) (hkg : k ≠ g) (hs : bn s < 4096) (hn : 0 ≤ n.toInt ∧ n.toInt ≤ T 3 k) :
    tv (g_u (g_u (g_u (g_u (handM A 100 k s n g) (100 + 4) g b5) (100 + 5) g b6) (100 + 4) k b7) (100 + 5) k b8) 100 = upT (upT (upT (upT (handT T k (bn s) n.toInt g) 4 g b5.toInt) 5 g b6.toInt) 4 k b7.toInt) 5 k b8.toInt := by
  have l4 : lenT 4 = 6 := lenT_p (by decide)
  have l5 : lenT 5 = 6 := lenT_p (by decide)
  rw [tv_u ⟨by decide, by rw [l5]; exact hk⟩, tv_u ⟨by decide, by rw [l4]; exact hk⟩, tv_u ⟨by decide, by rw [l5]; exact hg⟩, tv_u ⟨by decide, by rw [l4]; exact hg⟩, v_hand (by rw [hA]; exact hO) hk hg hkg hs (by rw [hA]; exact hn), hA]
theorem v_back {M : gM} {n : Nat} {n1 : Int32} {T : gTw} {r : Nat → Int} (hT : tv M 100 = T) (hO : TOK T) (hr : ∀ j, j < 9 → (M.1 (220 + 1) (n * 9 + j)).toInt = r j) (hu : unOK T r) : tv (backM M 220 100 n n1) 100 = unT T r := by
  obtain ⟨r0, r1, r3, ⟨c1, c2, c3, c4, c5, c6⟩, -⟩ := hu
  have hb0 := hO.1
  have q0 := hr 0 (by decide)
  have q1 := hr 1 (by decide)
  have q2 := hr 2 (by decide)
  have q3 := hr 3 (by decide)
  have q5 := hr 5 (by decide)
  have q6 := hr 6 (by decide)
  have q7 := hr 7 (by decide)
  have q8 := hr 8 (by decide)
  have hb3 := (hO.2.2.2.2.2.2.1 (r 3).toNat (by omega)).2.2.2.2.2.1
  have hsub := sub_le c4
  unfold hasT at hsub
  have hM' : tv (g_u M 220 0 n1) 100 = T := by rw [← hT]; exact tv_far (fun j a b => g_u_ne (by omega))
  have hbs : bn (M.1 (220 + 1) (n * 9 + 1)) = (r 1).toNat := by rw [← q1]; exact bn_toNat (by omega)
  refine (v_back1 (A := g_u M 220 0 n1) (T := T) (g := (M.1 (220 + 1) (n * 9 + 0)).toInt.toNat) (k := (M.1 (220 + 1) (n * 9 + 3)).toInt.toNat) hM' hO (by omega) (by omega) (by rw [q0, q3]; exact c3) (by rw [hbs]; omega) (by rw [q2, q3]; exact ⟨c5, c6⟩)).trans ?_
  rw [hbs, q0, q2, q3, q5, q6, q7, q8]; rfl
theorem back_o {M : gM} {n j : Nat} {n1 : Int32} (h : j ≠ 220) (h2 : ¬ (103 ≤ j ∧ j ≤ 106)) : (backM M 220 100 n n1).1 j = M.1 j := by
  unfold backM
  dsimp only
  rw [g_u_ne (by omega), g_u_ne (by omega), g_u_ne (by omega), g_u_ne (by omega), handM_ne (by omega) (by omega), g_u_ne (by omega)]
theorem back_0 {M : gM} {n : Nat} {n1 : Int32} : (backM M 220 100 n n1).1 220 0 = n1 := by
  unfold backM
  dsimp only
  rw [g_u_ne (by decide), g_u_ne (by decide), g_u_ne (by decide), g_u_ne (by decide), handM_ne (by decide) (by decide), g_u_eq, if_pos rfl]
theorem back_2 {M : gM} {n : Nat} {n1 : Int32} : (backM M 220 100 n n1).2 = M.2 := rfl
/-- the last gift taken back -/
def unS (S : gSt) : gSt := (unT S.1 (S.2.2 (S.2.1 - 1)), S.2.1 - 1, S.2.2)
set_option maxHeartbeats 1200000 in
theorem x_undo {Γ : gW} {gt : Option Nat} {M : gM} (hA : g_HG Γ gt) {S : gSt} (hI : INV S.1) (hS : CSB S M) (hH : HIST S.2.1 S.1 S.2.2) : Ct Γ yX5_undo μX5_undo 2 [.ref 0] M (g_qi (fun z M1 => (S.2.1 = 0 ∧ z.toInt = -1 ∧ M1 = M) ∨ (0 < S.2.1 ∧ z.toInt = (S.2.1 : Int) - 1 ∧ CSB (unS S) M1 ∧ frB M M1))) := by
  obtain ⟨hT, hTt, h0, h1, h2⟩ := id hS
  refine g_enter rfl rfl rfl (Nat.le_of_ble_eq_true rfl) ?_
  show G Γ _ _ _ _ 0 [some (.ref 0)] [] M
  refine g_aload_n0 dX5_undo_0 rfl ?_
  refine g_getr dX5_undo_1 rfl fX5_22 hA.1 rfl ?_
  refine g_callVi0 dX5_undo_4 rfl vX5_128 (hg_book hA).1 rfl (c_bkLength (hg_book hA)) (g_rm (by omega)) (Nat.le_of_ble_eq_true rfl) (fun z4 M4 e4 => ?_)
  obtain ⟨hMM, e4⟩ := e4
  subst M4
  have e4i : z4.toInt = (M.1 220 0).toInt := by rw [e4]
  refine g_if_neI (t := 12) dX5_undo_7 (by decide) rfl (fun c7 => ?_) (fun c7 => ?_)
  · -- 7 t
    obtain ⟨g, hg⟩ : ∃ g, S.2.1 = g + 1 := ⟨S.2.1 - 1, by omega⟩
    rw [hg] at hH
    obtain ⟨hu, -⟩ := hH
    have hn1 : ((M.1 220 0).toInt - 1).toNat = g := by omega
    have hrr : ∀ j, j < 9 → (M.1 (220 + 1) (g * 9 + j)).toInt = S.2.2 g j := fun j hj => h2 g (by omega) j hj
    have hb0 := hI.1.1
    have hu0 := hu.1
    have hu3 := hu.2.2.1
    have hc1 := hu.2.2.2.1.1
    have hc2 := hu.2.2.2.1.2.1
    refine g_aload_n0 dX5_undo_12 rfl ?_
    refine g_getr dX5_undo_13 rfl fX5_22 hA.1 rfl ?_
    refine g_aload_n0 dX5_undo_16 rfl ?_
    refine g_getr dX5_undo_17 rfl fX5_10 hA.1 rfl ?_
    refine g_callVv1 dX5_undo_20 rfl vX5_190 (hg_book hA).1 rfl (c_bkBack (hg_book hA) (hg_town hA) (Or.inr (by decide)) (by omega) (by rw [hn1, hrr 0 (by decide)]; omega) (by rw [hn1, hrr 3 (by decide)]; omega)) (g_rm (by omega)) (Nat.le_of_ble_eq_true rfl) (fun M20 e20 => ?_)
    obtain ⟨n1, hn, hM20⟩ := e20
    rw [hn1] at hM20
    refine g_aload_n0 dX5_undo_23 rfl ?_
    refine g_getr dX5_undo_24 rfl fX5_22 hA.1 rfl ?_
    refine g_callVi0 dX5_undo_27 rfl vX5_128 (hg_book hA).1 rfl (c_bkLength (hg_book hA)) (g_rm (by omega)) (Nat.le_of_ble_eq_true rfl) (fun z27 M27 e27 => ?_)
    obtain ⟨hMM, e27⟩ := e27
    subst M27
    refine g_iret dX5_undo_30 rfl ?_
    have hS' : unS S = (unT S.1 (S.2.2 g), g, S.2.2) := by rw [unS, hg]; rfl
    refine ⟨_, rfl, Or.inr ⟨by omega, ?_, ?_, ?_⟩⟩
    · rw [e27, hM20, back_0]; omega
    · rw [hS', hM20]
      refine ⟨v_back hT hI.1 hrr hu, TBt.far hTt (back_o (by decide) (by decide)) (back_o (by decide) (by decide)) (back_o (by decide) (by decide)), ?_, ?_, fun i hi j hj => ?_⟩
      · rw [back_0]; show _ = (g : Int); omega
      · show g ≤ 200; omega
      · rw [back_o (by decide) (by decide)]; exact h2 i (by have : i < g := hi; omega) j hj
    · rw [hM20]
      exact ⟨fun j a b c => back_o a c, back_2⟩
  · -- 7 f
    refine g_iconstI dX5_undo_10 rfl rfl (fun w10 h10 => ?_)
    refine g_iret dX5_undo_11 rfl ?_
    exact ⟨_, rfl, Or.inl ⟨by omega, h10, rfl⟩⟩
/-- the image: town 140, book 222 -/
def CIB (S : gSt) (M : gM) : Prop := tv M 140 = S.1 ∧ TBt M 140 ∧ (M.1 222 0).toInt = (S.2.1 : Int) ∧ S.2.1 ≤ 200 ∧ ∀ i, i < S.2.1 → ∀ j, j < 9 → (M.1 223 (i * 9 + j)).toInt = S.2.2 i j
def frI (M M' : gM) : Prop := (∀ j, j ≠ 0 → j ≠ 222 → j ≠ 223 → ¬ (140 ≤ j ∧ j ≤ 150) → M'.1 j = M.1 j) ∧ M'.2 = M.2 ∧ ∀ k, k ≠ 5 → k ≠ 8 → k ≠ 9 → M'.1 0 k = M.1 0 k
def frRs (M M' : gM) : Prop := (∀ j, j ≠ 0 → j ≠ 220 → j ≠ 221 → ¬ (100 ≤ j ∧ j ≤ 110) → M'.1 j = M.1 j) ∧ M'.2 = M.2 ∧ ∀ k, k ≠ 3 → k ≠ 4 → M'.1 0 k = M.1 0 k
set_option maxHeartbeats 1200000 in
theorem x_image {Γ : gW} {gt : Option Nat} {M : gM} (hA : g_HG Γ gt) {S : gSt} (hI : INV S.1) (hS : CSB S M) : Ct Γ yX5_image μX5_image 1 [.ref 0] M (g_qv (fun M1 => CIB S M1 ∧ frI M M1 ∧ M1.1 0 8 = M.1 0 3 ∧ M1.1 0 9 = M.1 0 4 ∧ (M1.1 0 5).toInt = 1)) := by
  obtain ⟨hT, hTt, h0, h1, h2⟩ := id hS
  have hB : TB M 100 := TB.of (by rw [hT]; exact hI.1) hTt
  refine g_enter rfl rfl rfl (Nat.le_of_ble_eq_true rfl) ?_
  show G Γ _ _ _ _ 0 [some (.ref 0)] [] M
  refine g_aload_n0 dX5_image_0 rfl ?_
  refine g_getr dX5_image_1 rfl fX5_37 hA.1 rfl ?_
  refine g_aload_n0 dX5_image_4 rfl ?_
  refine g_getr dX5_image_5 rfl fX5_10 hA.1 rfl ?_
  refine g_callVv1 dX5_image_8 rfl vX5_106 (hg_imageTown hA).1 rfl (c_copyFrom (hg_imageTown hA) (hg_town hA) (Or.inr (by decide))) (g_rm (by omega)) (Nat.le_of_ble_eq_true rfl) (fun M8 e8 => ?_)
  refine g_aload_n0 dX5_image_11 rfl ?_
  refine g_getr dX5_image_12 rfl fX5_40 hA.1 rfl ?_
  refine g_aload_n0 dX5_image_15 rfl ?_
  refine g_getr dX5_image_16 rfl fX5_22 hA.1 rfl ?_
  refine g_callVv1 dX5_image_19 rfl vX5_300 (hg_imageBook hA).1 rfl (c_bkCopy (hg_imageBook hA) (hg_book hA) (Or.inr (by decide)) (by rw [e8.1 220 (Or.inr (by decide))]; omega)) (g_rm (by omega)) (Nat.le_of_ble_eq_true rfl) (fun M19 e19 => ?_)
  refine g_aload_n0 dX5_image_22 rfl ?_
  refine g_aload_n0 dX5_image_23 rfl ?_
  refine g_geti dX5_image_24 rfl fX5_26 hA.1 rfl ?_
  refine g_put dX5_image_27 rfl fX5_43 hA.1 rfl rfl rfl ?_
  refine g_aload_n0 dX5_image_30 rfl ?_
  refine g_aload_n0 dX5_image_31 rfl ?_
  refine g_geti dX5_image_32 rfl fX5_30 hA.1 rfl ?_
  rw [g_u_eq, if_neg (show ¬ (4 : Nat) = 8 by decide)]
  refine g_put dX5_image_35 rfl fX5_46 hA.1 rfl rfl rfl ?_
  refine g_aload_n0 dX5_image_38 rfl ?_
  refine g_iconst (v := 1) dX5_image_39 rfl rfl ?_
  refine g_put dX5_image_40 rfl fX5_33 hA.1 rfl rfl rfl ?_
  refine g_vret dX5_image_43 rfl ?_
  obtain ⟨c1, c2, c3⟩ := id e8
  obtain ⟨d1, d2, d3, d4⟩ := e19
  have a220 : M8.1 220 = M.1 220 := c1 220 (Or.inr (by decide))
  have a221 : M8.1 221 = M.1 221 := c1 221 (Or.inr (by decide))
  have a0 : M8.1 0 = M.1 0 := c1 0 (Or.inl (by decide))
  have b0 : M19.1 0 = M8.1 0 := d1 0 (by decide) (by decide)
  have hT8 : tv M8 140 = S.1 := by rw [v_copy e8]; exact hT
  have hB8 : TB M8 140 := TB.copy e8 hB
  have o3 : ∀ (N : gM) (x y z : Int32) (j : Nat), j ≠ 0 → (g_u (g_u (g_u N 0 8 x) 0 9 y) 0 5 z).1 j = N.1 j := fun N x y z j hj => by rw [g_u_ne hj, g_u_ne hj, g_u_ne hj]
  refine ⟨rfl, ⟨?_, ?_, ?_, h1, fun i hi j hj => ?_⟩, ⟨fun j a b c d => ?_, ?_, fun k a b c => ?_⟩, ?_, ?_, ?_⟩
  · rw [← hT8]; exact tv_far (fun j a b => by rw [o3 _ _ _ _ _ (by omega), d1 j (by omega) (by omega)])
  · exact TBt.far hB8.2.2.2 (by rw [o3 _ _ _ _ _ (by decide), d1 _ (by decide) (by decide)]) (by rw [o3 _ _ _ _ _ (by decide), d1 _ (by decide) (by decide)]) (by rw [o3 _ _ _ _ _ (by decide), d1 _ (by decide) (by decide)])
  · rw [o3 _ _ _ _ _ (by decide), d3, a220]; exact h0
  · rw [o3 _ _ _ _ _ (by decide), show (223 : Nat) = 222 + 1 from rfl, d4 _ (by rw [a220]; omega), show (220 + 1 : Nat) = 221 from rfl, a221]; exact h2 i hi j hj
  · rw [o3 _ _ _ _ _ a, d1 j b c, c1 j (by omega)]
  · show M19.2 = _; rw [d2, c2]
  · rw [g_u_eq, if_neg a, g_u_eq, if_neg c, g_u_eq, if_neg b, b0, a0]
  · rw [g_u_eq, if_neg (by decide), g_u_eq, if_neg (by decide), g_u_eq, if_pos rfl, b0, a0]
  · rw [g_u_eq, if_neg (by decide), g_u_eq, if_pos rfl, b0, a0]
  · rw [g_u_eq, if_pos rfl]; rfl
set_option maxHeartbeats 1200000 in
theorem x_restore {Γ : gW} {gt : Option Nat} {M : gM} (hA : g_HG Γ gt) {S : gSt} (hI : INV S.1) (hS : (M.1 0 5).toInt ≠ 0 → CIB S M) : Ct Γ yX5_restore μX5_restore 1 [.ref 0] M (g_qi (fun z M1 => ((M.1 0 5).toInt = 0 ∧ z.toInt = 0 ∧ M1 = M) ∨ (¬ (M.1 0 5).toInt = 0 ∧ z.toInt = 1 ∧ CSB S M1 ∧ frRs M M1 ∧ M1.1 0 3 = M.1 0 8 ∧ M1.1 0 4 = M.1 0 9))) := by
  refine g_enter rfl rfl rfl (Nat.le_of_ble_eq_true rfl) ?_
  show G Γ _ _ _ _ 0 [some (.ref 0)] [] M
  refine g_aload_n0 dX5_restore_0 rfl ?_
  refine g_geti dX5_restore_1 rfl fX5_33 hA.1 rfl ?_
  refine g_if_neI (t := 9) dX5_restore_4 (by decide) rfl (fun c4 => ?_) (fun c4 => ?_)
  · -- 4 t
    obtain ⟨hT, hTt, h0, h1, h2⟩ := hS c4
    have hB : TB M 140 := TB.of (by rw [hT]; exact hI.1) hTt
    refine g_aload_n0 dX5_restore_9 rfl ?_
    refine g_getr dX5_restore_10 rfl fX5_10 hA.1 rfl ?_
    refine g_aload_n0 dX5_restore_13 rfl ?_
    refine g_getr dX5_restore_14 rfl fX5_37 hA.1 rfl ?_
    refine g_callVv1 dX5_restore_17 rfl vX5_106 (hg_town hA).1 rfl (c_copyFrom (hg_town hA) (hg_imageTown hA) (Or.inl (by decide))) (g_rm (by omega)) (Nat.le_of_ble_eq_true rfl) (fun M17 e17 => ?_)
    refine g_aload_n0 dX5_restore_20 rfl ?_
    refine g_getr dX5_restore_21 rfl fX5_22 hA.1 rfl ?_
    refine g_aload_n0 dX5_restore_24 rfl ?_
    refine g_getr dX5_restore_25 rfl fX5_40 hA.1 rfl ?_
    refine g_callVv1 dX5_restore_28 rfl vX5_300 (hg_book hA).1 rfl (c_bkCopy (hg_book hA) (hg_imageBook hA) (Or.inl (by decide)) (by rw [e17.1 222 (Or.inr (by decide))]; omega)) (g_rm (by omega)) (Nat.le_of_ble_eq_true rfl) (fun M28 e28 => ?_)
    refine g_aload_n0 dX5_restore_31 rfl ?_
    refine g_aload_n0 dX5_restore_32 rfl ?_
    refine g_geti dX5_restore_33 rfl fX5_43 hA.1 rfl ?_
    refine g_put dX5_restore_36 rfl fX5_26 hA.1 rfl rfl rfl ?_
    refine g_aload_n0 dX5_restore_39 rfl ?_
    refine g_aload_n0 dX5_restore_40 rfl ?_
    refine g_geti dX5_restore_41 rfl fX5_46 hA.1 rfl ?_
    rw [g_u_eq, if_neg (show ¬ (9 : Nat) = 3 by decide)]
    refine g_put dX5_restore_44 rfl fX5_30 hA.1 rfl rfl rfl ?_
    refine g_iconstI dX5_restore_47 rfl rfl (fun w47 h47 => ?_)
    refine g_zretI dX5_restore_48 rfl (by omega) ?_
    obtain ⟨c1, c2, c3⟩ := id e17
    obtain ⟨d1, d2, d3, d4⟩ := e28
    have a222 : M17.1 222 = M.1 222 := c1 222 (Or.inr (by decide))
    have a223 : M17.1 223 = M.1 223 := c1 223 (Or.inr (by decide))
    have a0 : M17.1 0 = M.1 0 := c1 0 (Or.inl (by decide))
    have b0 : M28.1 0 = M17.1 0 := d1 0 (by decide) (by decide)
    have hT8 : tv M17 100 = S.1 := by rw [v_copy e17]; exact hT
    have hB8 : TB M17 100 := TB.copy e17 hB
    have o3 : ∀ (N : gM) (x y : Int32) (j : Nat), j ≠ 0 → (g_u (g_u N 0 3 x) 0 4 y).1 j = N.1 j := fun N x y j hj => by rw [g_u_ne hj, g_u_ne hj]
    refine ⟨_, rfl, Or.inr ⟨c4, h47, ⟨?_, ?_, ?_, h1, fun i hi j hj => ?_⟩, ⟨fun j a b c d => ?_, ?_, fun k a b => ?_⟩, ?_, ?_⟩⟩
    · rw [← hT8]; exact tv_far (fun j a b => by rw [o3 _ _ _ _ (by omega), d1 j (by omega) (by omega)])
    · exact TBt.far hB8.2.2.2 (by rw [o3 _ _ _ _ (by decide), d1 _ (by decide) (by decide)]) (by rw [o3 _ _ _ _ (by decide), d1 _ (by decide) (by decide)]) (by rw [o3 _ _ _ _ (by decide), d1 _ (by decide) (by decide)])
    · rw [o3 _ _ _ _ (by decide), d3, a222]; exact h0
    · rw [o3 _ _ _ _ (by decide), show (221 : Nat) = 220 + 1 from rfl, d4 _ (by rw [a222]; omega), show (222 + 1 : Nat) = 223 from rfl, a223]; exact h2 i hi j hj
    · rw [o3 _ _ _ _ a, d1 j b c, c1 j (by omega)]
    · show M28.2 = _; rw [d2, c2]
    · rw [g_u_eq, if_neg b, g_u_eq, if_neg a, b0, a0]
    · rw [g_u_eq, if_neg (by decide), g_u_eq, if_pos rfl, b0, a0]
    · rw [g_u_eq, if_pos rfl, b0, a0]
  · -- 4 f
    refine g_iconstI dX5_restore_7 rfl rfl (fun w7 h7 => ?_)
    refine g_zretI dX5_restore_8 rfl (by omega) ?_
    exact ⟨_, rfl, Or.inl ⟨by omega, h7, rfl⟩⟩
