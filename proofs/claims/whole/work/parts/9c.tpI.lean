theorem i2b_sgn {x : Int32} : (x.toInt8.toInt32).toInt = sgn8 ((bn x &&& 255 : Nat) : Int) := by
  have h1 : (x.toInt8.toInt32).toInt = x.toInt8.toInt := by simp
  have h2 : x.toInt8.toInt = x.toInt8.toBitVec.toInt := rfl
  have h3 : x.toInt8.toBitVec.toNat = bn x % 256 := by
    show (x.toBitVec.signExtend 8).toNat = _
    rw [BitVec.signExtend_eq_setWidth_of_le _ (by decide), BitVec.toNat_setWidth]; rfl
  have h4 : bn x &&& 255 = bn x % 256 := Nat.and_two_pow_sub_one_eq_mod (bn x) 8
  rw [h1, h2, BitVec.toInt_eq_toNat_cond, h3, h4, sgn8]
  split <;> split <;> omega
theorem nar_b {x : Int32} : vp_nar .byte (x.toInt8.toInt32) = x.toInt8.toInt32 := by
  rw [vp_nar]
  simp [narrow]
/-- n bytes of the text have come, from place p on -/
def PBy (M M' : gM) (p n : Nat) (g : Nat → Int) : Prop := (∀ j, j ≠ 230 → j ≠ 231 → M'.1 j = M.1 j) ∧ M'.2 = M.2 ∧ (∀ q, q ≠ 2 → M'.1 230 q = M.1 230 q) ∧ (M'.1 230 2).toInt = (p : Int) + n ∧ (∀ i, i < n → (M'.1 231 (p + i)).toInt = sgn8 (g i)) ∧ ∀ q, ¬ (p ≤ q ∧ q < p + n) → M'.1 231 q = M.1 231 q
set_option maxHeartbeats 1200000 in
theorem l_pb {Γ : gW} {M0 : gM} (hA : g_Tape Γ) {w : Int32} {p : Nat} (hp : p + 4 ≤ 700) {Q : Option Value → gM → Prop} (hQ : ∀ M : gM, PBy M0 M p 4 (fun i => (wB w i : Int)) → Q none M) : ∀ (n9 : Nat) (k : Nat) (s : Int32) (M : gM), 4 - k = n9 → k ≤ 4 → s.toInt = 24 - 8 * (k : Int) → PBy M0 M p k (fun i => (wB w i : Int)) → G Γ μX2_putBytes (g_R 0) (0, 0) (g_Z Γ Q) 3 [some (.ref 230), some (.int w), some (.int s)] [] M := by
  intro n9
  induction n9 using Nat.strongRecOn with
  | ind n9 ih =>
    intro k s M h9 hk hs hB
    obtain ⟨g1, g2, g3, g4, g5, g6⟩ := id hB
    refine g_iload_n2 dX2_putBytes_3 rfl ?_
    refine g_if_ltI (t := 46) dX2_putBytes_4 (by decide) rfl (fun c4 => ?_) (fun c4 => ?_)
    · -- 4 t
      have he : k = 4 := by omega
      refine g_vret dX2_putBytes_46 rfl ?_
      rw [he] at hB
      exact hQ _ hB
    · -- 4 f
      have hk4 : k < 4 := by omega
      refine g_aload_n0 dX2_putBytes_7 rfl ?_
      refine g_geti dX2_putBytes_8 rfl fX2_22 hA.1 rfl ?_
      refine g_sipushI dX2_putBytes_11 rfl rfl (fun w11 h11 => ?_)
      refine g_icmp_geI (t := 46) dX2_putBytes_14 (by decide) rfl (fun c14 => absurd c14 (by omega)) (fun c14 => ?_)
      refine g_aload_n0 dX2_putBytes_17 rfl ?_
      refine g_getr dX2_putBytes_18 rfl fX2_18 hA.1 rfl ?_
      refine g_aload_n0 dX2_putBytes_21 rfl ?_
      refine g_geti dX2_putBytes_22 rfl fX2_22 hA.1 rfl ?_
      refine g_iload_n1 dX2_putBytes_25 rfl ?_
      refine g_iload_n2 dX2_putBytes_26 rfl ?_
      refine g_iushrB dX2_putBytes_27 rfl ⟨by omega, by omega⟩ (fun w27 h27 => ?_)
      refine g_i2b dX2_putBytes_28 rfl ?_
      refine g_bastI dX2_putBytes_29 rfl hA.2.1 ⟨by omega, by omega⟩ ?_
      rw [nar_b]
      have i29 : (M.1 230 2).toInt.toNat = p + k := by omega
      rw [i29]
      have hv : (w27.toInt8.toInt32).toInt = sgn8 (wB w k : Int) := by
        rw [i2b_sgn, h27, wB, show s.toInt.toNat = 24 - 8 * k by omega]
      refine g_aload_n0 dX2_putBytes_30 rfl ?_
      refine g_dup dX2_putBytes_31 rfl rfl ?_
      refine g_geti dX2_putBytes_32 rfl fX2_22 hA.1 rfl ?_
      rw [g_u_ne (show 230 ≠ 231 by omega)]
      refine g_iconstI dX2_putBytes_35 rfl rfl (fun w35 h35 => ?_)
      refine g_iaddI dX2_putBytes_36 rfl ⟨by omega, by omega⟩ (fun w36 h36 => ?_)
      refine g_put dX2_putBytes_37 rfl fX2_22 hA.1 rfl rfl rfl ?_
      refine g_iincI2 dX2_putBytes_40 rfl rfl rfl ⟨by omega, by omega⟩ (fun w40 h40 => ?_)
      refine g_goto (t := 3) dX2_putBytes_43 (by decide) ?_
      obtain ⟨M', hM'⟩ : ∃ M', M' = g_u (g_u M 231 (p + k) (w27.toInt8.toInt32)) 230 2 w36 := ⟨_, rfl⟩
      refine g_fwd (M1 := M') ?_ hM'
      have m1 : ∀ j, j ≠ 230 → j ≠ 231 → M'.1 j = M0.1 j := fun j q1 q2 => by rw [hM', g_u_ne q1, g_u_ne q2]; exact g1 j q1 q2
      have m2 : M'.2 = M0.2 := by rw [hM']; exact g2
      have m3 : ∀ q, q ≠ 2 → M'.1 230 q = M0.1 230 q := fun q hq => by rw [hM', g_u_eq, if_neg hq, g_u_ne (by decide)]; exact g3 q hq
      have m4 : (M'.1 230 2).toInt = (p : Int) + ((k + 1 : Nat) : Int) := by rw [hM', g_u_eq, if_pos rfl]; omega
      have m5 : ∀ i, i < k + 1 → (M'.1 231 (p + i)).toInt = sgn8 (wB w i : Int) := fun i hi => by
        rw [hM', g_u_ne (by decide), g_u_eq]
        by_cases hik : i = k
        · rw [hik, if_pos rfl]; exact hv
        · rw [if_neg (by omega)]; exact g5 i (by omega)
      have m6 : ∀ q, ¬ (p ≤ q ∧ q < p + (k + 1)) → M'.1 231 q = M0.1 231 q := fun q hq => by rw [hM', g_u_ne (by decide), g_u_eq, if_neg (by omega)]; exact g6 q (by omega)
      exact ih _ (show 4 - (k + 1) < n9 by omega) (k + 1) _ M' rfl (by omega) (by omega) ⟨m1, m2, m3, m4, m5, m6⟩
set_option maxHeartbeats 1200000 in
theorem c_putBytes {Γ : gW} {M : gM} (hA : g_Tape Γ) {w : Int32} {p : Nat} (hfed : (M.1 230 2).toInt = (p : Int)) (hp : p + 4 ≤ 700) : Ct Γ yX2_putBytes μX2_putBytes 0 [.ref 230, .int w] M (g_qv (fun M1 => PBy M M1 p 4 (fun i => (wB w i : Int)))) := by
  refine g_enter rfl rfl rfl (Nat.le_of_ble_eq_true rfl) ?_
  show G Γ _ _ _ _ 0 [some (.ref 230), some (.int w), none] [] M
  refine g_bipushI dX2_putBytes_0 rfl rfl (fun w0 h0 => ?_)
  refine g_istore_n2 dX2_putBytes_2 rfl rfl ?_
  exact l_pb hA hp (fun M1 h => ⟨rfl, h⟩) _ 0 _ _ rfl (by decide) (by omega) ⟨fun _ _ _ => rfl, rfl, fun _ _ => rfl, by omega, fun i hi => by omega, fun _ _ => rfl⟩
set_option maxHeartbeats 1200000 in
theorem c_tpLength {Γ : gW} {M : gM} (hA : g_Tape Γ)  : Ct Γ yX2_length μX2_length 0 [.ref 230] M (g_qi (fun z M1 => M1 = M ∧ z = M.1 230 2)) := by
  refine g_enter rfl rfl rfl (Nat.le_of_ble_eq_true rfl) ?_
  show G Γ _ _ _ _ 0 [some (.ref 230)] [] M
  refine g_aload_n0 dX2_length_0 rfl ?_
  refine g_geti dX2_length_1 rfl fX2_22 hA.1 rfl ?_
  refine g_iret dX2_length_4 rfl ?_
  exact ⟨_, rfl, rfl, rfl⟩
set_option maxHeartbeats 1200000 in
theorem c_place {Γ : gW} {M : gM} (hA : g_Tape Γ)  : Ct Γ yX2_place μX2_place 0 [.ref 230] M (g_qi (fun z M1 => M1 = M ∧ z = M.1 230 8)) := by
  refine g_enter rfl rfl rfl (Nat.le_of_ble_eq_true rfl) ?_
  show G Γ _ _ _ _ 0 [some (.ref 230)] [] M
  refine g_aload_n0 dX2_place_0 rfl ?_
  refine g_geti dX2_place_1 rfl fX2_42 hA.1 rfl ?_
  refine g_iret dX2_place_4 rfl ?_
  exact ⟨_, rfl, rfl, rfl⟩
set_option maxHeartbeats 1200000 in
theorem c_hasRoom {Γ : gW} {M : gM} (hA : g_Tape Γ) {k : Int32} (hk : 0 ≤ k.toInt ∧ k.toInt ≤ 1000) (hf : 0 ≤ (M.1 230 2).toInt ∧ (M.1 230 2).toInt ≤ 700) : Ct Γ yX2_hasRoomFor μX2_hasRoomFor 0 [.ref 230, .int k] M (g_qi (fun z M1 => M1 = M ∧ (z.toInt = 0 ∨ z.toInt = 1) ∧ (z.toInt = 1 ↔ (M.1 230 2).toInt + k.toInt ≤ 700))) := by
  refine g_enter rfl rfl rfl (Nat.le_of_ble_eq_true rfl) ?_
  show G Γ _ _ _ _ 0 [some (.ref 230), some (.int k)] [] M
  refine g_aload_n0 dX2_hasRoomFor_0 rfl ?_
  refine g_geti dX2_hasRoomFor_1 rfl fX2_22 hA.1 rfl ?_
  refine g_iload_n1 dX2_hasRoomFor_4 rfl ?_
  refine g_iaddI dX2_hasRoomFor_5 rfl ⟨by omega, by omega⟩ (fun w5 h5 => ?_)
  refine g_sipushI dX2_hasRoomFor_6 rfl rfl (fun w6 h6 => ?_)
  refine g_icmp_gtI (t := 16) dX2_hasRoomFor_9 (by decide) rfl (fun c9 => ?_) (fun c9 => ?_)
  · -- 9 t
    refine g_iconstI dX2_hasRoomFor_16 rfl rfl (fun w16 h16 => ?_)
    refine g_zretI dX2_hasRoomFor_17 rfl (by omega) ?_
    exact ⟨_, rfl, rfl, by omega, by omega⟩
  · -- 9 f
    refine g_iconstI dX2_hasRoomFor_12 rfl rfl (fun w12 h12 => ?_)
    refine g_goto (t := 17) dX2_hasRoomFor_13 (by decide) ?_
    refine g_zretI dX2_hasRoomFor_17 rfl (by omega) ?_
    exact ⟨_, rfl, rfl, by omega, by omega⟩
