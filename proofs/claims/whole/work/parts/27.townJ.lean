def dryW (M : gM) (t k : Nat) : Int := if (k : Int) < (M.1 t 1).toInt ∧ (bn (M.1 t 5)).testBit k = true ∧ 1 < (M.1 (t + 7) k).toInt then (M.1 (t + 7) k).toInt - 1 else (M.1 (t + 7) k).toInt
def dryI (M M' : gM) (t i : Nat) : Prop := (∀ j, j ≠ t + 7 → M'.1 j = M.1 j) ∧ M'.2 = M.2 ∧ ∀ k, (M'.1 (t + 7) k).toInt = if k < i then dryW M t k else (M.1 (t + 7) k).toInt
theorem dry_skip {M M' : gM} {t i : Nat} (h : dryI M M' t i) (hd : dryW M t i = (M.1 (t + 7) i).toInt) : dryI M M' t (i + 1) := by
  refine ⟨h.1, h.2.1, fun k => ?_⟩
  rw [h.2.2 k]
  by_cases hk : k < i
  · rw [if_pos hk, if_pos (by omega)]
  · rw [if_neg hk]
    by_cases hk2 : k = i
    · subst hk2; rw [if_pos (by omega), hd]
    · rw [if_neg (by omega)]
theorem dry_step {M M' : gM} {t i : Nat} {x : Int32} (h : dryI M M' t i) (hd : x.toInt = dryW M t i) : dryI M (g_u M' (t + 7) i x) t (i + 1) := by
  refine ⟨fun j hj => by rw [g_u_ne hj]; exact h.1 j hj, h.2.1, fun k => ?_⟩
  rw [g_u_eq]
  by_cases hk2 : k = i
  · subst hk2; rw [if_pos rfl, if_pos (by omega), hd]
  · rw [if_neg hk2, h.2.2 k]
    by_cases hk : k < i
    · rw [if_pos hk, if_pos (by omega)]
    · rw [if_neg hk, if_neg (by omega)]
/-- behind a day's end -/
def ED (M M1 : gM) (t : Nat) : Prop := (∀ j, j ≠ t → j ≠ t + 7 → j ≠ t + 9 → j ≠ t + 10 → M1.1 j = M.1 j) ∧ M1.2 = M.2 ∧ (∀ k, k ≠ 4 → M1.1 t k = M.1 t k) ∧ (M1.1 t 4).toInt = (M.1 t 4).toInt + 1 ∧ (∀ k, k < 12 → (M1.1 (t + 7) k).toInt = dryW M t k) ∧ TBt M1 t
set_option maxHeartbeats 4000000 in
theorem l_endDay {Γ : gW} {t : Nat} {M0 : gM} (hT : g_Town Γ t) (hB : TB M0 t) {Q : Option Value → gM → Prop} (hk : ∀ M : gM, dryI M0 M t (M0.1 t 1).toInt.toNat → ∀ i : Int32, G Γ μX3_endDay (g_R 1) (0, 0) (g_Z Γ Q) 48 [some (.ref t), some (.int i)] [] M) : ∀ (n : Nat) (i : Int32) (M : gM), (M0.1 t 1).toInt.toNat - i.toInt.toNat = n → 0 ≤ i.toInt → i.toInt ≤ (M0.1 t 1).toInt → dryI M0 M t i.toInt.toNat → G Γ μX3_endDay (g_R 1) (0, 0) (g_Z Γ Q) 2 [some (.ref t), some (.int i)] [] M := by
  intro n
  induction n using Nat.strongRecOn with
  | ind n ih =>
    intro i M hn hi0 hi1 hdr
    have hb0 := hB.1
    obtain ⟨h_pe, h_th, h_la, h_wi, h_da, h_we⟩ := id hb0
    have ht : M.1 t = M0.1 t := hdr.1 t (by omega)
    have h7 := hdr.2.2 i.toInt.toNat
    rw [if_neg (by omega)] at h7
    refine g_iload_n1 dX3_endDay_2 rfl ?_
    refine g_aload_n0 dX3_endDay_3 rfl ?_
    refine g_geti dX3_endDay_4 rfl fX3_15 hT.1 rfl ?_
    rw [ht]
    refine g_icmp_geI (t := 48) dX3_endDay_7 (by decide) rfl (fun c7 => ?_) (fun c7 => ?_)
    · -- 7 t
      exact hk M (by rw [show (M0.1 t 1).toInt.toNat = i.toInt.toNat by omega]; exact hdr) i
    · -- 7 f
      refine g_aload_n0 dX3_endDay_10 rfl ?_
      refine g_geti dX3_endDay_11 rfl fX3_27 hT.1 rfl ?_
      rw [ht]
      refine g_iload_n1 dX3_endDay_14 rfl ?_
      
      refine g_iushrB dX3_endDay_15 rfl ⟨by omega, by omega⟩ (fun w15 h15 => ?_)
      refine g_iconstI dX3_endDay_16 rfl rfl (fun w16 h16 => ?_)
      refine g_iandB dX3_endDay_17 rfl  (fun w17 h17 => ?_)
      have e1 := bn_lit (n := 1) h16
      have hbit := bit_and1 (bn (M0.1 t 5)) i.toInt.toNat
      rw [h15, e1, hbit] at h17
      have h17c : w17.toInt = if (bn (M0.1 t 5)).testBit i.toInt.toNat then 1 else 0 := by
        rw [i_bn (by rw [h17]; split <;> omega), h17]; split <;> rfl
      have hwt := (hB.2.2.1 i.toInt.toNat (by omega)).1
      have hdw : dryW M0 t i.toInt.toNat = _ := rfl
      refine g_iconstI dX3_endDay_18 rfl rfl (fun w18 h18 => ?_)
      refine g_icmp_neI (t := 42) dX3_endDay_19 (by decide) rfl (fun c19 => ?_) (fun c19 => ?_)
      · -- 19 t
        have hd : dryW M0 t i.toInt.toNat = (M0.1 (t + 7) i.toInt.toNat).toInt := by
          rw [dryW, if_neg]
          rintro ⟨-, a, -⟩
          rw [if_pos a] at h17c
          omega
        refine g_iincI1 dX3_endDay_42 rfl rfl rfl ⟨by omega, by omega⟩ (fun w42 h42 => ?_)
        refine g_goto (t := 2) dX3_endDay_45 (by decide) ?_
        first
          | exact ih _ (by omega) _ _ rfl (by omega) (by omega) (by rw [h42, show (i.toInt + 1).toNat = i.toInt.toNat + 1 by omega]; exact dry_step hdr (by omega))
          | exact ih _ (by omega) _ _ rfl (by omega) (by omega) (by rw [h42, show (i.toInt + 1).toNat = i.toInt.toNat + 1 by omega]; exact dry_skip hdr hd)
      · -- 19 f
        have htb : (bn (M0.1 t 5)).testBit i.toInt.toNat = true := by
          by_cases hb : (bn (M0.1 t 5)).testBit i.toInt.toNat = true
          · exact hb
          · rw [if_neg hb] at h17c; omega
        refine g_aload_n0 dX3_endDay_22 rfl ?_
        refine g_getr dX3_endDay_23 rfl fX3_49 hT.1 rfl ?_
        refine g_iload_n1 dX3_endDay_26 rfl ?_
        refine g_ialdI dX3_endDay_27 rfl (tw_weight hT) ⟨by omega, by omega⟩ ?_
        refine g_iconstI dX3_endDay_28 rfl rfl (fun w28 h28 => ?_)
        refine g_icmp_leI (t := 42) dX3_endDay_29 (by decide) rfl (fun c29 => ?_) (fun c29 => ?_)
        · -- 29 t
          have hd : dryW M0 t i.toInt.toNat = (M0.1 (t + 7) i.toInt.toNat).toInt := by
            rw [dryW, if_neg]
            rintro ⟨-, -, a⟩
            omega
          refine g_iincI1 dX3_endDay_42 rfl rfl rfl ⟨by omega, by omega⟩ (fun w42 h42 => ?_)
          refine g_goto (t := 2) dX3_endDay_45 (by decide) ?_
          first
            | exact ih _ (by omega) _ _ rfl (by omega) (by omega) (by rw [h42, show (i.toInt + 1).toNat = i.toInt.toNat + 1 by omega]; exact dry_step hdr (by omega))
            | exact ih _ (by omega) _ _ rfl (by omega) (by omega) (by rw [h42, show (i.toInt + 1).toNat = i.toInt.toNat + 1 by omega]; exact dry_skip hdr hd)
        · -- 29 f
          have hd2 : dryW M0 t i.toInt.toNat = (M0.1 (t + 7) i.toInt.toNat).toInt - 1 := by
            rw [dryW, if_pos ⟨by omega, htb, by omega⟩]
          refine g_aload_n0 dX3_endDay_32 rfl ?_
          refine g_getr dX3_endDay_33 rfl fX3_49 hT.1 rfl ?_
          refine g_iload_n1 dX3_endDay_36 rfl ?_
          refine g_dup2 dX3_endDay_37 rfl rfl rfl ?_
          refine g_ialdI dX3_endDay_38 rfl (tw_weight hT) ⟨by omega, by omega⟩ ?_
          refine g_iconstI dX3_endDay_39 rfl rfl (fun w39 h39 => ?_)
          refine g_isubI dX3_endDay_40 rfl ⟨by omega, by omega⟩ (fun w40 h40 => ?_)
          refine g_iastI dX3_endDay_41 rfl (tw_weight hT) ⟨by omega, by omega⟩ ?_
          refine g_iincI1 dX3_endDay_42 rfl rfl rfl ⟨by omega, by omega⟩ (fun w42 h42 => ?_)
          refine g_goto (t := 2) dX3_endDay_45 (by decide) ?_
          first
            | exact ih _ (by omega) _ _ rfl (by omega) (by omega) (by rw [h42, show (i.toInt + 1).toNat = i.toInt.toNat + 1 by omega]; exact dry_step hdr (by omega))
            | exact ih _ (by omega) _ _ rfl (by omega) (by omega) (by rw [h42, show (i.toInt + 1).toNat = i.toInt.toNat + 1 by omega]; exact dry_skip hdr hd)
set_option maxHeartbeats 4000000 in
theorem c_endDay {Γ : gW} {t : Nat} {M : gM} (hT : g_Town Γ t) (hB : TB M t)  : Ct Γ yX3_endDay μX3_endDay 1 [.ref t] M (g_qv (fun M1 => ED M M1 t)) := by
  have hb0 := hB.1
  obtain ⟨h_pe, h_th, h_la, h_wi, h_da, h_we⟩ := id hb0
  refine g_enter rfl rfl rfl (Nat.le_of_ble_eq_true rfl) ?_
  show G Γ _ _ _ _ 0 [some (.ref t), none] [] M
  refine g_iconstI dX3_endDay_0 rfl rfl (fun w0 h0 => ?_)
  refine g_istore_n1 dX3_endDay_1 rfl rfl ?_
  refine l_endDay hT hB (fun M1 hdr i1 => ?_) _ w0 M rfl (by omega) (by omega) ⟨fun _ _ => rfl, rfl, fun k => by rw [h0]; rfl⟩
  refine g_aload_n0 dX3_endDay_48 rfl ?_
  have hwz : ∀ i, i < 12 → 0 ≤ (M1.1 (t + 7) i).toInt ∧ (M1.1 (t + 7) i).toInt ≤ 99 := fun i hi => by
    have h1 := hdr.2.2 i
    have h2 := (hB.2.2.1 i hi).1
    rw [h1, dryW]
    split <;> (try split) <;> omega
  have hz0 := TBt.zero hB.2.2.2
  have hzz : (M1.1 (t + 9) 0).toInt = 0 ∧ (M1.1 (t + 10) 0).toInt = 0 := by rw [hdr.1 _ (by omega), hdr.1 _ (by omega)]; exact hz0
  refine g_callVv0 dX3_endDay_49 rfl vX3_67 hT.1 rfl (c_weighSets hT hwz hzz) (g_rm (by omega)) (Nat.le_of_ble_eq_true rfl) (fun M49 e49 => ?_)
  obtain ⟨b1, b2⟩ := e49
  have ht : M49.1 t = M.1 t := by rw [b1.1 t (by omega) (by omega)]; exact hdr.1 t (by omega)
  refine g_aload_n0 dX3_endDay_52 rfl ?_
  refine g_dup dX3_endDay_53 rfl rfl ?_
  refine g_geti dX3_endDay_54 rfl fX3_24 hT.1 rfl ?_
  rw [ht]
  refine g_iconstI dX3_endDay_57 rfl rfl (fun w57 h57 => ?_)
  refine g_iaddI dX3_endDay_58 rfl ⟨by omega, by omega⟩ (fun w58 h58 => ?_)
  refine g_put dX3_endDay_59 rfl fX3_24 hT.1 rfl rfl rfl ?_
  refine g_vret dX3_endDay_62 rfl ?_
  refine ⟨rfl, fun j h1 h2 h3 h4 => ?_, ?_, fun k hk => ?_, ?_, fun k hk => ?_, ?_⟩
  · rw [g_u_ne h1, b1.1 j h3 h4]; exact hdr.1 j h2
  · rw [g_u_2, b1.2]; exact hdr.2.1
  · rw [g_u_eq, if_neg hk, ht]
  · rw [g_u_eq, if_pos rfl]; omega
  · rw [g_u_ne (by omega), b1.1 _ (by omega) (by omega), hdr.2.2 k]
    by_cases hkk : k < (M.1 t 1).toInt.toNat
    · rw [if_pos hkk]
    · rw [if_neg hkk, dryW, if_neg (by omega)]
  · exact TBt.moved b2 (g_u_ne (by omega)) (g_u_ne (by omega)) (g_u_ne (by omega))
