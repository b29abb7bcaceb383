set_option maxHeartbeats 1200000 in
theorem l_img1 {Γ : gW} {M : gM} (hR : g_Ref Γ)  {Q : Option Value → gM → Prop} (hk : ∀ i : Int32, G Γ μX6_image (g_R 1) (0, 0) (g_Z Γ Q) 63 [some (.ref 300), some (.int i)] [] (rowI M 452 (M.1 409) (12))) : ∀ (n9 : Nat) (i : Int32), 12 - i.toInt.toNat = n9 → 0 ≤ i.toInt → i.toInt.toNat ≤ 12 → G Γ μX6_image (g_R 1) (0, 0) (g_Z Γ Q) 39 [some (.ref 300), some (.int i)] [] (rowI M 452 (M.1 409) i.toInt.toNat) := by
  intro n9
  induction n9 using Nat.strongRecOn with
  | ind n9 ih =>
    intro i hn hi0 hi1
    refine g_iload_n1 dX6_image_39 rfl ?_
    refine g_bipushI dX6_image_40 rfl rfl (fun w40 h40 => ?_)
    refine g_icmp_geI (t := 63) dX6_image_42 (by decide) rfl (fun c42 => ?_) (fun c42 => ?_)
    · -- 42 t
      have h := hk i
      rw [show 12 = i.toInt.toNat by omega] at h
      exact h
    · -- 42 f
      refine g_aload_n0 dX6_image_45 rfl ?_
      refine g_getr dX6_image_46 rfl fX6_115 hR.1 rfl ?_
      refine g_iload_n1 dX6_image_49 rfl ?_
      refine g_aload_n0 dX6_image_50 rfl ?_
      refine g_getr dX6_image_51 rfl fX6_47 hR.1 rfl ?_
      refine g_iload_n1 dX6_image_54 rfl ?_
      refine g_ialdI dX6_image_55 rfl (rf_weight hR) ⟨by omega, by omega⟩ ?_
      rw [rowI_ne (show (409 : Nat) ≠ 452 by decide)]
      refine g_iastI dX6_image_56 rfl (rf_weightThen hR) ⟨by omega, by omega⟩ ?_
      refine g_iincI1 dX6_image_57 rfl rfl rfl ⟨by omega, by omega⟩ (fun w57 h57 => ?_)
      refine g_goto (t := 39) dX6_image_60 (by decide) ?_
      have h := ih _ (by omega) w57 rfl (by omega) (by omega)
      rw [h57, show (i.toInt + 1).toNat = i.toInt.toNat + 1 by omega, ← rowI_step (x := M.1 409 i.toInt.toNat) rfl] at h
      exact h
set_option maxHeartbeats 1200000 in
theorem l_img2 {Γ : gW} {M : gM} (hR : g_Ref Γ) (hg : 0 ≤ (M.1 300 24).toInt ∧ (M.1 300 24).toInt ≤ 200)  {Q : Option Value → gM → Prop} (hk : ∀ i : Int32, G Γ μX6_image (g_R 1) (0, 0) (g_Z Γ Q) 94 [some (.ref 300), some (.int i)] [] (rowI M 453 (M.1 425) ((9 * (M.1 300 24).toInt.toNat)))) : ∀ (n9 : Nat) (i : Int32), (9 * (M.1 300 24).toInt.toNat) - i.toInt.toNat = n9 → 0 ≤ i.toInt → i.toInt.toNat ≤ (9 * (M.1 300 24).toInt.toNat) → G Γ μX6_image (g_R 1) (0, 0) (g_Z Γ Q) 65 [some (.ref 300), some (.int i)] [] (rowI M 453 (M.1 425) i.toInt.toNat) := by
  intro n9
  induction n9 using Nat.strongRecOn with
  | ind n9 ih =>
    intro i hn hi0 hi1
    refine g_iload_n1 dX6_image_65 rfl ?_
    refine g_bipushI dX6_image_66 rfl rfl (fun w66 h66 => ?_)
    refine g_aload_n0 dX6_image_68 rfl ?_
    refine g_geti dX6_image_69 rfl fX6_256 hR.1 rfl ?_
    rw [rowI_ne (show (300 : Nat) ≠ 453 by decide)]
    refine g_imulI dX6_image_72 rfl ⟨by rw [h66]; omega, by rw [h66]; omega⟩ (fun w72 h72 => ?_)
    rw [h66] at h72
    refine g_icmp_geI (t := 94) dX6_image_73 (by decide) rfl (fun c73 => ?_) (fun c73 => ?_)
    · -- 73 t
      have h := hk i
      rw [show (9 * (M.1 300 24).toInt.toNat) = i.toInt.toNat by omega] at h
      exact h
    · -- 73 f
      refine g_aload_n0 dX6_image_76 rfl ?_
      refine g_getr dX6_image_77 rfl fX6_118 hR.1 rfl ?_
      refine g_iload_n1 dX6_image_80 rfl ?_
      refine g_aload_n0 dX6_image_81 rfl ?_
      refine g_getr dX6_image_82 rfl fX6_64 hR.1 rfl ?_
      refine g_iload_n1 dX6_image_85 rfl ?_
      refine g_ialdI dX6_image_86 rfl (rf_book hR) ⟨by omega, by omega⟩ ?_
      rw [rowI_ne (show (425 : Nat) ≠ 453 by decide)]
      refine g_iastI dX6_image_87 rfl (rf_bookThen hR) ⟨by omega, by omega⟩ ?_
      refine g_iincI1 dX6_image_88 rfl rfl rfl ⟨by omega, by omega⟩ (fun w88 h88 => ?_)
      refine g_goto (t := 65) dX6_image_91 (by decide) ?_
      have h := ih _ (by omega) w88 rfl (by omega) (by omega)
      rw [h88, show (i.toInt + 1).toNat = i.toInt.toNat + 1 by omega, ← rowI_step (x := M.1 425 i.toInt.toNat) rfl] at h
      exact h
set_option maxHeartbeats 1200000 in
theorem l_res1 {Γ : gW} {M : gM} (hR : g_Ref Γ)  {Q : Option Value → gM → Prop} (hk : ∀ i : Int32, G Γ μX6_restore (g_R 1) (0, 0) (g_Z Γ Q) 67 [some (.ref 300), some (.int i)] [] (rowI M 409 (M.1 452) (12))) : ∀ (n9 : Nat) (i : Int32), 12 - i.toInt.toNat = n9 → 0 ≤ i.toInt → i.toInt.toNat ≤ 12 → G Γ μX6_restore (g_R 1) (0, 0) (g_Z Γ Q) 43 [some (.ref 300), some (.int i)] [] (rowI M 409 (M.1 452) i.toInt.toNat) := by
  intro n9
  induction n9 using Nat.strongRecOn with
  | ind n9 ih =>
    intro i hn hi0 hi1
    refine g_iload_n1 dX6_restore_43 rfl ?_
    refine g_bipushI dX6_restore_44 rfl rfl (fun w44 h44 => ?_)
    refine g_icmp_geI (t := 67) dX6_restore_46 (by decide) rfl (fun c46 => ?_) (fun c46 => ?_)
    · -- 46 t
      have h := hk i
      rw [show 12 = i.toInt.toNat by omega] at h
      exact h
    · -- 46 f
      refine g_aload_n0 dX6_restore_49 rfl ?_
      refine g_getr dX6_restore_50 rfl fX6_47 hR.1 rfl ?_
      refine g_iload_n1 dX6_restore_53 rfl ?_
      refine g_aload_n0 dX6_restore_54 rfl ?_
      refine g_getr dX6_restore_55 rfl fX6_115 hR.1 rfl ?_
      refine g_iload_n1 dX6_restore_58 rfl ?_
      refine g_ialdI dX6_restore_59 rfl (rf_weightThen hR) ⟨by omega, by omega⟩ ?_
      rw [rowI_ne (show (452 : Nat) ≠ 409 by decide)]
      refine g_iastI dX6_restore_60 rfl (rf_weight hR) ⟨by omega, by omega⟩ ?_
      refine g_iincI1 dX6_restore_61 rfl rfl rfl ⟨by omega, by omega⟩ (fun w61 h61 => ?_)
      refine g_goto (t := 43) dX6_restore_64 (by decide) ?_
      have h := ih _ (by omega) w61 rfl (by omega) (by omega)
      rw [h61, show (i.toInt + 1).toNat = i.toInt.toNat + 1 by omega, ← rowI_step (x := M.1 452 i.toInt.toNat) rfl] at h
      exact h
set_option maxHeartbeats 1200000 in
theorem l_res2 {Γ : gW} {M : gM} (hR : g_Ref Γ) (hg : 0 ≤ (M.1 300 24).toInt ∧ (M.1 300 24).toInt ≤ 200)  {Q : Option Value → gM → Prop} (hk : ∀ i : Int32, G Γ μX6_restore (g_R 1) (0, 0) (g_Z Γ Q) 98 [some (.ref 300), some (.int i)] [] (rowI M 425 (M.1 453) ((9 * (M.1 300 24).toInt.toNat)))) : ∀ (n9 : Nat) (i : Int32), (9 * (M.1 300 24).toInt.toNat) - i.toInt.toNat = n9 → 0 ≤ i.toInt → i.toInt.toNat ≤ (9 * (M.1 300 24).toInt.toNat) → G Γ μX6_restore (g_R 1) (0, 0) (g_Z Γ Q) 69 [some (.ref 300), some (.int i)] [] (rowI M 425 (M.1 453) i.toInt.toNat) := by
  intro n9
  induction n9 using Nat.strongRecOn with
  | ind n9 ih =>
    intro i hn hi0 hi1
    refine g_iload_n1 dX6_restore_69 rfl ?_
    refine g_bipushI dX6_restore_70 rfl rfl (fun w70 h70 => ?_)
    refine g_aload_n0 dX6_restore_72 rfl ?_
    refine g_geti dX6_restore_73 rfl fX6_256 hR.1 rfl ?_
    rw [rowI_ne (show (300 : Nat) ≠ 425 by decide)]
    refine g_imulI dX6_restore_76 rfl ⟨by rw [h70]; omega, by rw [h70]; omega⟩ (fun w76 h76 => ?_)
    rw [h70] at h76
    refine g_icmp_geI (t := 98) dX6_restore_77 (by decide) rfl (fun c77 => ?_) (fun c77 => ?_)
    · -- 77 t
      have h := hk i
      rw [show (9 * (M.1 300 24).toInt.toNat) = i.toInt.toNat by omega] at h
      exact h
    · -- 77 f
      refine g_aload_n0 dX6_restore_80 rfl ?_
      refine g_getr dX6_restore_81 rfl fX6_64 hR.1 rfl ?_
      refine g_iload_n1 dX6_restore_84 rfl ?_
      refine g_aload_n0 dX6_restore_85 rfl ?_
      refine g_getr dX6_restore_86 rfl fX6_118 hR.1 rfl ?_
      refine g_iload_n1 dX6_restore_89 rfl ?_
      refine g_ialdI dX6_restore_90 rfl (rf_bookThen hR) ⟨by omega, by omega⟩ ?_
      rw [rowI_ne (show (453 : Nat) ≠ 425 by decide)]
      refine g_iastI dX6_restore_91 rfl (rf_book hR) ⟨by omega, by omega⟩ ?_
      refine g_iincI1 dX6_restore_92 rfl rfl rfl ⟨by omega, by omega⟩ (fun w92 h92 => ?_)
      refine g_goto (t := 69) dX6_restore_95 (by decide) ?_
      have h := ih _ (by omega) w92 rfl (by omega) (by omega)
      rw [h92, show (i.toInt + 1).toNat = i.toInt.toNat + 1 by omega, ← rowI_step (x := M.1 453 i.toInt.toNat) rfl] at h
      exact h
def img0 (M : gM) : gM := g_u (g_u (g_u (g_u M 300 1 0) 300 48 1) 300 49 (M.1 300 24)) 300 50 (M.1 300 12)
def imgM (M : gM) : gM := g_u (g_u (rowI (rowI (rowI (img0 M) 451 (M.1 407) 30) 452 (M.1 409) 12) 453 (M.1 425) (9 * (M.1 300 24).toInt.toNat)) 454 0 (M.1 406 0)) 454 1 (M.1 406 1)
def res0 (M : gM) : gM := g_u (g_u (g_u M 300 1 0) 300 24 (M.1 300 49)) 300 12 (M.1 300 50)
def resM (M : gM) : gM := g_u (g_u (rowI (rowI (rowI (res0 M) 407 (M.1 451) 30) 409 (M.1 452) 12) 425 (M.1 453) (9 * (M.1 300 49).toInt.toNat)) 406 0 (M.1 454 0)) 406 1 (M.1 454 1)
set_option maxHeartbeats 1200000 in
theorem r_image {Γ : gW} {M : gM} (hR : g_Ref Γ) (hg : 0 ≤ (M.1 300 24).toInt ∧ (M.1 300 24).toInt ≤ 200)  : Ct Γ yX6_image μX6_image 1 [.ref 300] M (g_qv (fun M1 => M1 = imgM M)) := by
  refine g_enter rfl rfl rfl (Nat.le_of_ble_eq_true rfl) ?_
  show G Γ _ _ _ _ 0 [some (.ref 300), none] [] M
  refine g_aload_n0 dX6_image_0 rfl ?_
  refine g_iconst (v := 0) dX6_image_1 rfl rfl ?_
  refine g_put dX6_image_2 rfl fX6_128 hR.1 rfl rfl rfl ?_
  refine g_aload_n0 dX6_image_5 rfl ?_
  refine g_iconst (v := 1) dX6_image_6 rfl rfl ?_
  refine g_put dX6_image_7 rfl fX6_259 hR.1 rfl rfl rfl ?_
  refine g_aload_n0 dX6_image_10 rfl ?_
  refine g_aload_n0 dX6_image_11 rfl ?_
  refine g_geti dX6_image_12 rfl fX6_256 hR.1 rfl ?_
  rw [g_u_eq, if_neg (show ¬ (24 : Nat) = 48 by decide)]
  rw [g_u_eq, if_neg (show ¬ (24 : Nat) = 1 by decide)]
  refine g_put dX6_image_15 rfl fX6_393 hR.1 rfl rfl rfl ?_
  refine g_aload_n0 dX6_image_18 rfl ?_
  refine g_aload_n0 dX6_image_19 rfl ?_
  refine g_geti dX6_image_20 rfl fX6_253 hR.1 rfl ?_
  rw [g_u_eq, if_neg (show ¬ (12 : Nat) = 49 by decide)]
  rw [g_u_eq, if_neg (show ¬ (12 : Nat) = 48 by decide)]
  rw [g_u_eq, if_neg (show ¬ (12 : Nat) = 1 by decide)]
  refine g_put dX6_image_23 rfl fX6_396 hR.1 rfl rfl rfl ?_
  refine g_aload_n0 dX6_image_26 rfl ?_
  refine g_getr dX6_image_27 rfl fX6_41 hR.1 rfl ?_
  refine g_aload_n0 dX6_image_30 rfl ?_
  refine g_getr dX6_image_31 rfl fX6_112 hR.1 rfl ?_
  refine g_callSv2 dX6_image_34 rfl sX6_249 (r_copy (rf_now hR) (rf_nowThen hR) (by decide)) (g_rm (by omega)) (Nat.le_of_ble_eq_true rfl) (fun M34 e34 => ?_)
  replace e34 : M34 = (rowI (img0 M) 451 (M.1 407) 30) := e34
  subst e34
  refine g_iconstI dX6_image_37 rfl rfl (fun w37 h37 => ?_)
  refine g_istore_n1 dX6_image_38 rfl rfl ?_
  refine g_fwd (l_img1 hR (M := (rowI (img0 M) 451 (M.1 407) 30)) ((fun i => ?_)) _ w37 rfl (by omega) (by omega)) (by rw [h37, show (0 : Int).toNat = 0 from rfl, rowI_0])
  show G Γ _ _ _ _ _ _ _ (rowI (rowI (img0 M) 451 (M.1 407) 30) 452 (M.1 409) 12)
  refine g_iconstI dX6_image_63 rfl rfl (fun w63 h63 => ?_)
  refine g_istore_n1 dX6_image_64 rfl rfl ?_
  refine g_fwd (l_img2 hR (M := (rowI (rowI (img0 M) 451 (M.1 407) 30) 452 (M.1 409) 12)) (show 0 ≤ (M.1 300 24).toInt ∧ (M.1 300 24).toInt ≤ 200 from hg) ((fun i => ?_)) _ w63 rfl (by omega) (by omega)) (by rw [h63, show (0 : Int).toNat = 0 from rfl, rowI_0])
  show G Γ _ _ _ _ _ _ _ (rowI (rowI (rowI (img0 M) 451 (M.1 407) 30) 452 (M.1 409) 12) 453 (M.1 425) (9 * (M.1 300 24).toInt.toNat))
  refine g_aload_n0 dX6_image_94 rfl ?_
  refine g_getr dX6_image_95 rfl fX6_121 hR.1 rfl ?_
  refine g_iconstI dX6_image_98 rfl rfl (fun w98 h98 => ?_)
  refine g_aload_n0 dX6_image_99 rfl ?_
  refine g_getr dX6_image_100 rfl fX6_38 hR.1 rfl ?_
  refine g_iconstI dX6_image_103 rfl rfl (fun w103 h103 => ?_)
  refine g_ialdI dX6_image_104 rfl (rf_status hR) ⟨by omega, by omega⟩ ?_
  
  refine g_iastI dX6_image_105 rfl (rf_statusThen hR) ⟨by omega, by omega⟩ ?_
  rw [show w98.toInt.toNat = 0 by omega, show w103.toInt.toNat = 0 by omega]
  refine g_aload_n0 dX6_image_106 rfl ?_
  refine g_getr dX6_image_107 rfl fX6_121 hR.1 rfl ?_
  refine g_iconstI dX6_image_110 rfl rfl (fun w110 h110 => ?_)
  refine g_aload_n0 dX6_image_111 rfl ?_
  refine g_getr dX6_image_112 rfl fX6_38 hR.1 rfl ?_
  refine g_iconstI dX6_image_115 rfl rfl (fun w115 h115 => ?_)
  refine g_ialdI dX6_image_116 rfl (rf_status hR) ⟨by omega, by omega⟩ ?_
  rw [g_u_ne (show 406 ≠ 454 by omega)]
  refine g_iastI dX6_image_117 rfl (rf_statusThen hR) ⟨by omega, by omega⟩ ?_
  rw [show w110.toInt.toNat = 1 by omega, show w115.toInt.toNat = 1 by omega]
  refine g_vret dX6_image_118 rfl ?_
  exact ⟨rfl, rfl⟩
set_option maxHeartbeats 1200000 in
theorem r_restore {Γ : gW} {M : gM} (hR : g_Ref Γ) (hg : 0 ≤ (M.1 300 49).toInt ∧ (M.1 300 49).toInt ≤ 200)  : Ct Γ yX6_restore μX6_restore 1 [.ref 300] M (g_qi (fun z M1 => ((M.1 300 48).toInt = 0 ∧ z.toInt = 0 ∧ M1 = g_u M 300 1 0) ∨ (¬ (M.1 300 48).toInt = 0 ∧ z.toInt = 1 ∧ M1 = resM M))) := by
  refine g_enter rfl rfl rfl (Nat.le_of_ble_eq_true rfl) ?_
  show G Γ _ _ _ _ 0 [some (.ref 300), none] [] M
  refine g_aload_n0 dX6_restore_0 rfl ?_
  refine g_iconst (v := 0) dX6_restore_1 rfl rfl ?_
  refine g_put dX6_restore_2 rfl fX6_128 hR.1 rfl rfl rfl ?_
  refine g_aload_n0 dX6_restore_5 rfl ?_
  refine g_geti dX6_restore_6 rfl fX6_259 hR.1 rfl ?_
  rw [g_u_eq, if_neg (show ¬ (48 : Nat) = 1 by decide)]
  refine g_if_neI (t := 14) dX6_restore_9 (by decide) rfl (fun c9 => ?_) (fun c9 => ?_)
  · -- 9 t
    refine g_aload_n0 dX6_restore_14 rfl ?_
    refine g_aload_n0 dX6_restore_15 rfl ?_
    refine g_geti dX6_restore_16 rfl fX6_393 hR.1 rfl ?_
    rw [g_u_eq, if_neg (show ¬ (49 : Nat) = 1 by decide)]
    refine g_put dX6_restore_19 rfl fX6_256 hR.1 rfl rfl rfl ?_
    refine g_aload_n0 dX6_restore_22 rfl ?_
    refine g_aload_n0 dX6_restore_23 rfl ?_
    refine g_geti dX6_restore_24 rfl fX6_396 hR.1 rfl ?_
    rw [g_u_eq, if_neg (show ¬ (50 : Nat) = 24 by decide)]
    rw [g_u_eq, if_neg (show ¬ (50 : Nat) = 1 by decide)]
    refine g_put dX6_restore_27 rfl fX6_253 hR.1 rfl rfl rfl ?_
    refine g_aload_n0 dX6_restore_30 rfl ?_
    refine g_getr dX6_restore_31 rfl fX6_112 hR.1 rfl ?_
    refine g_aload_n0 dX6_restore_34 rfl ?_
    refine g_getr dX6_restore_35 rfl fX6_41 hR.1 rfl ?_
    refine g_callSv2 dX6_restore_38 rfl sX6_249 (r_copy (rf_nowThen hR) (rf_now hR) (by decide)) (g_rm (by omega)) (Nat.le_of_ble_eq_true rfl) (fun M38 e38 => ?_)
    replace e38 : M38 = (rowI (res0 M) 407 (M.1 451) 30) := e38
    subst e38
    refine g_iconstI dX6_restore_41 rfl rfl (fun w41 h41 => ?_)
    refine g_istore_n1 dX6_restore_42 rfl rfl ?_
    refine g_fwd (l_res1 hR (M := (rowI (res0 M) 407 (M.1 451) 30)) ((fun i => ?_)) _ w41 rfl (by omega) (by omega)) (by rw [h41, show (0 : Int).toNat = 0 from rfl, rowI_0])
    show G Γ _ _ _ _ _ _ _ (rowI (rowI (res0 M) 407 (M.1 451) 30) 409 (M.1 452) 12)
    refine g_iconstI dX6_restore_67 rfl rfl (fun w67 h67 => ?_)
    refine g_istore_n1 dX6_restore_68 rfl rfl ?_
    refine g_fwd (l_res2 hR (M := (rowI (rowI (res0 M) 407 (M.1 451) 30) 409 (M.1 452) 12)) (show 0 ≤ (M.1 300 49).toInt ∧ (M.1 300 49).toInt ≤ 200 from hg) ((fun i => ?_)) _ w67 rfl (by omega) (by omega)) (by rw [h67, show (0 : Int).toNat = 0 from rfl, rowI_0])
    show G Γ _ _ _ _ _ _ _ (rowI (rowI (rowI (res0 M) 407 (M.1 451) 30) 409 (M.1 452) 12) 425 (M.1 453) (9 * (M.1 300 49).toInt.toNat))
    refine g_aload_n0 dX6_restore_98 rfl ?_
    refine g_getr dX6_restore_99 rfl fX6_38 hR.1 rfl ?_
    refine g_iconstI dX6_restore_102 rfl rfl (fun w102 h102 => ?_)
    refine g_aload_n0 dX6_restore_103 rfl ?_
    refine g_getr dX6_restore_104 rfl fX6_121 hR.1 rfl ?_
    refine g_iconstI dX6_restore_107 rfl rfl (fun w107 h107 => ?_)
    refine g_ialdI dX6_restore_108 rfl (rf_statusThen hR) ⟨by omega, by omega⟩ ?_
    refine g_iastI dX6_restore_109 rfl (rf_status hR) ⟨by omega, by omega⟩ ?_
    rw [show w102.toInt.toNat = 0 by omega, show w107.toInt.toNat = 0 by omega]
    refine g_aload_n0 dX6_restore_110 rfl ?_
    refine g_getr dX6_restore_111 rfl fX6_38 hR.1 rfl ?_
    refine g_iconstI dX6_restore_114 rfl rfl (fun w114 h114 => ?_)
    refine g_aload_n0 dX6_restore_115 rfl ?_
    refine g_getr dX6_restore_116 rfl fX6_121 hR.1 rfl ?_
    refine g_iconstI dX6_restore_119 rfl rfl (fun w119 h119 => ?_)
    refine g_ialdI dX6_restore_120 rfl (rf_statusThen hR) ⟨by omega, by omega⟩ ?_
    rw [g_u_ne (show 454 ≠ 406 by omega)]
    refine g_iastI dX6_restore_121 rfl (rf_status hR) ⟨by omega, by omega⟩ ?_
    rw [show w114.toInt.toNat = 1 by omega, show w119.toInt.toNat = 1 by omega]
    refine g_iconstI dX6_restore_122 rfl rfl (fun w122 h122 => ?_)
    refine g_zretI dX6_restore_123 rfl (by omega) ?_
    exact ⟨_, rfl, Or.inr ⟨by omega, h122, rfl⟩⟩
  · -- 9 f
    refine g_iconstI dX6_restore_12 rfl rfl (fun w12 h12 => ?_)
    refine g_zretI dX6_restore_13 rfl (by omega) ?_
    exact ⟨_, rfl, Or.inl ⟨by omega, h12, rfl⟩⟩
