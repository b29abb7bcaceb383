set_option maxHeartbeats 1200000 in
theorem x_give {Γ : gW} {gt : Option Nat} {M : gM} (hA : g_HG Γ gt) {S : gSt} {p s n k : Int32} (hI : INV S.1) (hS : CSB S M) (hst : 0 ≤ (M.1 0 4).toInt ∧ (M.1 0 4).toInt ≤ 1000000) : Ct Γ yX5_give μX5_give 3 [.ref 0, .int p, .int s, .int n, .int k] M (g_qi (fun z M1 => (¬ troubT S.1 p.toInt s.toInt n.toInt k.toInt = 0 ∧ z.toInt = troubT S.1 p.toInt s.toInt n.toInt k.toInt ∧ ∃ x : Int32, x.toInt = (M.1 0 4).toInt + 1 ∧ M1 = g_u M 0 4 x) ∨ (troubT S.1 p.toInt s.toInt n.toInt k.toInt = 0 ∧ S.2.1 = 200 ∧ z.toInt = 7 ∧ ∃ x : Int32, x.toInt = (M.1 0 4).toInt + 1 ∧ M1 = g_u M 0 4 x) ∨ (troubT S.1 p.toInt s.toInt n.toInt k.toInt = 0 ∧ S.2.1 < 200 ∧ z.toInt = 0 ∧ CSB (gvS S p.toInt.toNat s.toInt.toNat n.toInt k.toInt.toNat) M1 ∧ frB M M1))) := by
  obtain ⟨hT, hTt, h0, h1, h2⟩ := id hS
  have hO := hI.1
  have hB : TB M 100 := TB.of (by rw [hT]; exact hO) hTt
  refine g_enter rfl rfl rfl (Nat.le_of_ble_eq_true rfl) ?_
  show G Γ _ _ _ _ 0 [some (.ref 0), some (.int p), some (.int s), some (.int n), some (.int k), none] [] M
  refine g_aload_n0 dX5_give_0 rfl ?_
  refine g_getr dX5_give_1 rfl fX5_10 hA.1 rfl ?_
  refine g_iload_n1 dX5_give_4 rfl ?_
  refine g_iload_n2 dX5_give_5 rfl ?_
  refine g_iload_n3 dX5_give_6 rfl ?_
  refine g_iload4 dX5_give_7 rfl ?_
  refine g_callVi4 dX5_give_9 rfl vX5_171 (hg_town hA).1 rfl (c_troubleOf (hg_town hA) hB) (g_rm (by omega)) (Nat.le_of_ble_eq_true rfl) (fun z9 M9 e9 => ?_)
  obtain ⟨hMM, e9⟩ := e9
  subst M9
  rw [v_troub hB, hT] at e9
  refine g_istore5 dX5_give_12 rfl rfl ?_
  refine g_iload5 dX5_give_14 rfl ?_
  refine g_if_neI (t := 33) dX5_give_16 (by decide) rfl (fun c16 => ?_) (fun c16 => ?_)
  · -- 16 t
    refine g_iload5 dX5_give_33 rfl ?_
    refine g_if_eqI (t := 51) dX5_give_35 (by decide) rfl (fun c35 => ?_) (fun c35 => ?_)
    · -- 35 t
      first
        | (exfalso; omega)
        | (refine g_aload_n0 dX5_give_51 rfl ?_
           refine g_iload_n1 dX5_give_52 rfl ?_
           refine g_iload_n2 dX5_give_53 rfl ?_
           refine g_iload_n3 dX5_give_54 rfl ?_
           refine g_iload4 dX5_give_55 rfl ?_
           refine g_callVv4 dX5_give_57 rfl vX5_179 hA.1 rfl (x_makeGift hA hI hS hnf hcan.2.2.2 (by omega) (by omega) rfl (by omega)) (g_rm (by omega)) (Nat.le_of_ble_eq_true rfl) (fun M57 e57 => ?_)
           refine g_iconstI dX5_give_60 rfl rfl (fun w60 h60 => ?_)
           refine g_iret dX5_give_61 rfl ?_
           exact ⟨_, rfl, Or.inr (Or.inr ⟨by omega, hnf, h60, e57.1, e57.2⟩)⟩)
    · -- 35 f
      refine g_aload_n0 dX5_give_38 rfl ?_
      refine g_dup dX5_give_39 rfl rfl ?_
      refine g_geti dX5_give_40 rfl fX5_30 hA.1 rfl ?_
      refine g_iconstI dX5_give_43 rfl rfl (fun w43 h43 => ?_)
      refine g_iaddI dX5_give_44 rfl ⟨by omega, by omega⟩ (fun w44 h44 => ?_)
      refine g_put dX5_give_45 rfl fX5_30 hA.1 rfl rfl rfl ?_
      refine g_iload5 dX5_give_48 rfl ?_
      refine g_iret dX5_give_50 rfl ?_
      first
        | exact ⟨_, rfl, Or.inr (Or.inl ⟨by omega, hfl, by omega, _, by omega, rfl⟩)⟩
        | exact ⟨_, rfl, Or.inl ⟨by omega, e9, _, by omega, rfl⟩⟩
        | (exfalso; omega)
  · -- 16 f
    refine g_aload_n0 dX5_give_19 rfl ?_
    refine g_getr dX5_give_20 rfl fX5_22 hA.1 rfl ?_
    refine g_callVi0 dX5_give_23 rfl vX5_175 (hg_book hA).1 rfl (c_bkIsFull (hg_book hA)) (g_rm (by omega)) (Nat.le_of_ble_eq_true rfl) (fun z23 M23 e23 => ?_)
    obtain ⟨hMM, e23, f23⟩ := e23
    subst M23
    refine g_if_eqI (t := 33) dX5_give_26 (by decide) rfl (fun c26 => ?_) (fun c26 => ?_)
    · -- 26 t
      have hnf : S.2.1 < 200 := by
        by_cases q : S.2.1 < 200
        · exact q
        · have := f23.mpr (by omega); omega
      clear f23 e23
      have hcan := troub_can hO (e9.symm.trans c16)
      refine g_iload5 dX5_give_33 rfl ?_
      refine g_if_eqI (t := 51) dX5_give_35 (by decide) rfl (fun c35 => ?_) (fun c35 => ?_)
      · -- 35 t
        first
          | (exfalso; omega)
          | (refine g_aload_n0 dX5_give_51 rfl ?_
             refine g_iload_n1 dX5_give_52 rfl ?_
             refine g_iload_n2 dX5_give_53 rfl ?_
             refine g_iload_n3 dX5_give_54 rfl ?_
             refine g_iload4 dX5_give_55 rfl ?_
             refine g_callVv4 dX5_give_57 rfl vX5_179 hA.1 rfl (x_makeGift hA hI hS hnf hcan.2.2.2 (by omega) (by omega) rfl (by omega)) (g_rm (by omega)) (Nat.le_of_ble_eq_true rfl) (fun M57 e57 => ?_)
             refine g_iconstI dX5_give_60 rfl rfl (fun w60 h60 => ?_)
             refine g_iret dX5_give_61 rfl ?_
             exact ⟨_, rfl, Or.inr (Or.inr ⟨by omega, hnf, h60, e57.1, e57.2⟩)⟩)
      · -- 35 f
        refine g_aload_n0 dX5_give_38 rfl ?_
        refine g_dup dX5_give_39 rfl rfl ?_
        refine g_geti dX5_give_40 rfl fX5_30 hA.1 rfl ?_
        refine g_iconstI dX5_give_43 rfl rfl (fun w43 h43 => ?_)
        refine g_iaddI dX5_give_44 rfl ⟨by omega, by omega⟩ (fun w44 h44 => ?_)
        refine g_put dX5_give_45 rfl fX5_30 hA.1 rfl rfl rfl ?_
        refine g_iload5 dX5_give_48 rfl ?_
        refine g_iret dX5_give_50 rfl ?_
        first
          | exact ⟨_, rfl, Or.inr (Or.inl ⟨by omega, hfl, by omega, _, by omega, rfl⟩)⟩
          | exact ⟨_, rfl, Or.inl ⟨by omega, e9, _, by omega, rfl⟩⟩
          | (exfalso; omega)
    · -- 26 f
      have hfl : S.2.1 = 200 := by have := f23.mp (by omega); omega
      clear f23 e23
      refine g_bipushI dX5_give_29 rfl rfl (fun w29 h29 => ?_)
      refine g_istore5 dX5_give_31 rfl rfl ?_
      refine g_iload5 dX5_give_33 rfl ?_
      refine g_if_eqI (t := 51) dX5_give_35 (by decide) rfl (fun c35 => ?_) (fun c35 => ?_)
      · -- 35 t
        first
          | (exfalso; omega)
          | (refine g_aload_n0 dX5_give_51 rfl ?_
             refine g_iload_n1 dX5_give_52 rfl ?_
             refine g_iload_n2 dX5_give_53 rfl ?_
             refine g_iload_n3 dX5_give_54 rfl ?_
             refine g_iload4 dX5_give_55 rfl ?_
             refine g_callVv4 dX5_give_57 rfl vX5_179 hA.1 rfl (x_makeGift hA hI hS hnf hcan.2.2.2 (by omega) (by omega) rfl (by omega)) (g_rm (by omega)) (Nat.le_of_ble_eq_true rfl) (fun M57 e57 => ?_)
             refine g_iconstI dX5_give_60 rfl rfl (fun w60 h60 => ?_)
             refine g_iret dX5_give_61 rfl ?_
             exact ⟨_, rfl, Or.inr (Or.inr ⟨by omega, hnf, h60, e57.1, e57.2⟩)⟩)
      · -- 35 f
        refine g_aload_n0 dX5_give_38 rfl ?_
        refine g_dup dX5_give_39 rfl rfl ?_
        refine g_geti dX5_give_40 rfl fX5_30 hA.1 rfl ?_
        refine g_iconstI dX5_give_43 rfl rfl (fun w43 h43 => ?_)
        refine g_iaddI dX5_give_44 rfl ⟨by omega, by omega⟩ (fun w44 h44 => ?_)
        refine g_put dX5_give_45 rfl fX5_30 hA.1 rfl rfl rfl ?_
        refine g_iload5 dX5_give_48 rfl ?_
        refine g_iret dX5_give_50 rfl ?_
        first
          | exact ⟨_, rfl, Or.inr (Or.inl ⟨by omega, hfl, by omega, _, by omega, rfl⟩)⟩
          | exact ⟨_, rfl, Or.inl ⟨by omega, e9, _, by omega, rfl⟩⟩
          | (exfalso; omega)
