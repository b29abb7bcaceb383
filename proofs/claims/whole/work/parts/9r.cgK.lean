/-- only what belongs to the search moves -/
def frZ (M M' : gM) : Prop := (∀ j, j ≠ 250 → j ≠ 252 → (j < 200 ∨ 210 < j) → M'.1 j = M.1 j) ∧ (∀ j, j ≠ 251 → j ≠ 253 → M'.2 j = M.2 j) ∧ ∀ k, k ≠ 4 → k ≠ 5 → M'.1 250 k = M.1 250 k
theorem frO.z {M M1 : gM} (h : frO M M1) : frZ M M1 := ⟨fun j a b c => h.1 j a b (by omega), h.2.1, h.2.2⟩
theorem frZ.tr {M M1 M2 : gM} (h : frZ M M1) (h2 : frZ M1 M2) : frZ M M2 := ⟨fun j a b c => by rw [h2.1 j a b c, h.1 j a b c], fun j a b => by rw [h2.2.1 j a b, h.2.1 j a b], fun k a b => by rw [h2.2.2 k a b, h.2.2 k a b]⟩
set_option maxHeartbeats 1200000 in
theorem c_fewestGifts {Γ : gW} (hA : g_Get Γ) {T : gTw} (hI : INV T) {who thing : Nat} {wI iI : Int32} (hwI : wI.toInt = (who : Int)) (hiI : iI.toInt = (thing : Int)) (hwho : (who : Int) < T 0 0) (hthing : thing < 12) {t2 : Nat} (hT2 : g_Town Γ t2) (hdj : 200 + 10 < t2 ∨ t2 + 10 < 200) {M : gM} (hT : tv M t2 = T) (hTt : TBt M t2) : Ct Γ yX1_fewestGifts μX1_fewestGifts 6 [.ref 250, .ref t2, .int wI, .int iI] M (g_qi (fun z M1 => z.toInt = getZ T who thing ∧ frZ M M1)) := by
  refine g_enter rfl rfl rfl (Nat.le_of_ble_eq_true rfl) ?_
  show G Γ _ _ _ _ 0 [some (.ref 250), some (.ref t2), some (.int wI), some (.int iI), none, none, none, none] [] M
  refine g_aload_n0 dX1_fewestGifts_0 rfl ?_
  refine g_getr dX1_fewestGifts_1 rfl fX1_25 hA.1 rfl ?_
  refine g_aload_n1 dX1_fewestGifts_4 rfl ?_
  refine g_callVv1 dX1_fewestGifts_5 rfl vX1_37 hA.2.2.2.2.1 rfl (c_copyFrom hA.2.2.2.2 hT2 hdj) (g_rm (by omega)) (Nat.le_of_ble_eq_true rfl) (fun M5 e5 => ?_)
  have hv := v_copy e5
  have ht5 := CP.tbt e5 hTt
  refine g_aload_n0 dX1_fewestGifts_8 rfl ?_
  refine g_getr dX1_fewestGifts_9 rfl fX1_15 hA.1 rfl ?_
  refine g_iconst (v := 0) dX1_fewestGifts_12 rfl rfl ?_
  refine g_callJv2 dX1_fewestGifts_13 rfl kX1_41 (j_fillS hA.2.2.1 (by decide) rfl) (g_rm (by omega)) (Nat.le_of_ble_eq_true rfl) (fun M13 e13 => ?_)
  refine g_aload_n0 dX1_fewestGifts_16 rfl ?_
  refine g_iconst (v := 0) dX1_fewestGifts_17 rfl rfl ?_
  refine g_put dX1_fewestGifts_18 rfl fX1_29 hA.1 rfl rfl rfl ?_
  refine g_aload_n0 dX1_fewestGifts_21 rfl ?_
  refine g_iconst (v := 0) dX1_fewestGifts_22 rfl rfl ?_
  refine g_put dX1_fewestGifts_23 rfl fX1_33 hA.1 rfl rfl rfl ?_
  obtain ⟨f1, f2, f3⟩ := e13
  obtain ⟨M2, hM2⟩ : ∃ M2, M2 = g_u (g_u M13 250 4 0) 250 5 0 := ⟨_, rfl⟩
  refine g_fwd (M1 := M2) ?_ hM2
  have m2j : ∀ j, j ≠ 250 → M2.1 j = M13.1 j := fun j hj => by rw [hM2, g_u_ne hj, g_u_ne hj]
  have m2s : M2.2 = M.2 := by rw [hM2]; show M13.2 = _; rw [f2]; exact e5.2.1
  have hTM : tv M2 200 = T := by rw [← hT, ← hv]; exact tv_far (fun j a b => by rw [m2j j (by omega), f1 j (by omega)])
  have hTtM : TBt M2 200 := TBt.far ht5 (by rw [m2j _ (by decide), f1 _ (by decide)]) (by rw [m2j _ (by decide), f1 _ (by decide)]) (by rw [m2j _ (by decide), f1 _ (by decide)])
  have hF2 : frZ M M2 := by
    refine ⟨fun j a b c => by rw [m2j j a, f1 j b]; exact e5.1 j (by omega), fun j _ _ => by rw [m2s], fun k a b => ?_⟩
    rw [hM2, g_u_eq, if_neg b, g_u_eq, if_neg a, f1 250 (by decide)]
    rw [e5.1 250 (by decide)]
  have hG2 : GC T (0, (fun _ => T), (fun _ => 0), 0) M2 := by
    have hz : ∀ s, slt M2 s = 0 := fun s => by
      rw [slt, m2j 252 (by decide), f3 _ (Nat.mod_lt _ (by decide))]; rfl
    refine ⟨by rw [hM2]; rfl, Nat.zero_le _, by rw [hM2]; rfl, Or.inl rfl, fun k hk => absurd hk (Nat.not_lt_zero k), fun s hs => ?_, fun s s' _ _ _ hn => absurd (hz s) hn, fun k hk => absurd hk (Nat.not_lt_zero k)⟩
    rw [hz s]
    exact ⟨Int.le_refl _, Int.le_refl _⟩
  clear hM2
  refine g_aload_n0 dX1_fewestGifts_26 rfl ?_
  refine g_callVv0 dX1_fewestGifts_27 rfl vX1_47 hA.1 rfl (c_noteState (T0 := T) (T := T) (σ := (0, (fun _ => T), (fun _ => 0), 0)) (b := 0) hA hG2 rfl hI TX.rf hTM) (g_rm (by omega)) (Nat.le_of_ble_eq_true rfl) (fun M27 e27 => ?_)
  refine g_iconstI dX1_fewestGifts_30 rfl rfl (fun w30 h30 => ?_)
  refine g_istore4 dX1_fewestGifts_31 rfl rfl ?_
  refine g_iconstI dX1_fewestGifts_33 rfl rfl (fun w33 h33 => ?_)
  refine g_istore5 dX1_fewestGifts_34 rfl rfl ?_
  refine g_aload_n0 dX1_fewestGifts_36 rfl ?_
  refine g_geti dX1_fewestGifts_37 rfl fX1_29 hA.1 rfl ?_
  refine g_istore6 dX1_fewestGifts_40 rfl rfl ?_
  refine g_iconstI dX1_fewestGifts_42 rfl rfl (fun w42 h42 => ?_)
  refine g_istore7 dX1_fewestGifts_43 rfl rfl ?_
  obtain ⟨hG9, hF9⟩ := e27
  have hnb := gcome_nb (T := T) (b := 0) (σ := (0, (fun _ => T), (fun _ => 0), 0))
  have g1 := hG9.1
  refine l_fg hA hI hwI hiI hwho hthing (M0 := M27) (s0 := (gcome T 0 (0, (fun _ => T), (fun _ => 0), 0), -1)) (fun M9 z h1 h2 h3 => ⟨z, rfl, ?_, frZ.tr hF2 (frZ.tr hF9.o.z h2.z)⟩) _ _ _ _ _ (gcome T 0 (0, (fun _ => T), (fun _ => 0), 0), -1) _ rfl (by omega) (by omega) hG9 ⟨T, ?_, TX.rf, frO.tbt hF9.o hTtM⟩ h33 ⟨by omega, by omega, by omega⟩ ?_ frO.rf ?_
  · rw [← hTM]; exact tv_far (fun j a b => hF9.1 j (by omega) (by omega))
  · rw [show w42.toInt.toNat = 0 by omega, h30, show (M27.1 250 4).toInt.toNat = (gcome T 0 (0, (fun _ => T), (fun _ => 0), 0)).1 by omega]
    exact ⟨Nat.zero_le _, Nat.le_refl _, fun j _ b => hnb.2 j (Nat.zero_le _) b, fun j a b => absurd b (Nat.not_lt.mpr a)⟩
  · rw [show w42.toInt.toNat = 0 by omega]; rfl
  · unfold getZ gGet; exact h1
