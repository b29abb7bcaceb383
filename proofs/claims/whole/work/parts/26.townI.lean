theorem TBt.moved {M M' : gM} {t : Nat} (h : TBt M t) (h7 : M'.1 (t + 7) = M.1 (t + 7)) (h9 : M'.1 (t + 9) = M.1 (t + 9)) (h10 : M'.1 (t + 10) = M.1 (t + 10)) : TBt M' t := by
  intro s hs
  have hw : wtF M' t = wtF M t := by unfold wtF; rw [h7]
  rw [hw, h9, h10]
  exact h s hs
theorem TBt.zero {M : gM} {t : Nat} (h : TBt M t) : (M.1 (t + 9) 0).toInt = 0 ∧ (M.1 (t + 10) 0).toInt = 0 := by
  have := h 0 (by omega)
  rw [wsum_none (fun i _ => by simp), wsum_none (fun i _ => by simp)] at this
  exact this
set_option maxHeartbeats 4000000 in
theorem c_weighSets {Γ : gW} {t : Nat} {M : gM} (hT : g_Town Γ t) (hw : ∀ i, i < 12 → 0 ≤ (M.1 (t + 7) i).toInt ∧ (M.1 (t + 7) i).toInt ≤ 99) (h0z : (M.1 (t + 9) 0).toInt = 0 ∧ (M.1 (t + 10) 0).toInt = 0) : Ct Γ yX3_weighSets μX3_weighSets 0 [.ref t] M (g_qv (fun M1 => same2 M M1 t ∧ TBt M1 t)) := by
  refine g_enter rfl rfl rfl (Nat.le_of_ble_eq_true rfl) ?_
  show G Γ _ _ _ _ 0 [some (.ref t), none, none, none] [] M
  refine g_iconstI dX3_weighSets_0 rfl rfl (fun w0 h0 => ?_)
  refine g_istore_n1 dX3_weighSets_1 rfl rfl ?_
  refine l_weighOut hT hw (M0 := M) (fun M1 a b => ⟨rfl, a, b⟩) _ _ _ _ _ rfl rfl (by omega) (by omega) ⟨fun _ _ _ => rfl, rfl⟩ (fun s hs => ?_)
  rw [h0] at hs
  have : s = 0 := by simp at hs; omega
  subst this
  rw [wsum_none (fun i _ => by simp), wsum_none (fun i _ => by simp)]
  exact h0z
def fillM (M : gM) (i k : Nat) (v : Int32) : gM := g_row M i (fun b => if b < k then v else M.1 i b)
theorem fill_step {M : gM} {i k : Nat} {v : Int32} : g_u (fillM M i k v) i k v = fillM M i (k + 1) v := by
  have : ∀ a b, (g_u (fillM M i k v) i k v).1 a b = (fillM M i (k + 1) v).1 a b := fun a b => by
    by_cases ha : a = i
    · subst ha
      rw [g_u_eq]
      simp only [fillM, g_row_at]
      by_cases hb : b = k
      · subst hb; rw [if_pos rfl, if_pos (by omega)]
      · rw [if_neg hb]
        by_cases h : b < k
        · rw [if_pos h, if_pos (by omega)]
        · rw [if_neg h, if_neg (by omega)]
    · rw [g_u_ne ha]; simp only [fillM, g_row_ne ha]
  exact Prod.ext (funext fun a => funext fun b => this a b) rfl
theorem fill_0 {M : gM} {i : Nat} {v : Int32} : fillM M i 0 v = M := by
  have : ∀ a b, (fillM M i 0 v).1 a b = M.1 a b := fun a b => by
    by_cases ha : a = i
    · subst ha; simp [fillM, g_row_at]
    · simp only [fillM, g_row_ne ha]
  exact Prod.ext (funext fun a => funext fun b => this a b) rfl
set_option maxHeartbeats 4000000 in
theorem l_fill {Γ : gW} {i N : Nat} {M : gM} {v : Int32} (ho : g_o Γ i (.inr (1, N))) (hN : N < 2147483648) {Q : Option Value → gM → Prop} {l : Int32} (hl : l.toInt = N) (hQ : Q none (fillM M i N v)) : ∀ (n : Nat) (k : Int32), N - k.toInt.toNat = n → 0 ≤ k.toInt → k.toInt ≤ N → G Γ μJ7_fi (g_R 0) (0, 0) (g_Z Γ Q) 5 [some (.ref i), some (.int v), some (.int k), some (.int l)] [] (fillM M i k.toInt.toNat v) := by
  intro n
  induction n using Nat.strongRecOn with
  | ind n ih =>
    intro k hm hk0 hk1
    refine g_iload_n2 dJ7_fill_53178_5 rfl ?_
    refine g_iload_n3 dJ7_fill_53178_6 rfl ?_
    refine g_icmp_geI (t := 20) dJ7_fill_53178_7 (by decide) rfl (fun c7 => ?_) (fun c7 => ?_)
    · -- 7 t
      refine g_vret dJ7_fill_53178_20 rfl ?_
      rw [show k.toInt.toNat = N by omega]; exact hQ
    · -- 7 f
      refine g_aload_n0 dJ7_fill_53178_10 rfl ?_
      refine g_iload_n2 dJ7_fill_53178_11 rfl ?_
      refine g_iload_n1 dJ7_fill_53178_12 rfl ?_
      refine g_iastI dJ7_fill_53178_13 rfl ho ⟨by omega, by omega⟩ ?_
      refine g_iincI2 dJ7_fill_53178_14 rfl rfl rfl ⟨by omega, by omega⟩ (fun w14 h14 => ?_)
      refine g_goto (t := 5) dJ7_fill_53178_17 (by decide) ?_
      have h := ih _ (by omega) w14 rfl (by omega) (by omega)
      rw [h14, show (k.toInt + 1).toNat = k.toInt.toNat + 1 by omega, ← fill_step] at h
      exact h
set_option maxHeartbeats 4000000 in
theorem c_fill {Γ : gW} {i N : Nat} {M : gM} {v : Int32} (ho : g_o Γ i (.inr (1, N))) (hN : N < 2147483648)  : Ct Γ yJ7_fill_53178 μJ7_fi 0 [.ref i, .int v] M (g_qv (fun M1 => M1 = fillM M i N v)) := by
  refine g_enter rfl rfl rfl (Nat.le_of_ble_eq_true rfl) ?_
  show G Γ _ _ _ _ 0 [some (.ref i), some (.int v), none, none] [] M
  refine g_iconstI dJ7_fill_53178_0 rfl rfl (fun w0 h0 => ?_)
  refine g_istore_n2 dJ7_fill_53178_1 rfl rfl ?_
  refine g_aload_n0 dJ7_fill_53178_2 rfl ?_
  refine g_alen dJ7_fill_53178_3 rfl ho (by decide) rfl ?_
  refine g_istore_n3 dJ7_fill_53178_4 rfl rfl ?_
  have h := l_fill ho hN (v := v) (l := Int32.ofNat N) (i_of hN) (Q := g_qv (fun M1 => M1 = fillM M i N v)) ⟨rfl, rfl⟩ _ w0 rfl (by omega) (by omega)
  rw [h0, show (0 : Int).toNat = 0 from rfl, fill_0] at h
  exact h
set_option maxHeartbeats 4000000 in
theorem c_clear {Γ : gW} {t : Nat} {M : gM} (hT : g_Town Γ t) (h0z : (M.1 (t + 9) 0).toInt = 0 ∧ (M.1 (t + 10) 0).toInt = 0) : Ct Γ yX3_clear μX3_clear 1 [.ref t] M (g_qv (fun M1 => (∀ j, j ≠ t → j ≠ t + 7 → j ≠ t + 9 → j ≠ t + 10 → M1.1 j = M.1 j) ∧ M1.2 = M.2 ∧ (∀ k, k < 6 → (M1.1 t k).toInt = 0) ∧ (∀ k, k < 12 → (M1.1 (t + 7) k).toInt = 0) ∧ TBt M1 t)) := by
  refine g_enter rfl rfl rfl (Nat.le_of_ble_eq_true rfl) ?_
  show G Γ _ _ _ _ 0 [some (.ref t)] [] M
  refine g_aload_n0 dX3_clear_0 rfl ?_
  refine g_iconst (v := 0) dX3_clear_1 rfl rfl ?_
  refine g_put dX3_clear_2 rfl fX3_9 hT.1 rfl rfl rfl ?_
  refine g_aload_n0 dX3_clear_5 rfl ?_
  refine g_iconst (v := 0) dX3_clear_6 rfl rfl ?_
  refine g_put dX3_clear_7 rfl fX3_15 hT.1 rfl rfl rfl ?_
  refine g_aload_n0 dX3_clear_10 rfl ?_
  refine g_iconst (v := 0) dX3_clear_11 rfl rfl ?_
  refine g_put dX3_clear_12 rfl fX3_18 hT.1 rfl rfl rfl ?_
  refine g_aload_n0 dX3_clear_15 rfl ?_
  refine g_iconst (v := 0) dX3_clear_16 rfl rfl ?_
  refine g_put dX3_clear_17 rfl fX3_21 hT.1 rfl rfl rfl ?_
  refine g_aload_n0 dX3_clear_20 rfl ?_
  refine g_iconst (v := 0) dX3_clear_21 rfl rfl ?_
  refine g_put dX3_clear_22 rfl fX3_24 hT.1 rfl rfl rfl ?_
  refine g_aload_n0 dX3_clear_25 rfl ?_
  refine g_iconst (v := 0) dX3_clear_26 rfl rfl ?_
  refine g_put dX3_clear_27 rfl fX3_27 hT.1 rfl rfl rfl ?_
  refine g_aload_n0 dX3_clear_30 rfl ?_
  refine g_getr dX3_clear_31 rfl fX3_49 hT.1 rfl ?_
  refine g_iconst (v := 0) dX3_clear_34 rfl rfl ?_
  refine g_callJv2 dX3_clear_35 rfl kX3_61 (c_fill (tw_weight hT) (by decide)) (g_rm (by omega)) (Nat.le_of_ble_eq_true rfl) (fun M35 e35 => ?_)
  subst e35
  generalize hMA : fillM _ (t + 7) 12 0 = MA
  have a7 : ∀ k, k < 12 → MA.1 (t + 7) k = 0 := fun k hk => by rw [← hMA]; simp only [fillM, g_row_at]; rw [if_pos hk]
  have aj : ∀ j, j ≠ t → j ≠ t + 7 → MA.1 j = M.1 j := fun j h1 h2 => by rw [← hMA]; simp only [fillM, g_row_ne h2, g_u_ne h1]
  have at0 : ∀ k, k < 6 → MA.1 t k = 0 := fun k hk => by
    rw [← hMA]
    simp only [fillM, g_row_ne (show t ≠ t + 7 by omega), g_u_eq]
    rcases (show k = 0 ∨ k = 1 ∨ k = 2 ∨ k = 3 ∨ k = 4 ∨ k = 5 by omega) with rfl | rfl | rfl | rfl | rfl | rfl <;> rfl
  have a2 : MA.2 = M.2 := by rw [← hMA]; rfl
  have hwz : ∀ i, i < 12 → 0 ≤ (MA.1 (t + 7) i).toInt ∧ (MA.1 (t + 7) i).toInt ≤ 99 := fun i hi => by rw [a7 i hi]; decide
  have hzz : (MA.1 (t + 9) 0).toInt = 0 ∧ (MA.1 (t + 10) 0).toInt = 0 := by rw [aj _ (by omega) (by omega), aj _ (by omega) (by omega)]; exact h0z
  refine g_aload_n0 dX3_clear_38 rfl ?_
  refine g_callVv0 dX3_clear_39 rfl vX3_67 hT.1 rfl (c_weighSets hT hwz hzz) (g_rm (by omega)) (Nat.le_of_ble_eq_true rfl) (fun M39 e39 => ?_)
  refine g_vret dX3_clear_42 rfl ?_
  obtain ⟨b1, b2⟩ := e39
  refine ⟨rfl, fun j h1 h2 h3 h4 => by rw [b1.1 j h3 h4]; exact aj j h1 h2, by rw [b1.2]; exact a2, fun k hk => ?_, fun k hk => ?_, b2⟩
  · rw [b1.1 t (by omega) (by omega), at0 k hk]; rfl
  · rw [b1.1 (t + 7) (by omega) (by omega), a7 k hk]; rfl
