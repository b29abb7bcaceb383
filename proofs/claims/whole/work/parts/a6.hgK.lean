def frKO (M M' : gM) : Prop := (∀ j, j ≠ 0 → j ≠ 1 → M'.1 j = M.1 j) ∧ M'.2 = M.2 ∧ ∀ k, k ≠ 14 → M'.1 0 k = M.1 0 k
set_option maxHeartbeats 1200000 in
theorem lx_ko {Γ : gW} {gt : Option Nat} (hA : g_HG Γ gt) {M0 : gM} {n : Nat} (hn6 : n ≤ 6) {Q : Option Value → gM → Prop} (hQ : ∀ M : gM, frKO M0 M → (M.1 0 14).toInt = (n : Int) → (∀ k, k < n → M.1 1 k = M0.1 241 k) → Q none M) : ∀ (n9 : Nat) (i : Int32) (M : gM), 6 - i.toInt.toNat = n9 → 0 ≤ i.toInt → i.toInt ≤ (n : Int) → frKO M0 M → (M.1 0 14).toInt = (n : Int) → (∀ k, k < i.toInt.toNat → M.1 1 k = M0.1 241 k) → G Γ μX5_keepOrder (g_R 1) (0, 0) (g_Z Γ Q) 18 [some (.ref 0), some (.int i)] [] M := by
  intro n9
  induction n9 using Nat.strongRecOn with
  | ind n9 ih =>
    intro i M hn hi0 hi1 hF h14 hk
    refine g_iload_n1 dX5_keepOrder_18 rfl ?_
    refine g_aload_n0 dX5_keepOrder_19 rfl ?_
    refine g_geti dX5_keepOrder_20 rfl fX5_70 hA.1 rfl ?_
    refine g_icmp_geI (t := 46) dX5_keepOrder_23 (by decide) rfl (fun c23 => ?_) (fun c23 => ?_)
    · -- 23 t
      refine g_vret dX5_keepOrder_46 rfl ?_
      exact hQ _ hF h14 (fun k hkn => hk k (by omega))
    · -- 23 f
      refine g_aload_n0 dX5_keepOrder_26 rfl ?_
      refine g_getr dX5_keepOrder_27 rfl fX5_66 hA.1 rfl ?_
      refine g_iload_n1 dX5_keepOrder_30 rfl ?_
      refine g_aload_n0 dX5_keepOrder_31 rfl ?_
      refine g_getr dX5_keepOrder_32 rfl fX5_62 hA.1 rfl ?_
      refine g_iload_n1 dX5_keepOrder_35 rfl ?_
      refine g_callVi1 dX5_keepOrder_36 rfl vX5_241 (hg_week hA).1 rfl (c_wkAt (hg_week hA) (by omega)) (g_rm (by omega)) (Nat.le_of_ble_eq_true rfl) (fun z36 M36 e36 => ?_)
      obtain ⟨hMM, e36⟩ := e36
      subst M36
      refine g_iastI dX5_keepOrder_39 rfl (hg_keptOrder hA) ⟨by omega, by omega⟩ ?_
      refine g_iincI1 dX5_keepOrder_40 rfl rfl rfl ⟨by omega, by omega⟩ (fun w40 h40 => ?_)
      refine g_goto (t := 18) dX5_keepOrder_43 (by decide) ?_
      refine ih _ (show 6 - w40.toInt.toNat < n9 by omega) _ _ rfl (by omega) (by omega) ⟨fun j a b => by rw [g_u_ne b]; exact hF.1 j a b, hF.2.1, fun k a => by rw [g_u_ne (by decide)]; exact hF.2.2 k a⟩ (by rw [g_u_ne (by decide)]; exact h14) (fun k hkn => ?_)
      rw [g_u_eq]
      by_cases e : k = i.toInt.toNat
      · rw [if_pos e, e36, hF.1 241 (by decide) (by decide), e]
      · rw [if_neg e]; exact hk k (by omega)
set_option maxHeartbeats 1200000 in
theorem x_keepOrder {Γ : gW} {gt : Option Nat} {M : gM} (hA : g_HG Γ gt) {n : Nat} (hn6 : n ≤ 6) (hn : (M.1 240 2).toInt = (n : Int)) : Ct Γ yX5_keepOrder μX5_keepOrder 1 [.ref 0] M (g_qv (fun M1 => frKO M M1 ∧ (M1.1 0 14).toInt = (n : Int) ∧ ∀ k, k < n → M1.1 1 k = M.1 241 k)) := by
  refine g_enter rfl rfl rfl (Nat.le_of_ble_eq_true rfl) ?_
  show G Γ _ _ _ _ 0 [some (.ref 0), none] [] M
  refine g_aload_n0 dX5_keepOrder_0 rfl ?_
  refine g_aload_n0 dX5_keepOrder_1 rfl ?_
  refine g_getr dX5_keepOrder_2 rfl fX5_62 hA.1 rfl ?_
  refine g_callVi0 dX5_keepOrder_5 rfl vX5_237 (hg_week hA).1 rfl (c_wkLength (hg_week hA)) (g_rm (by omega)) (Nat.le_of_ble_eq_true rfl) (fun z5 M5 e5 => ?_)
  obtain ⟨hMM, e5⟩ := e5
  subst M5
  have e5i : z5.toInt = (n : Int) := by rw [e5]; exact hn
  refine g_bipushI dX5_keepOrder_8 rfl rfl (fun w8 h8 => ?_)
  refine g_mminI dX5_keepOrder_10 rfl jX5_238 jm_min_s jm_i jm_min_c ⟨by show 1 ≤ _ + 1; omega, by show _ ≤ 40 + 50 * _; simp [Value.category] <;> omega⟩  (fun w10 h10 => ?_)
  have h10i : w10.toInt = (n : Int) := by rw [h10]; split <;> omega
  refine g_put dX5_keepOrder_13 rfl fX5_70 hA.1 rfl rfl rfl ?_
  refine g_iconstI dX5_keepOrder_16 rfl rfl (fun w16 h16 => ?_)
  refine g_istore_n1 dX5_keepOrder_17 rfl rfl ?_
  exact lx_ko hA hn6 (M0 := M) (fun M2 a b c => ⟨rfl, a, b, c⟩) _ _ _ rfl (by omega) (by omega) ⟨fun j a b => g_u_ne a, rfl, fun k a => by rw [g_u_eq, if_neg a]⟩ (by rw [g_u_eq, if_pos rfl]; exact h10i) (fun k hk => by omega)
theorem lx_week2 {Γ : gW} {gt : Option Nat} {M : gM} (hA : g_HG Γ gt) {σ : gWk} {wh al : Int32} (hW : WKc σ M) (hal : al.toInt = 0 ∨ al.toInt = 1) (hal1 : al.toInt = 1 ↔ σ.2.2.2 = 1) (hwh : 0 ≤ wh.toInt ∧ wh.toInt ≤ 2) {Q : Option Value → gM → Prop} (hQ : ∀ z : Int32, z.toInt = wkZ σ wh.toInt → Q (some (.int z)) M) : G Γ μX5_week (g_RX 16) (0, 0) (g_Z Γ Q) 26 [some (.ref 0), some (.int wh), some (.int al)] [] M := by
  refine g_aload_n0 dX5_week_26 rfl ?_
  refine g_getr dX5_week_27 rfl fX5_62 hA.1 rfl ?_
  refine g_callVi0 dX5_week_30 rfl vX5_228 (hg_week hA).1 rfl (c_wkSpent (hg_week hA) hW) (g_rmX (by omega)) (Nat.le_of_ble_eq_true rfl) (fun z30 M30 e30 => ?_)
  obtain ⟨hMM, e30, f30⟩ := e30
  subst M30
  refine g_if_eqI (t := 39) dX5_week_33 (by decide) rfl (fun c33 => ?_) (fun c33 => ?_)
  · -- 33 t
    have hn2 : ¬ σ.2.2.2 = 2 := fun h => by have := f30.mpr h; omega
    clear f30 e30
    refine g_iload_n1 dX5_week_39 rfl ?_
    rcases (show wh.toInt = 0 ∨ wh.toInt = 1 ∨ (¬ wh.toInt = 0 ∧ ¬ wh.toInt = 1) by omega) with c40 | c40 | c40
    · -- 40 case 0
      refine g_lookup (off := 28) (t := 68) dX5_week_40 (by decide) (by rw [c40]; rfl) (by decide) ?_
      refine g_iload_n2 dX5_week_68 rfl ?_
      refine g_if_eqI (t := 76) dX5_week_69 (by decide) rfl (fun c69 => ?_) (fun c69 => ?_)
      · -- 69 t
        have hn1 : ¬ σ.2.2.2 = 1 := fun h => by have := hal1.mpr h; omega
        clear hal1
        refine g_iconstI dX5_week_76 rfl rfl (fun w76 h76 => ?_)
        refine g_iret dX5_week_77 rfl ?_
        first
          | exact hQ _ (by rw [wkZ, if_neg hn2, if_pos c40, if_pos h1]; exact h72)
          | exact hQ _ (by rw [wkZ, if_neg hn2, if_pos c40, if_neg hn1]; exact h76)
      · -- 69 f
        have h1 := hal1.mp (by omega)
        clear hal1
        refine g_iconstI dX5_week_72 rfl rfl (fun w72 h72 => ?_)
        refine g_goto (t := 77) dX5_week_73 (by decide) ?_
        refine g_iret dX5_week_77 rfl ?_
        first
          | exact hQ _ (by rw [wkZ, if_neg hn2, if_pos c40, if_pos h1]; exact h72)
          | exact hQ _ (by rw [wkZ, if_neg hn2, if_pos c40, if_neg hn1]; exact h76)
    · -- 40 case 1
      refine g_lookup (off := 38) (t := 78) dX5_week_40 (by decide) (by rw [c40]; rfl) (by decide) ?_
      refine g_aload_n0 dX5_week_78 rfl ?_
      refine g_getr dX5_week_79 rfl fX5_62 hA.1 rfl ?_
      refine g_callVi0 dX5_week_82 rfl vX5_231 (hg_week hA).1 rfl (c_wkMost (hg_week hA)) (g_rmX (by omega)) (Nat.le_of_ble_eq_true rfl) (fun z82 M82 e82 => ?_)
      obtain ⟨hMM, e82⟩ := e82
      subst M82
      refine g_iret dX5_week_85 rfl ?_
      exact hQ _ (by rw [wkZ, if_neg hn2, c40, e82]; exact hW.2.2.1)
    · -- 40 default
      refine g_lookup (off := 46) (t := 86) dX5_week_40 (by decide) (by simp [Op.lookupswitch.offset]; omega) (by decide) ?_
      refine g_aload_n0 dX5_week_86 rfl ?_
      refine g_getr dX5_week_87 rfl fX5_62 hA.1 rfl ?_
      refine g_callVi0 dX5_week_90 rfl vX5_234 (hg_week hA).1 rfl (c_wkTries (hg_week hA)) (g_rmX (by omega)) (Nat.le_of_ble_eq_true rfl) (fun z90 M90 e90 => ?_)
      obtain ⟨hMM, e90⟩ := e90
      subst M90
      refine g_iret dX5_week_93 rfl ?_
      refine hQ _ ?_
      have h3 := hW.2.1
      rw [if_neg hn2] at h3
      rw [wkZ, if_neg hn2, if_neg c40.1, if_neg c40.2, e90, h3]
      omega
  · -- 33 f
    have h2 := f30.mp (by omega)
    clear f30 e30
    refine g_bipushI dX5_week_36 rfl rfl (fun w36 h36 => ?_)
    refine g_iret dX5_week_38 rfl ?_
    exact hQ _ (by rw [wkZ, if_pos h2]; exact h36)
def frWk (M M' : gM) : Prop := (∀ j, j ≠ 0 → j ≠ 1 → j ≠ 240 → j ≠ 241 → (j < 180 ∨ 190 < j) → M'.1 j = M.1 j) ∧ M'.2 = M.2 ∧ ∀ k, k ≠ 14 → M'.1 0 k = M.1 0 k
def wkC (T : gTw) (σ : gWk) (M M1 : gM) : Prop := frWk M M1 ∧ (∀ i, i < 6 → (M1.1 241 i).toInt = σ.2.2.1 i) ∧ (σ.2.2.2 = 1 → (M1.1 0 14).toInt = (owe T 6 : Int) ∧ ∀ k, k < owe T 6 → (M1.1 1 k).toInt = σ.2.2.1 k) ∧ (¬ σ.2.2.2 = 1 → M1.1 0 14 = M.1 0 14 ∧ M1.1 1 = M.1 1)
set_option maxHeartbeats 1200000 in
theorem x_week {Γ : gW} {gt : Option Nat} {M : gM} (hA : g_HG Γ gt) {T : gTw} (hT : tv M 100 = T) (hB : TB M 100) (hI : INV T) {rr : Nat → Int32} (hr : RW T rr) {ord : Nat → Int} (hord : ∀ i, i < 6 → (M.1 241 i).toInt = ord i) {wh : Int32} : CtX Γ yX5_week μX5_week 16 [.ref 0, .int wh] M (g_qi (fun z M1 => (0 ≤ wh.toInt ∧ wh.toInt ≤ 2) ∧ wkC T (wkT T ord) M M1 ∧ z.toInt = wkZ (wkT T ord) wh.toInt)) (nseX M (¬ (0 ≤ wh.toInt ∧ wh.toInt ≤ 2))) := by
  have hO : TOK T := by rw [← hT]; exact TOK.of hB
  have hb0 := hO.1
  have hb1 := hO.2.1
  have t00 : (M.1 100 0).toInt = T 0 0 := by rw [← hT]; exact (tv0 (by decide)).symm
  have t01 : (M.1 100 1).toInt = T 0 1 := by rw [← hT]; exact (tv0 (by decide)).symm
  refine g_enterX rfl rfl rfl (Nat.le_of_ble_eq_true rfl) ?_
  show G Γ _ _ _ _ 0 [some (.ref 0), some (.int wh), none] [] M
  refine g_aload_n0 dX5_week_0 rfl ?_
  refine g_iload_n1 dX5_week_1 rfl ?_
  refine g_iconstI dX5_week_2 rfl rfl (fun w2 h2 => ?_)
  refine g_callXv2 dX5_week_3 rfl vX5_200 hA.1 rfl (x_reqW) (g_rmY (by omega)) (Nat.le_of_ble_eq_true rfl) (fun E M1 h => ⟨h.1, h.2.1, by have := h.2.2; omega⟩) (fun M3 e3 => ?_)
  obtain ⟨hMM, q3⟩ := e3
  subst M3
  refine g_aload_n0 dX5_week_6 rfl ?_
  refine g_getr dX5_week_7 rfl fX5_62 hA.1 rfl ?_
  refine g_aload_n0 dX5_week_10 rfl ?_
  refine g_getr dX5_week_11 rfl fX5_10 hA.1 rfl ?_
  refine g_callVi1 dX5_week_14 rfl vX5_221 (hg_week hA).1 rfl (c_tryAll (ord := ord) (hg_week hA) (hg_town hA) (Or.inr (by decide)) (by decide) hI hr hT hB.2.2.2 hord) (g_rmX (by omega)) (Nat.le_of_ble_eq_true rfl) (fun z14 M14 e14 => ?_)
  obtain ⟨hW, hal, hal1, hlen, hfy⟩ := e14
  refine g_istore_n2 dX5_week_17 rfl rfl ?_
  refine g_iload_n2 dX5_week_18 rfl ?_
  refine g_if_eqI (t := 26) dX5_week_19 (by decide) rfl (fun c19 => ?_) (fun c19 => ?_)
  · -- 19 t
    have hn1 : ¬ (wkT T ord).2.2.2 = 1 := fun h => by have := hal1.mpr h; omega
    refine g_toX ?_
    first
      | (obtain ⟨k1, k2, k3⟩ := e23
         have hW2 : WKc (wkT T ord) M23 := by
           unfold WKc at hW ⊢
           rw [k1.1 240 (by decide) (by decide), k1.1 241 (by decide) (by decide)]; exact hW
         refine lx_week2 hA hW2 hal hal1 (by omega) (fun z hz => ⟨_, rfl, by omega, ⟨⟨fun j a b c d e => by rw [k1.1 j a b, hfy.1 j c d e], by rw [k1.2.1, hfy.2], fun k a => by rw [k1.2.2 k a, hfy.1 0 (by decide) (by decide) (by decide)]⟩, hW2.2.2.2, fun _ => ⟨k2, fun k hk => ?_⟩, fun h => absurd h1 h⟩, hz⟩)
         have := owe_le T 6
         rw [k3 k hk]; exact hW.2.2.2 k (by omega))
      | exact lx_week2 hA hW hal hal1 (by omega) (fun z hz => ⟨_, rfl, by omega, ⟨⟨fun j a b c d e => hfy.1 j c d e, hfy.2, fun k a => by rw [hfy.1 0 (by decide) (by decide) (by decide)]⟩, hW.2.2.2, fun h => absurd h hn1, fun _ => ⟨by rw [hfy.1 0 (by decide) (by decide) (by decide)], hfy.1 1 (by decide) (by decide) (by decide)⟩⟩, hz⟩)
  · -- 19 f
    have h1 := hal1.mp (by omega)
    refine g_aload_n0 dX5_week_22 rfl ?_
    refine g_callVv0 dX5_week_23 rfl vX5_225 hA.1 rfl (x_keepOrder (n := owe T 6) hA (owe_le T 6) hlen) (g_rmX (by omega)) (Nat.le_of_ble_eq_true rfl) (fun M23 e23 => ?_)
    refine g_toX ?_
    first
      | (obtain ⟨k1, k2, k3⟩ := e23
         have hW2 : WKc (wkT T ord) M23 := by
           unfold WKc at hW ⊢
           rw [k1.1 240 (by decide) (by decide), k1.1 241 (by decide) (by decide)]; exact hW
         refine lx_week2 hA hW2 hal hal1 (by omega) (fun z hz => ⟨_, rfl, by omega, ⟨⟨fun j a b c d e => by rw [k1.1 j a b, hfy.1 j c d e], by rw [k1.2.1, hfy.2], fun k a => by rw [k1.2.2 k a, hfy.1 0 (by decide) (by decide) (by decide)]⟩, hW2.2.2.2, fun _ => ⟨k2, fun k hk => ?_⟩, fun h => absurd h1 h⟩, hz⟩)
         have := owe_le T 6
         rw [k3 k hk]; exact hW.2.2.2 k (by omega))
      | exact lx_week2 hA hW hal hal1 (by omega) (fun z hz => ⟨_, rfl, by omega, ⟨⟨fun j a b c d e => hfy.1 j c d e, hfy.2, fun k a => by rw [hfy.1 0 (by decide) (by decide) (by decide)]⟩, hW.2.2.2, fun h => absurd h hn1, fun _ => ⟨by rw [hfy.1 0 (by decide) (by decide) (by decide)], hfy.1 1 (by decide) (by decide) (by decide)⟩⟩, hz⟩)
def frTw (M M' : gM) : Prop := M'.2 = M.2 ∧ (M'.1 230 2).toInt = 0 ∧ (M'.1 169 0).toInt = 0 ∧ (M'.1 170 0).toInt = 0 ∧ TOK (tv M' 160)
def twBad (M M' : gM) (pl : Int) : Prop := frTw M M' ∧ (∀ j, j ≠ 0 → j ≠ 230 → (j < 160 ∨ 170 < j) → M'.1 j = M.1 j) ∧ (∀ k, k ≠ 3 → k ≠ 11 → M'.1 0 k = M.1 0 k) ∧ (M'.1 0 11).toInt = pl ∧ (M'.1 0 3).toInt = (M.1 0 3).toInt + 1
def twGood (M M' : gM) (T1 : gTw) : Prop := frTw M M' ∧ (∀ j, j ≠ 0 → j ≠ 230 → j ≠ 220 → (j < 160 ∨ 170 < j) → ¬ (100 ≤ j ∧ j ≤ 110) → M'.1 j = M.1 j) ∧ (∀ k, k ≠ 5 → k ≠ 11 → k ≠ 14 → M'.1 0 k = M.1 0 k) ∧ (M'.1 0 11).toInt = -1 ∧ (M'.1 0 14).toInt = 0 ∧ (M'.1 0 5).toInt = 0 ∧ (M'.1 220 0).toInt = 0 ∧ tv M' 100 = T1 ∧ TBt M' 100
set_option maxHeartbeats 1200000 in
theorem x_town {Γ : gW} {gt : Option Nat} {M : gM} (hA : g_HG Γ gt) {t : Nat → Int} {n0 : Int32} (hf : 0 ≤ (M.1 230 2).toInt ∧ (M.1 230 2).toInt ≤ 700) (htt : ∀ k, k < 700 → 0 ≤ t k ∧ t k ≤ 255) (htp : ∀ k, k < 700 → (M.1 231 k).toInt = sgn8 (t k)) (hO : TOK (tv M 160)) (hz : (M.1 169 0).toInt = 0 ∧ (M.1 170 0).toInt = 0) (hst : 0 ≤ (M.1 0 3).toInt ∧ (M.1 0 3).toInt ≤ 1000000) : CtX Γ yX5_town μX5_town 9 [.ref 0, .int n0] M (g_qi (fun z M1 => (0 ≤ n0.toInt ∧ n0.toInt ≤ (M.1 230 2).toInt) ∧ ((∃ q, pAll t n0.toInt.toNat 701 (clrT (tv M 160)) 0 0 0 = .inl q ∧ z.toInt = q.1 ∧ twBad M M1 q.2) ∨ ∃ T1, pAll t n0.toInt.toNat 701 (clrT (tv M 160)) 0 0 0 = .inr T1 ∧ PIV T1 ∧ z.toInt = 0 ∧ twGood M M1 T1))) (iaeX M (¬ (0 ≤ n0.toInt ∧ n0.toInt ≤ (M.1 230 2).toInt))) := by
  refine g_enterX rfl rfl rfl (Nat.le_of_ble_eq_true rfl) ?_
  show G Γ _ _ _ _ 0 [some (.ref 0), some (.int n0), none] [] M
  refine g_iload_n1 dX5_town_0 rfl ?_
  refine g_if_ltI (t := 15) dX5_town_1 (by decide) rfl (fun c1 => ?_) (fun c1 => ?_)
  · -- 1 t
    refine g_throw thI dX5_town_15 dX5_town_18 dX5_town_19 dX5_town_22 rfl rfl rfl ⟨by show 7 ≤ _ + 8; omega, by show 100 ≤ 150 + 50 * _; omega, Nat.le_refl _, Nat.le_refl _⟩ (Nat.le_of_ble_eq_true rfl) ?_
    exact ⟨rfl, rfl, by omega⟩
  · -- 1 f
    refine g_iload_n1 dX5_town_4 rfl ?_
    refine g_aload_n0 dX5_town_5 rfl ?_
    refine g_getr dX5_town_6 rfl fX5_52 hA.1 rfl ?_
    refine g_callVi0 dX5_town_9 rfl vX5_91 (hg_tape hA).1 rfl (c_tpLength (hg_tape hA)) (g_rmX (by omega)) (Nat.le_of_ble_eq_true rfl) (fun z9 M9 e9 => ?_)
    obtain ⟨hMM, e9⟩ := e9
    subst M9
    have e9i : z9.toInt = (M.1 230 2).toInt := by rw [e9]
    refine g_icmp_leI (t := 23) dX5_town_12 (by decide) rfl (fun c12 => ?_) (fun c12 => ?_)
    · -- 12 t
      refine g_aload_n0 dX5_town_23 rfl ?_
      refine g_getr dX5_town_24 rfl fX5_52 hA.1 rfl ?_
      refine g_iload_n1 dX5_town_27 rfl ?_
      refine g_callVi1 dX5_town_28 rfl vX5_98 (hg_tape hA).1 rfl (c_readTown (t := t) (hg_tape hA) (by omega) hf.2 htt htp hO hz) (g_rmX (by omega)) (Nat.le_of_ble_eq_true rfl) (fun z28 M28 e28 => ?_)
      refine g_istore_n2 dX5_town_31 rfl rfl ?_
      refine g_iload_n2 dX5_town_32 rfl ?_
      refine g_if_eqI (t := 59) dX5_town_33 (by decide) rfl (fun c33 => ?_) (fun c33 => ?_)
      · -- 33 t
        obtain ⟨T1, hp, hV, hT1, hB1, hfx⟩ : ∃ T1, pAll t n0.toInt.toNat 701 (clrT (tv M 160)) 0 0 0 = .inr T1 ∧ PIV T1 ∧ tv M28 160 = T1 ∧ TB M28 160 ∧ frX M M28 := by
          rcases e28 with ⟨q, -, -, h, -⟩ | ⟨T1, h1, h2, -, h3, h4, h5⟩
          · exact absurd c33 h
          · exact ⟨T1, h1, h2, h3, h4, h5⟩
        clear e28
        refine g_aload_n0 dX5_town_59 rfl ?_
        refine g_iconstI dX5_town_60 rfl rfl (fun w60 h60 => ?_)
        refine g_put dX5_town_61 rfl fX5_56 hA.1 rfl rfl rfl ?_
        refine g_aload_n0 dX5_town_64 rfl ?_
        refine g_getr dX5_town_65 rfl fX5_10 hA.1 rfl ?_
        refine g_aload_n0 dX5_town_68 rfl ?_
        refine g_getr dX5_town_69 rfl fX5_52 hA.1 rfl ?_
        refine g_getr dX5_town_72 rfl fX5_105 (hg_tape hA).1 rfl ?_
        refine g_callVv1 dX5_town_75 rfl vX5_106 (hg_town hA).1 rfl (c_copyFrom (hg_town hA) (hg_tape hA).2.2 (Or.inl (by decide))) (g_rmX (by omega)) (Nat.le_of_ble_eq_true rfl) (fun M75 e75 => ?_)
        refine g_aload_n0 dX5_town_78 rfl ?_
        refine g_getr dX5_town_79 rfl fX5_22 hA.1 rfl ?_
        refine g_callVv0 dX5_town_82 rfl vX5_110 (hg_book hA).1 rfl (c_bkClear (hg_book hA)) (g_rmX (by omega)) (Nat.le_of_ble_eq_true rfl) (fun M82 e82 => ?_)
        subst M82
        refine g_aload_n0 dX5_town_85 rfl ?_
        refine g_iconstI dX5_town_86 rfl rfl (fun w86 h86 => ?_)
        refine g_put dX5_town_87 rfl fX5_70 hA.1 rfl rfl rfl ?_
        refine g_aload_n0 dX5_town_90 rfl ?_
        refine g_iconst (v := 0) dX5_town_91 rfl rfl ?_
        refine g_put dX5_town_92 rfl fX5_33 hA.1 rfl rfl rfl ?_
        refine g_iconstI dX5_town_95 rfl rfl (fun w95 h95 => ?_)
        refine g_toX ?_
        refine g_iret dX5_town_96 rfl ?_
        obtain ⟨c1, c2, c3⟩ := id e75
        have hTB := TB.copy e75 (show TB (g_u M28 0 11 w60) 160 from TB.of (by rw [show tv (g_u M28 0 11 w60) 160 = tv M28 160 from tv_far (fun j a b => g_u_ne (by omega)), hT1]; exact hV.1) (TBt.far hB1.2.2.2 (g_u_ne (by decide)) (g_u_ne (by decide)) (g_u_ne (by decide))))
        have hv := v_copy e75
        rw [show tv (g_u M28 0 11 w60) 160 = tv M28 160 from tv_far (fun j a b => g_u_ne (by omega)), hT1] at hv
        have o3 : ∀ (N : gM) (x y z : Int32) (j : Nat), j ≠ 0 → j ≠ 220 → (g_u (g_u (g_u N 220 0 x) 0 14 y) 0 5 z).1 j = N.1 j := fun N x y z j hj h2 => by rw [g_u_ne hj, g_u_ne hj, g_u_ne h2]
        have b75 : ∀ j, j ≠ 0 → ¬ (100 ≤ j ∧ j ≤ 110) → M75.1 j = M28.1 j := fun j a b => by rw [c1 j (by omega), g_u_ne a]
        have a75 : M75.1 0 = (g_u M28 0 11 w60).1 0 := c1 0 (Or.inl (by decide))
        have a0 : M28.1 0 = M.1 0 := hfx.1 0 (by decide) (by decide)
        refine ⟨_, rfl, by omega, Or.inr ⟨T1, hp, hV, h95, ⟨?_, ?_, ?_, ?_, ?_⟩, fun j a b c d e => ?_, fun k a b c => ?_, ?_, ?_, ?_, ?_, ?_, ?_⟩⟩
        · show M75.2 = _; rw [c2]; exact hfx.2.1
        · rw [o3 _ _ _ _ _ (by decide) (by decide), b75 _ (by decide) (by decide)]; exact hfx.2.2.1
        · rw [o3 _ _ _ _ _ (by decide) (by decide), b75 _ (by decide) (by decide)]; exact hfx.2.2.2.1
        · rw [o3 _ _ _ _ _ (by decide) (by decide), b75 _ (by decide) (by decide)]; exact hfx.2.2.2.2
        · rw [show tv _ 160 = tv M28 160 from tv_far (fun j a b => by rw [o3 _ _ _ _ _ (by omega) (by omega), b75 _ (by omega) (by omega)]), hT1]; exact hV.1
        · rw [o3 _ _ _ _ _ a c, b75 j a e]; exact hfx.1 j b d
        · rw [g_u_eq, if_neg a, g_u_eq, if_neg c, g_u_ne (by decide), a75, g_u_eq, if_neg b, a0]
        · rw [g_u_eq, if_neg (by decide), g_u_eq, if_neg (by decide), g_u_ne (by decide), a75, g_u_eq, if_pos rfl]; exact h60
        · rw [g_u_eq, if_neg (by decide), g_u_eq, if_pos rfl]; exact h86
        · rw [g_u_eq, if_pos rfl]; rfl
        · rw [g_u_ne (by decide), g_u_ne (by decide), g_u_eq, if_pos rfl]; rfl
        · rw [← hv]; exact tv_far (fun j a b => o3 _ _ _ _ _ (by omega) (by omega))
        · exact TBt.far hTB.2.2.2 (o3 _ _ _ _ _ (by decide) (by decide)) (o3 _ _ _ _ _ (by decide) (by decide)) (o3 _ _ _ _ _ (by decide) (by decide))
      · -- 33 f
        obtain ⟨q, hp, hz1, hpl, hO1, hfx⟩ : ∃ q, pAll t n0.toInt.toNat 701 (clrT (tv M 160)) 0 0 0 = .inl q ∧ z28.toInt = q.1 ∧ (M28.1 230 8).toInt = q.2 ∧ TOK (tv M28 160) ∧ frX M M28 := by
          rcases e28 with ⟨q, h1, h2, -, h3, h4, h5⟩ | ⟨T1, -, -, h, -⟩
          · exact ⟨q, h1, h2, h3, h4, h5⟩
          · exact absurd h c33
        clear e28
        have a0 : M28.1 0 = M.1 0 := hfx.1 0 (by decide) (by decide)
        refine g_aload_n0 dX5_town_36 rfl ?_
        refine g_aload_n0 dX5_town_37 rfl ?_
        refine g_getr dX5_town_38 rfl fX5_52 hA.1 rfl ?_
        refine g_callVi0 dX5_town_41 rfl vX5_102 (hg_tape hA).1 rfl (c_place (hg_tape hA)) (g_rmX (by omega)) (Nat.le_of_ble_eq_true rfl) (fun z41 M41 e41 => ?_)
        obtain ⟨hMM, e41⟩ := e41
        subst M41
        refine g_put dX5_town_44 rfl fX5_56 hA.1 rfl rfl rfl ?_
        refine g_aload_n0 dX5_town_47 rfl ?_
        refine g_dup dX5_town_48 rfl rfl ?_
        refine g_geti dX5_town_49 rfl fX5_26 hA.1 rfl ?_
        rw [g_u_eq, if_neg (show ¬ (3 : Nat) = 11 by decide)]
        rw [a0]
        refine g_iconstI dX5_town_52 rfl rfl (fun w52 h52 => ?_)
        refine g_iaddI dX5_town_53 rfl ⟨by omega, by omega⟩ (fun w53 h53 => ?_)
        refine g_put dX5_town_54 rfl fX5_26 hA.1 rfl rfl rfl ?_
        refine g_iload_n2 dX5_town_57 rfl ?_
        refine g_toX ?_
        refine g_iret dX5_town_58 rfl ?_
        have o2 : ∀ (N : gM) (x y : Int32) (j : Nat), j ≠ 0 → (g_u (g_u N 0 11 x) 0 3 y).1 j = N.1 j := fun N x y j hj => by rw [g_u_ne hj, g_u_ne hj]
        have etv : ∀ (N : gM) (x y : Int32), tv (g_u (g_u N 0 11 x) 0 3 y) 160 = tv N 160 := fun N x y => tv_far (fun j a b => o2 N x y j (by omega))
        refine ⟨_, rfl, by omega, Or.inl ⟨q, hp, hz1, ⟨hfx.2.1, ?_, ?_, ?_, by rw [etv]; exact hO1⟩, fun j a b c => by rw [o2 _ _ _ _ a]; exact hfx.1 j b c, fun k a b => ?_, ?_, ?_⟩⟩
        · rw [o2 _ _ _ _ (by decide)]; exact hfx.2.2.1
        · rw [o2 _ _ _ _ (by decide)]; exact hfx.2.2.2.1
        · rw [o2 _ _ _ _ (by decide)]; exact hfx.2.2.2.2
        · rw [g_u_eq, if_neg a, g_u_eq, if_neg b, a0]
        · rw [g_u_eq, if_neg (by decide), g_u_eq, if_pos rfl, e41]; exact hpl
        · rw [g_u_eq, if_pos rfl]; omega
    · -- 12 f
      refine g_throw thI dX5_town_15 dX5_town_18 dX5_town_19 dX5_town_22 rfl rfl rfl ⟨by show 7 ≤ _ + 8; omega, by show 100 ≤ 150 + 50 * _; omega, Nat.le_refl _, Nat.le_refl _⟩ (Nat.le_of_ble_eq_true rfl) ?_
      exact ⟨rfl, rfl, by omega⟩
