/-- the table of what can be made, up to n -/
def mdI (M M' : gM) (n : Nat) (P : Nat → Prop) : Prop := (∀ j, j ≠ 2 → M'.1 j = M.1 j) ∧ M'.2 = M.2 ∧ ∀ v, v ≤ n → ((M'.1 2 v).toInt = 0 ∨ (M'.1 2 v).toInt = 1) ∧ ((M'.1 2 v).toInt = 1 ↔ P v)
theorem md_put {M M' : gM} {n i : Nat} {P P' : Nat → Prop} {x : Int32} (h : mdI M M' n P) (hx : x.toInt = 0 ∨ x.toInt = 1) (hi : x.toInt = 1 ↔ P' i) (hn : ∀ v, v ≤ n → v ≠ i → (P v ↔ P' v)) : mdI M (g_u M' 2 i x) n P' := by
  refine ⟨fun j hj => by rw [g_u_ne hj]; exact h.1 j hj, h.2.1, fun v hv => ?_⟩
  rw [g_u_eq]
  by_cases e : v = i
  · rw [if_pos e, e]; exact ⟨hx, hi⟩
  · rw [if_neg e]
    exact ⟨(h.2.2 v hv).1, (h.2.2 v hv).2.trans (hn v hv e)⟩
theorem md_congr {M M' : gM} {n : Nat} {P P' : Nat → Prop} (h : mdI M M' n P) (hp : ∀ v, v ≤ n → (P v ↔ P' v)) : mdI M M' n P' := ⟨h.1, h.2.1, fun v hv => ⟨(h.2.2 v hv).1, (h.2.2 v hv).2.trans (hp v hv)⟩⟩
theorem or01 {a b w : Int32} (ha : a.toInt = 0 ∨ a.toInt = 1) (hb : b.toInt = 0 ∨ b.toInt = 1) (h : bn w = bn a ||| bn b) : (w.toInt = 0 ∨ w.toInt = 1) ∧ (w.toInt = 1 ↔ (a.toInt = 1 ∨ b.toInt = 1)) := by
  have e0 : ∀ x : Int32, x.toInt = 0 → bn x = 0 := fun x hx => bn_lit hx
  have e1 : ∀ x : Int32, x.toInt = 1 → bn x = 1 := fun x hx => bn_lit hx
  have k : ∀ n : Nat, n < 2 → bn w = n → w.toInt = (n : Int) := fun n hn e => by rw [i_bn (by omega), e]
  rcases ha with ha | ha <;> rcases hb with hb | hb
  · rw [e0 a ha, e0 b hb] at h
    have := k 0 (by decide) h
    exact ⟨Or.inl (by omega), by omega⟩
  · rw [e0 a ha, e1 b hb] at h
    have := k 1 (by decide) h
    exact ⟨Or.inr (by omega), by omega⟩
  · rw [e1 a ha, e0 b hb] at h
    have := k 1 (by decide) h
    exact ⟨Or.inr (by omega), by omega⟩
  · rw [e1 a ha, e1 b hb] at h
    have := k 1 (by decide) h
    exact ⟨Or.inr (by omega), by omega⟩
theorem mk_gr {T : gTw} {s t v : Nat} {gr : Int} (h0 : ∀ u, 0 ≤ wtT T u) : mkS T s gr t v ↔ ∃ m : Nat, m ≤ v ∧ mkS T s 0 t m ∧ (v : Int) - (m : Int) ≤ gr := by
  constructor
  · rintro ⟨u, h1, h2, h3, h4⟩
    have := h0 u
    exact ⟨(wtT T u).toNat, by omega, ⟨u, h1, h2, by omega, by omega⟩, by omega⟩
  · rintro ⟨m, h1, ⟨u, h2, h3, h4, h5⟩, h6⟩
    exact ⟨u, h2, h3, by omega, by omega⟩
theorem ans_no {T : gTw} {s t k hb : Nat} {gr : Int} (h0 : ∀ u, 0 ≤ wtT T u) (hPh : mkS T s 0 t hb) (hbk : hb ≤ k) (hPn : ∀ v : Nat, hb < v → v ≤ k → ¬ mkS T s 0 t v) (hnw : ¬ mkS T s 0 t (k + 1)) : mkS T s gr t (k + 1) ↔ ((k + 1 : Nat) : Int) - (hb : Int) ≤ gr := by
  rw [mk_gr h0]
  constructor
  · rintro ⟨m, m1, m2, m3⟩
    by_cases q : hb < m
    · by_cases q2 : m ≤ k
      · exact absurd m2 (hPn m q q2)
      · have e : m = k + 1 := by omega
        rw [e] at m2
        exact absurd m2 hnw
    · omega
  · intro h
    exact ⟨hb, by omega, hPh, h⟩
theorem ans_yes {T : gTw} {s t k : Nat} {gr : Int} (h0 : ∀ u, 0 ≤ wtT T u) (hgr : 0 ≤ gr) (h : mkS T s 0 t k) : mkS T s gr t k := (mk_gr h0).mpr ⟨k, Nat.le_refl _, h, by omega⟩
set_option maxHeartbeats 1200000 in
theorem lx_markB {Γ : gW} {gt : Option Nat} (hA : g_HG Γ gt) {M0 : gM} {T : gTw} (hT0 : tv M0 100 = T) (hB0 : TB M0 100) {p n : Int32} (hp : 0 ≤ p.toInt ∧ p.toInt < T 0 0) (hn : 1 ≤ n.toInt ∧ n.toInt ≤ 999) {i : Int32} (hi : 0 ≤ i.toInt ∧ i.toInt < T 0 1) (hbit : (hasT T p.toInt.toNat).testBit i.toInt.toNat = true) {w : Int32} (hw : w.toInt = T 7 i.toInt.toNat) {Q : Option Value → gM → Prop} (hk : ∀ (M : gM) (x : Int32), mdI M0 M n.toInt.toNat (mkS T (hasT T p.toInt.toNat) 0 (i.toInt.toNat + 1)) → G Γ μX5_markMadeByThings (g_R 1) (0, 0) (g_Z Γ Q) 87 [some (.ref 0), some (.int p), some (.int n), some (.int i), some (.int w), some (.int x)] [] M) : ∀ (n9 : Nat) (x : Int32) (M : gM), (x.toInt + 1).toNat = n9 → -1 ≤ x.toInt → x.toInt ≤ n.toInt → mdI M0 M n.toInt.toNat (fun v => if x.toInt < (v : Int) then mkS T (hasT T p.toInt.toNat) 0 (i.toInt.toNat + 1) v else mkS T (hasT T p.toInt.toNat) 0 i.toInt.toNat v) → G Γ μX5_markMadeByThings (g_R 1) (0, 0) (g_Z Γ Q) 54 [some (.ref 0), some (.int p), some (.int n), some (.int i), some (.int w), some (.int x)] [] M := by
  intro n9
  induction n9 using Nat.strongRecOn with
  | ind n9 ih =>
    intro x M h9 hx0 hx1 hF
    have hO : TOK T := by rw [← hT0]; exact TOK.of hB0
    have hb1 := hO.2.1
    have hb7 := (hO.2.2.2.2.2.2.2 i.toInt.toNat (by omega)).1
    refine g_iload5 dX5_markMadeByThings_54 rfl ?_
    refine g_iload4 dX5_markMadeByThings_56 rfl ?_
    refine g_icmp_ltI (t := 87) dX5_markMadeByThings_58 (by decide) rfl (fun c58 => ?_) (fun c58 => ?_)
    · -- 58 t
      refine hk _ _ (md_congr hF (fun v hv => ?_))
      by_cases e : x.toInt < (v : Int)
      · exact iff_of_eq (if_pos e)
      · refine (iff_of_eq (if_neg e)).trans ?_
        exact (mkS_low (by omega) hbit (by omega) (fun u => (wtT_rng hO).1)).symm
    · -- 58 f
      have f1 := hF.2.2 x.toInt.toNat (by omega)
      have f2 := hF.2.2 (x.toInt - w.toInt).toNat (by omega)
      refine g_aload_n0 dX5_markMadeByThings_61 rfl ?_
      refine g_getr dX5_markMadeByThings_62 rfl fX5_77 hA.1 rfl ?_
      refine g_iload5 dX5_markMadeByThings_65 rfl ?_
      refine g_dup2 dX5_markMadeByThings_67 rfl rfl rfl ?_
      refine g_ialdI dX5_markMadeByThings_68 rfl (hg_made hA) ⟨by omega, by omega⟩ ?_
      refine g_aload_n0 dX5_markMadeByThings_69 rfl ?_
      refine g_getr dX5_markMadeByThings_70 rfl fX5_77 hA.1 rfl ?_
      refine g_iload5 dX5_markMadeByThings_73 rfl ?_
      refine g_iload4 dX5_markMadeByThings_75 rfl ?_
      refine g_isubI dX5_markMadeByThings_77 rfl ⟨by omega, by omega⟩ (fun w77 h77 => ?_)
      refine g_ialdI dX5_markMadeByThings_78 rfl (hg_made hA) ⟨by omega, by omega⟩ ?_
      rw [h77]
      refine g_iorB dX5_markMadeByThings_79 rfl  (fun w79 h79 => ?_)
      have hor := or01 f1.1 f2.1 h79
      have g1 : (M.1 2 x.toInt.toNat).toInt = 1 ↔ mkS T (hasT T p.toInt.toNat) 0 i.toInt.toNat x.toInt.toNat := f1.2.trans (iff_of_eq (if_neg (show ¬ x.toInt < ((x.toInt.toNat : Nat) : Int) by omega)))
      have g2 : (M.1 2 (x.toInt - w.toInt).toNat).toInt = 1 ↔ mkS T (hasT T p.toInt.toNat) 0 i.toInt.toNat (x.toInt - w.toInt).toNat := f2.2.trans (iff_of_eq (if_neg (show ¬ x.toInt < (((x.toInt - w.toInt).toNat : Nat) : Int) by omega)))
      have g3 : w79.toInt = 1 ↔ mkS T (hasT T p.toInt.toNat) 0 (i.toInt.toNat + 1) x.toInt.toNat := by
        rw [hor.2, g1, g2, mkS_step (w := w.toInt.toNat) (by omega) hbit (by omega) (by omega), show x.toInt.toNat - w.toInt.toNat = (x.toInt - w.toInt).toNat by omega]
      have g4 := hor.1
      clear hor g1 g2 f1 f2 h79
      refine g_iastI dX5_markMadeByThings_80 rfl (hg_made hA) ⟨by omega, by omega⟩ ?_
      refine g_iincI5 dX5_markMadeByThings_81 rfl rfl rfl ⟨by omega, by omega⟩ (fun w81 h81 => ?_)
      refine g_goto (t := 54) dX5_markMadeByThings_84 (by decide) ?_
      refine ih _ (show (w81.toInt + 1).toNat < n9 by clear g3 g4; omega) _ _ rfl (by clear g3 g4; omega) (by clear g3 g4; omega) (md_put hF g4 ?_ (fun v hv hne => ?_))
      · exact g3.trans (iff_of_eq (if_pos (show w81.toInt < ((x.toInt.toNat : Nat) : Int) by clear g3 g4; omega))).symm
      · clear g3 g4
        by_cases e : x.toInt < (v : Int)
        · exact (iff_of_eq (if_pos e)).trans (iff_of_eq (if_pos (show w81.toInt < (v : Int) by omega))).symm
        · exact (iff_of_eq (if_neg e)).trans (iff_of_eq (if_neg (show ¬ w81.toInt < (v : Int) by omega))).symm
set_option maxHeartbeats 1200000 in
theorem lx_markA {Γ : gW} {gt : Option Nat} (hA : g_HG Γ gt) {M0 : gM} {T : gTw} (hT0 : tv M0 100 = T) (hB0 : TB M0 100) {p n : Int32} (hp : 0 ≤ p.toInt ∧ p.toInt < T 0 0) (hn : 1 ≤ n.toInt ∧ n.toInt ≤ 999) {Q : Option Value → gM → Prop} (hQ : ∀ M : gM, mdI M0 M n.toInt.toNat (mkS T (hasT T p.toInt.toNat) 0 (T 0 1).toNat) → Q none M) : ∀ (n9 : Nat) (i : Int32) (M : gM) (y4 y5 : Option Value), 12 - i.toInt.toNat = n9 → 0 ≤ i.toInt → i.toInt ≤ T 0 1 → mdI M0 M n.toInt.toNat (mkS T (hasT T p.toInt.toNat) 0 i.toInt.toNat) → G Γ μX5_markMadeByThings (g_R 1) (0, 0) (g_Z Γ Q) 17 [some (.ref 0), some (.int p), some (.int n), some (.int i), y4, y5] [] M := by
  intro n9
  induction n9 using Nat.strongRecOn with
  | ind n9 ih =>
    intro i M y4 y5 h9 hi0 hi1 hF
    have hT : tv M 100 = T := by rw [← hT0]; exact tv_far (fun j a b => hF.1 j (by omega))
    have hO : TOK T := by rw [← hT0]; exact TOK.of hB0
    have hb0 := hO.1
    have hb1 := hO.2.1
    have hp6 : p.toInt.toNat < 6 := by omega
    have hB : TB M 100 := TB.of (by rw [hT]; exact hO) (TBt.far hB0.2.2.2 (hF.1 _ (by decide)) (hF.1 _ (by decide)) (hF.1 _ (by decide)))
    have t01 : (M.1 100 1).toInt = T 0 1 := by rw [← hT]; exact (tv0 (by decide)).symm
    refine g_iload_n3 dX5_markMadeByThings_17 rfl ?_
    refine g_aload_n0 dX5_markMadeByThings_18 rfl ?_
    refine g_getr dX5_markMadeByThings_19 rfl fX5_10 hA.1 rfl ?_
    refine g_geti dX5_markMadeByThings_22 rfl fX5_116 (hg_town hA).1 rfl ?_
    refine g_icmp_geI (t := 93) dX5_markMadeByThings_25 (by decide) rfl (fun c25 => ?_) (fun c25 => ?_)
    · -- 25 t
      refine g_vret dX5_markMadeByThings_93 rfl ?_
      exact hQ _ (by rw [show (T 0 1).toNat = i.toInt.toNat by omega]; exact hF)
    · -- 25 f
      refine g_aload_n0 dX5_markMadeByThings_28 rfl ?_
      refine g_getr dX5_markMadeByThings_29 rfl fX5_10 hA.1 rfl ?_
      refine g_iload_n1 dX5_markMadeByThings_32 rfl ?_
      refine g_iload_n3 dX5_markMadeByThings_33 rfl ?_
      refine g_callVi2 dX5_markMadeByThings_34 rfl vX5_254 (hg_town hA).1 rfl (c_holds (hg_town hA) hB (by omega) (by omega)) (g_rm (by omega)) (Nat.le_of_ble_eq_true rfl) (fun z34 M34 e34 => ?_)
      obtain ⟨hMM, e34⟩ := e34
      subst M34
      rw [v_has hB hp6, hT] at e34
      refine g_if_eqI (t := 87) dX5_markMadeByThings_37 (by decide) rfl (fun c37 => ?_) (fun c37 => ?_)
      · -- 37 t
        have hbit : ¬ (hasT T p.toInt.toNat).testBit i.toInt.toNat = true := fun h => by rw [if_pos h] at e34; omega
        refine g_iincI3 dX5_markMadeByThings_87 rfl rfl rfl ⟨by omega, by omega⟩ (fun w87 h87 => ?_)
        refine g_goto (t := 17) dX5_markMadeByThings_90 (by decide) ?_
        exact ih _ (show 12 - w87.toInt.toNat < n9 by omega) _ _ _ _ rfl (by omega) (by omega) (by rw [show w87.toInt.toNat = i.toInt.toNat + 1 by omega]; exact md_congr hF (fun v hv => (mkS_no hbit).symm))
      · -- 37 f
        have hbit : (hasT T p.toInt.toNat).testBit i.toInt.toNat = true := by
          by_cases h : (hasT T p.toInt.toNat).testBit i.toInt.toNat = true
          · exact h
          · rw [if_neg h] at e34; omega
        refine g_aload_n0 dX5_markMadeByThings_40 rfl ?_
        refine g_getr dX5_markMadeByThings_41 rfl fX5_10 hA.1 rfl ?_
        refine g_getr dX5_markMadeByThings_44 rfl fX5_159 (hg_town hA).1 rfl ?_
        refine g_iload_n3 dX5_markMadeByThings_47 rfl ?_
        refine g_ialdI dX5_markMadeByThings_48 rfl (tw_weight (hg_town hA)) ⟨by omega, by omega⟩ ?_
        refine g_istore4 dX5_markMadeByThings_49 rfl rfl ?_
        refine g_iload_n2 dX5_markMadeByThings_51 rfl ?_
        refine g_istore5 dX5_markMadeByThings_52 rfl rfl ?_
        have h7 : (M.1 (100 + 7) i.toInt.toNat).toInt = T 7 i.toInt.toNat := by rw [← hT]; exact (tvw (f := 7) (Or.inl rfl) (by omega)).symm
        refine lx_markB hA hT0 hB0 hp hn ⟨hi0, by omega⟩ hbit h7 (fun M2 x2 hF2 => ?_) _ _ _ rfl (by omega) (by omega) (md_congr hF (fun v hv => (iff_of_eq (if_neg (show ¬ n.toInt < (v : Int) by omega))).symm))
        refine g_iincI3 dX5_markMadeByThings_87 rfl rfl rfl ⟨by omega, by omega⟩ (fun w87 h87 => ?_)
        refine g_goto (t := 17) dX5_markMadeByThings_90 (by decide) ?_
        exact ih _ (show 12 - w87.toInt.toNat < n9 by omega) _ _ _ _ rfl (by omega) (by omega) (by rw [show w87.toInt.toNat = i.toInt.toNat + 1 by omega]; exact hF2)
set_option maxHeartbeats 1200000 in
theorem x_mark {Γ : gW} {gt : Option Nat} {M : gM} (hA : g_HG Γ gt) {T : gTw} (hT : tv M 100 = T) (hB : TB M 100) {p n : Int32} (hp : 0 ≤ p.toInt ∧ p.toInt < T 0 0) (hn : 1 ≤ n.toInt ∧ n.toInt ≤ 999) : Ct Γ yX5_markMadeByThings μX5_markMadeByThings 1 [.ref 0, .int p, .int n] M (g_qv (fun M1 => mdI M M1 n.toInt.toNat (mkS T (hasT T p.toInt.toNat) 0 (T 0 1).toNat))) := by
  have hO : TOK T := by rw [← hT]; exact TOK.of hB
  have hb1 := hO.2.1
  refine g_enter rfl rfl rfl (Nat.le_of_ble_eq_true rfl) ?_
  show G Γ _ _ _ _ 0 [some (.ref 0), some (.int p), some (.int n), none, none, none] [] M
  refine g_aload_n0 dX5_markMadeByThings_0 rfl ?_
  refine g_getr dX5_markMadeByThings_1 rfl fX5_77 hA.1 rfl ?_
  refine g_iconstI dX5_markMadeByThings_4 rfl rfl (fun w4 h4 => ?_)
  refine g_callJv2 dX5_markMadeByThings_5 rfl kX5_279 (c_fill (hg_made hA) (by decide)) (g_rm (by omega)) (Nat.le_of_ble_eq_true rfl) (fun M5 e5 => ?_)
  subst e5
  refine g_aload_n0 dX5_markMadeByThings_8 rfl ?_
  refine g_getr dX5_markMadeByThings_9 rfl fX5_77 hA.1 rfl ?_
  refine g_iconstI dX5_markMadeByThings_12 rfl rfl (fun w12 h12 => ?_)
  refine g_iconstI dX5_markMadeByThings_13 rfl rfl (fun w13 h13 => ?_)
  refine g_iastI dX5_markMadeByThings_14 rfl (hg_made hA) ⟨by omega, by omega⟩ ?_
  refine g_iconstI dX5_markMadeByThings_15 rfl rfl (fun w15 h15 => ?_)
  refine g_istore_n3 dX5_markMadeByThings_16 rfl rfl ?_
  refine lx_markA hA hT hB hp hn (M0 := M) (fun M2 h2 => ⟨rfl, h2⟩) _ _ _ _ _ rfl (by omega) (by omega) ?_
  rw [h15]
  refine ⟨fun j hj => by rw [g_u_ne hj, fillM, g_row_ne hj], rfl, fun v hv => ?_⟩
  have e00 : (0 : Int32).toInt = 0 := rfl
  rw [show ((0 : Int).toNat) = 0 from rfl, mkS_0, g_u_eq, h12, show ((0 : Int).toNat) = 0 from rfl]
  by_cases e : v = 0
  · rw [if_pos e]
    exact ⟨Or.inr h13, by omega⟩
  · rw [if_neg e, fillM, g_row_at, if_pos (by omega)]
    first
      | exact ⟨Or.inl e00, by omega⟩
      | exact ⟨Or.inl h4, by omega⟩
set_option maxHeartbeats 1200000 in
theorem lx_ans {Γ : gW} {gt : Option Nat} {M : gM} (hA : g_HG Γ gt) {T : gTw} (hO : TOK T) {p n sb gr : Int32} (hgr : 0 ≤ gr.toInt) (hn : 1 ≤ n.toInt ∧ n.toInt ≤ 999) {M0 : gM} (hF : mdI M0 M n.toInt.toNat (mkS T (hasT T p.toInt.toNat) 0 (T 0 1).toNat)) {Q : Option Value → gM → Prop} (hQ : ∀ z : Int32, z.toInt = cntP (fun v => mkS T (hasT T p.toInt.toNat) gr.toInt (T 0 1).toNat (v + 1)) n.toInt.toNat → Q (some (.int z)) M) : ∀ (n9 : Nat) (an hb w : Int32), 1000 - w.toInt.toNat = n9 → 1 ≤ w.toInt → w.toInt ≤ n.toInt + 1 → an.toInt = cntP (fun v => mkS T (hasT T p.toInt.toNat) gr.toInt (T 0 1).toNat (v + 1)) (w.toInt.toNat - 1) → (0 ≤ hb.toInt ∧ hb.toInt < w.toInt) → (mkS T (hasT T p.toInt.toNat) 0 (T 0 1).toNat) hb.toInt.toNat → (∀ v : Nat, hb.toInt < (v : Int) → (v : Int) < w.toInt → ¬ (mkS T (hasT T p.toInt.toNat) 0 (T 0 1).toNat) v) → G Γ μX5_answers (g_RX 2) (0, 0) (g_Z Γ Q) 44 [some (.ref 0), some (.int p), some (.int n), some (.int sb), some (.int gr), some (.int an), some (.int hb), some (.int w)] [] M := by
  intro n9
  induction n9 using Nat.strongRecOn with
  | ind n9 ih =>
    intro an hb w h9 hw1 hw2 han hhb hPh hPn
    have har := cntP_rng (fun v => mkS T (hasT T p.toInt.toNat) gr.toInt (T 0 1).toNat (v + 1)) (w.toInt.toNat - 1)
    refine g_iload7 dX5_answers_44 rfl ?_
    refine g_iload_n2 dX5_answers_46 rfl ?_
    refine g_icmp_gtI (t := 84) dX5_answers_47 (by decide) rfl (fun c47 => ?_) (fun c47 => ?_)
    · -- 47 t
      refine g_iload5 dX5_answers_84 rfl ?_
      refine g_iret dX5_answers_86 rfl ?_
      exact hQ _ (by rw [han, show w.toInt.toNat - 1 = n.toInt.toNat by omega])
    · -- 47 f
      have f1 := (hF.2.2 w.toInt.toNat (by omega)).2
      refine g_aload_n0 dX5_answers_50 rfl ?_
      refine g_getr dX5_answers_51 rfl fX5_77 hA.1 rfl ?_
      refine g_iload7 dX5_answers_54 rfl ?_
      refine g_ialdI dX5_answers_56 rfl (hg_made hA) ⟨by omega, by omega⟩ ?_
      refine g_iconstI dX5_answers_57 rfl rfl (fun w57 h57 => ?_)
      refine g_icmp_neI (t := 65) dX5_answers_58 (by decide) rfl (fun c58 => ?_) (fun c58 => ?_)
      · -- 58 t
        have hnw : ¬ (mkS T (hasT T p.toInt.toNat) 0 (T 0 1).toNat) w.toInt.toNat := fun h => by have := f1.mpr h; omega
        clear f1
        refine g_iload7 dX5_answers_65 rfl ?_
        refine g_iload6 dX5_answers_67 rfl ?_
        refine g_isubI dX5_answers_69 rfl ⟨by omega, by omega⟩ (fun w69 h69 => ?_)
        refine g_iload4 dX5_answers_70 rfl ?_
        refine g_icmp_gtI (t := 78) dX5_answers_72 (by decide) rfl (fun c72 => ?_) (fun c72 => ?_)
        · -- 72 t
          refine g_iincI7 dX5_answers_78 rfl rfl rfl ⟨by omega, by omega⟩ (fun w78 h78 => ?_)
          refine g_goto (t := 44) dX5_answers_81 (by decide) ?_
          obtain ⟨k, hk⟩ : ∃ k, w.toInt.toNat = k + 1 := ⟨w.toInt.toNat - 1, by omega⟩
          have e1 : w78.toInt.toNat - 1 = k + 1 := by omega
          have e2 : w.toInt.toNat - 1 = k := by omega
          rw [e2] at han
          first
            | (have hz := hyw
               rw [hk] at hz
               have hyes : mkS T (hasT T p.toInt.toNat) gr.toInt (T 0 1).toNat (k + 1) := ans_yes (fun u => (wtT_rng hO).1) hgr hz
               first
                 | (refine ih _ (show 1000 - w78.toInt.toNat < n9 by omega) _ _ _ rfl (by omega) (by omega) (by rw [e1, cntP_yes (n := k) hyes, h75, han]) (by omega) hyw (fun v a b => by omega))
                 | (exfalso; omega))
            | (have hnw2 := hnw
               rw [hk] at hnw2
               have hcond := ans_no (gr := gr.toInt) (k := k) (fun u => (wtT_rng hO).1) hPh (by omega) (fun v a b => hPn v (by omega) (by omega)) hnw2
               have hPn2 : ∀ v : Nat, hb.toInt < (v : Int) → (v : Int) < w78.toInt → ¬ (mkS T (hasT T p.toInt.toNat) 0 (T 0 1).toNat) v := fun v a b h => by
                 by_cases q2 : (v : Int) < w.toInt
                 · exact hPn v a q2 h
                 · have e9 : v = k + 1 := by clear hcond; omega
                   rw [e9] at h
                   exact hnw2 h
               first
                 | (have hz := h75
                    have hyes := hcond.mpr (by clear hcond; omega)
                    clear hcond
                    exact ih _ (show 1000 - w78.toInt.toNat < n9 by omega) _ _ _ rfl (by omega) (by omega) (by rw [e1, cntP_yes (n := k) hyes, h75, han]) (by omega) hPh hPn2)
                 | (have hno : ¬ mkS T (hasT T p.toInt.toNat) gr.toInt (T 0 1).toNat (k + 1) := fun h => by
                      have q := hcond.mp h
                      clear hcond
                      omega
                    clear hcond
                    exact ih _ (show 1000 - w78.toInt.toNat < n9 by omega) _ _ _ rfl (by omega) (by omega) (by rw [e1, cntP_no (n := k) hno, han]) (by omega) hPh hPn2))
        · -- 72 f
          refine g_iincI5 dX5_answers_75 rfl rfl rfl ⟨by omega, by omega⟩ (fun w75 h75 => ?_)
          refine g_iincI7 dX5_answers_78 rfl rfl rfl ⟨by omega, by omega⟩ (fun w78 h78 => ?_)
          refine g_goto (t := 44) dX5_answers_81 (by decide) ?_
          obtain ⟨k, hk⟩ : ∃ k, w.toInt.toNat = k + 1 := ⟨w.toInt.toNat - 1, by omega⟩
          have e1 : w78.toInt.toNat - 1 = k + 1 := by omega
          have e2 : w.toInt.toNat - 1 = k := by omega
          rw [e2] at han
          first
            | (have hz := hyw
               rw [hk] at hz
               have hyes : mkS T (hasT T p.toInt.toNat) gr.toInt (T 0 1).toNat (k + 1) := ans_yes (fun u => (wtT_rng hO).1) hgr hz
               first
                 | (refine ih _ (show 1000 - w78.toInt.toNat < n9 by omega) _ _ _ rfl (by omega) (by omega) (by rw [e1, cntP_yes (n := k) hyes, h75, han]) (by omega) hyw (fun v a b => by omega))
                 | (exfalso; omega))
            | (have hnw2 := hnw
               rw [hk] at hnw2
               have hcond := ans_no (gr := gr.toInt) (k := k) (fun u => (wtT_rng hO).1) hPh (by omega) (fun v a b => hPn v (by omega) (by omega)) hnw2
               have hPn2 : ∀ v : Nat, hb.toInt < (v : Int) → (v : Int) < w78.toInt → ¬ (mkS T (hasT T p.toInt.toNat) 0 (T 0 1).toNat) v := fun v a b h => by
                 by_cases q2 : (v : Int) < w.toInt
                 · exact hPn v a q2 h
                 · have e9 : v = k + 1 := by clear hcond; omega
                   rw [e9] at h
                   exact hnw2 h
               first
                 | (have hz := h75
                    have hyes := hcond.mpr (by clear hcond; omega)
                    clear hcond
                    exact ih _ (show 1000 - w78.toInt.toNat < n9 by omega) _ _ _ rfl (by omega) (by omega) (by rw [e1, cntP_yes (n := k) hyes, h75, han]) (by omega) hPh hPn2)
                 | (have hno : ¬ mkS T (hasT T p.toInt.toNat) gr.toInt (T 0 1).toNat (k + 1) := fun h => by
                      have q := hcond.mp h
                      clear hcond
                      omega
                    clear hcond
                    exact ih _ (show 1000 - w78.toInt.toNat < n9 by omega) _ _ _ rfl (by omega) (by omega) (by rw [e1, cntP_no (n := k) hno, han]) (by omega) hPh hPn2))
      · -- 58 f
        have hyw := f1.mp (by omega)
        clear f1
        refine g_iload7 dX5_answers_61 rfl ?_
        refine g_istore6 dX5_answers_63 rfl rfl ?_
        refine g_iload7 dX5_answers_65 rfl ?_
        refine g_iload6 dX5_answers_67 rfl ?_
        refine g_isubI dX5_answers_69 rfl ⟨by omega, by omega⟩ (fun w69 h69 => ?_)
        refine g_iload4 dX5_answers_70 rfl ?_
        refine g_icmp_gtI (t := 78) dX5_answers_72 (by decide) rfl (fun c72 => ?_) (fun c72 => ?_)
        · -- 72 t
          refine g_iincI7 dX5_answers_78 rfl rfl rfl ⟨by omega, by omega⟩ (fun w78 h78 => ?_)
          refine g_goto (t := 44) dX5_answers_81 (by decide) ?_
          obtain ⟨k, hk⟩ : ∃ k, w.toInt.toNat = k + 1 := ⟨w.toInt.toNat - 1, by omega⟩
          have e1 : w78.toInt.toNat - 1 = k + 1 := by omega
          have e2 : w.toInt.toNat - 1 = k := by omega
          rw [e2] at han
          first
            | (have hz := hyw
               rw [hk] at hz
               have hyes : mkS T (hasT T p.toInt.toNat) gr.toInt (T 0 1).toNat (k + 1) := ans_yes (fun u => (wtT_rng hO).1) hgr hz
               first
                 | (refine ih _ (show 1000 - w78.toInt.toNat < n9 by omega) _ _ _ rfl (by omega) (by omega) (by rw [e1, cntP_yes (n := k) hyes, h75, han]) (by omega) hyw (fun v a b => by omega))
                 | (exfalso; omega))
            | (have hnw2 := hnw
               rw [hk] at hnw2
               have hcond := ans_no (gr := gr.toInt) (k := k) (fun u => (wtT_rng hO).1) hPh (by omega) (fun v a b => hPn v (by omega) (by omega)) hnw2
               have hPn2 : ∀ v : Nat, hb.toInt < (v : Int) → (v : Int) < w78.toInt → ¬ (mkS T (hasT T p.toInt.toNat) 0 (T 0 1).toNat) v := fun v a b h => by
                 by_cases q2 : (v : Int) < w.toInt
                 · exact hPn v a q2 h
                 · have e9 : v = k + 1 := by clear hcond; omega
                   rw [e9] at h
                   exact hnw2 h
               first
                 | (have hz := h75
                    have hyes := hcond.mpr (by clear hcond; omega)
                    clear hcond
                    exact ih _ (show 1000 - w78.toInt.toNat < n9 by omega) _ _ _ rfl (by omega) (by omega) (by rw [e1, cntP_yes (n := k) hyes, h75, han]) (by omega) hPh hPn2)
                 | (have hno : ¬ mkS T (hasT T p.toInt.toNat) gr.toInt (T 0 1).toNat (k + 1) := fun h => by
                      have q := hcond.mp h
                      clear hcond
                      omega
                    clear hcond
                    exact ih _ (show 1000 - w78.toInt.toNat < n9 by omega) _ _ _ rfl (by omega) (by omega) (by rw [e1, cntP_no (n := k) hno, han]) (by omega) hPh hPn2))
        · -- 72 f
          refine g_iincI5 dX5_answers_75 rfl rfl rfl ⟨by omega, by omega⟩ (fun w75 h75 => ?_)
          refine g_iincI7 dX5_answers_78 rfl rfl rfl ⟨by omega, by omega⟩ (fun w78 h78 => ?_)
          refine g_goto (t := 44) dX5_answers_81 (by decide) ?_
          obtain ⟨k, hk⟩ : ∃ k, w.toInt.toNat = k + 1 := ⟨w.toInt.toNat - 1, by omega⟩
          have e1 : w78.toInt.toNat - 1 = k + 1 := by omega
          have e2 : w.toInt.toNat - 1 = k := by omega
          rw [e2] at han
          first
            | (have hz := hyw
               rw [hk] at hz
               have hyes : mkS T (hasT T p.toInt.toNat) gr.toInt (T 0 1).toNat (k + 1) := ans_yes (fun u => (wtT_rng hO).1) hgr hz
               first
                 | (refine ih _ (show 1000 - w78.toInt.toNat < n9 by omega) _ _ _ rfl (by omega) (by omega) (by rw [e1, cntP_yes (n := k) hyes, h75, han]) (by omega) hyw (fun v a b => by omega))
                 | (exfalso; omega))
            | (have hnw2 := hnw
               rw [hk] at hnw2
               have hcond := ans_no (gr := gr.toInt) (k := k) (fun u => (wtT_rng hO).1) hPh (by omega) (fun v a b => hPn v (by omega) (by omega)) hnw2
               have hPn2 : ∀ v : Nat, hb.toInt < (v : Int) → (v : Int) < w78.toInt → ¬ (mkS T (hasT T p.toInt.toNat) 0 (T 0 1).toNat) v := fun v a b h => by
                 by_cases q2 : (v : Int) < w.toInt
                 · exact hPn v a q2 h
                 · have e9 : v = k + 1 := by clear hcond; omega
                   rw [e9] at h
                   exact hnw2 h
               first
                 | (have hz := h75
                    have hyes := hcond.mpr (by clear hcond; omega)
                    clear hcond
                    exact ih _ (show 1000 - w78.toInt.toNat < n9 by omega) _ _ _ rfl (by omega) (by omega) (by rw [e1, cntP_yes (n := k) hyes, h75, han]) (by omega) hPh hPn2)
                 | (have hno : ¬ mkS T (hasT T p.toInt.toNat) gr.toInt (T 0 1).toNat (k + 1) := fun h => by
                      have q := hcond.mp h
                      clear hcond
                      omega
                    clear hcond
                    exact ih _ (show 1000 - w78.toInt.toNat < n9 by omega) _ _ _ rfl (by omega) (by omega) (by rw [e1, cntP_no (n := k) hno, han]) (by omega) hPh hPn2))
set_option maxHeartbeats 1200000 in
theorem x_answers {Γ : gW} {gt : Option Nat} {M : gM} (hA : g_HG Γ gt) {T : gTw} (hT : tv M 100 = T) (hB : TB M 100) {p n sb : Int32} : CtX Γ yX5_answers μX5_answers 2 [.ref 0, .int p, .int n, .int sb] M (g_qi (fun z M1 => fr 2 M M1 ∧ (0 ≤ p.toInt ∧ p.toInt < T 0 0) ∧ (1 ≤ n.toInt ∧ n.toInt ≤ 999) ∧ z.toInt = cntP (fun v => mkS T (hasT T p.toInt.toNat) (if sb.toInt = 0 then 0 else T 3 p.toInt.toNat) (T 0 1).toNat (v + 1)) n.toInt.toNat)) (fun E M1 => nseX M (¬ (0 ≤ p.toInt ∧ p.toInt < T 0 0)) E M1 ∨ iaeX M ((0 ≤ p.toInt ∧ p.toInt < T 0 0) ∧ ¬ (1 ≤ n.toInt ∧ n.toInt ≤ 999)) E M1) := by
  have hO : TOK T := by rw [← hT]; exact TOK.of hB
  have hb0 := hO.1
  have hb1 := hO.2.1
  have t00 : (M.1 100 0).toInt = T 0 0 := by rw [← hT]; exact (tv0 (by decide)).symm
  have t01 : (M.1 100 1).toInt = T 0 1 := by rw [← hT]; exact (tv0 (by decide)).symm
  refine g_enterX rfl rfl rfl (Nat.le_of_ble_eq_true rfl) ?_
  show G Γ _ _ _ _ 0 [some (.ref 0), some (.int p), some (.int n), some (.int sb), none, none, none, none] [] M
  refine g_aload_n0 dX5_answers_0 rfl ?_
  refine g_iload_n1 dX5_answers_1 rfl ?_
  refine g_callXv1 dX5_answers_2 rfl vX5_132 hA.1 rfl (x_reqP hA t00) (g_rmY (by omega)) (Nat.le_of_ble_eq_true rfl) (fun E M1 h => Or.inl h) (fun M2 e2 => ?_)
  obtain ⟨hMM, q2⟩ := e2
  subst M2
  refine g_aload_n0 dX5_answers_5 rfl ?_
  refine g_iload_n2 dX5_answers_6 rfl ?_
  refine g_callXv1 dX5_answers_7 rfl vX5_262 hA.1 rfl (x_reqN) (g_rmY (by omega)) (Nat.le_of_ble_eq_true rfl) (fun E M1 h => Or.inr ⟨h.1, h.2.1, q2, h.2.2⟩) (fun M7 e7 => ?_)
  obtain ⟨hMM, q7⟩ := e7
  subst M7
  refine g_aload_n0 dX5_answers_10 rfl ?_
  refine g_iload_n1 dX5_answers_11 rfl ?_
  refine g_iload_n2 dX5_answers_12 rfl ?_
  refine g_callVv2 dX5_answers_13 rfl vX5_276 hA.1 rfl (x_mark hA hT hB q2 q7) (g_rmX (by omega)) (Nat.le_of_ble_eq_true rfl) (fun M13 e13 => ?_)
  have hp6 : p.toInt.toNat < 6 := by omega
  have h3 : (M13.1 (100 + 3) p.toInt.toNat).toInt = T 3 p.toInt.toNat := by rw [e13.1 _ (by decide), ← hT]; exact (tvp (f := 3) (by decide) hp6).symm
  have hbp := hO.2.2.2.2.2.2.1 p.toInt.toNat hp6
  refine g_iload_n3 dX5_answers_16 rfl ?_
  refine g_if_eqI (t := 32) dX5_answers_17 (by decide) rfl (fun c17 => ?_) (fun c17 => ?_)
  · -- 17 t
    refine g_iconstI dX5_answers_32 rfl rfl (fun w32 h32 => ?_)
    refine g_istore4 dX5_answers_33 rfl rfl ?_
    refine g_iconstI dX5_answers_35 rfl rfl (fun w35 h35 => ?_)
    refine g_istore5 dX5_answers_36 rfl rfl ?_
    refine g_iconstI dX5_answers_38 rfl rfl (fun w38 h38 => ?_)
    refine g_istore6 dX5_answers_39 rfl rfl ?_
    refine g_iconstI dX5_answers_41 rfl rfl (fun w41 h41 => ?_)
    refine g_istore7 dX5_answers_42 rfl rfl ?_
    refine g_toX ?_
    refine lx_ans hA hO (by omega) q7 e13 (fun z hz => ⟨_, rfl, ⟨fun j a => e13.1 j a, e13.2.1⟩, q2, q7, ?_⟩) _ _ _ _ rfl (by omega) (by omega) (by rw [h35, h41]; rfl) (by omega) ?_ (fun v a b => by omega)
    · rw [h38]
      exact ⟨0, sub_zero _, Nat.two_pow_pos _, by rw [wtT, wsum_none (fun i _ => Nat.zero_testBit i)]; decide, by rw [wtT, wsum_none (fun i _ => Nat.zero_testBit i)]; decide⟩
    · rw [hz]
      first
        | (rw [if_pos (show sb.toInt = 0 by omega), h32])
        | (rw [if_neg (show ¬ sb.toInt = 0 by omega), h3])
  · -- 17 f
    refine g_aload_n0 dX5_answers_20 rfl ?_
    refine g_getr dX5_answers_21 rfl fX5_10 hA.1 rfl ?_
    refine g_getr dX5_answers_24 rfl fX5_138 (hg_town hA).1 rfl ?_
    refine g_iload_n1 dX5_answers_27 rfl ?_
    refine g_ialdI dX5_answers_28 rfl (tw_sand (hg_town hA)) ⟨by omega, by omega⟩ ?_
    refine g_goto (t := 33) dX5_answers_29 (by decide) ?_
    refine g_istore4 dX5_answers_33 rfl rfl ?_
    refine g_iconstI dX5_answers_35 rfl rfl (fun w35 h35 => ?_)
    refine g_istore5 dX5_answers_36 rfl rfl ?_
    refine g_iconstI dX5_answers_38 rfl rfl (fun w38 h38 => ?_)
    refine g_istore6 dX5_answers_39 rfl rfl ?_
    refine g_iconstI dX5_answers_41 rfl rfl (fun w41 h41 => ?_)
    refine g_istore7 dX5_answers_42 rfl rfl ?_
    refine g_toX ?_
    refine lx_ans hA hO (by omega) q7 e13 (fun z hz => ⟨_, rfl, ⟨fun j a => e13.1 j a, e13.2.1⟩, q2, q7, ?_⟩) _ _ _ _ rfl (by omega) (by omega) (by rw [h35, h41]; rfl) (by omega) ?_ (fun v a b => by omega)
    · rw [h38]
      exact ⟨0, sub_zero _, Nat.two_pow_pos _, by rw [wtT, wsum_none (fun i _ => Nat.zero_testBit i)]; decide, by rw [wtT, wsum_none (fun i _ => Nat.zero_testBit i)]; decide⟩
    · rw [hz]
      first
        | (rw [if_pos (show sb.toInt = 0 by omega), h32])
        | (rw [if_neg (show ¬ sb.toInt = 0 by omega), h3])
