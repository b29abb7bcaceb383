set_option maxHeartbeats 1200000 in
theorem l_round {Γ : gW} {M0 : gM} {T0 : gTw} (hR : g_Ref Γ) (hI : INV T0) (hC0 : CR T0 M0) (hW0 : WR T0 M0) (hDy : (M0.1 300 12).toInt = T0 0 4) {p : Int32} (hp : 0 ≤ p.toInt ∧ p.toInt < T0 0 0) {wh : Int32} {Q : Option Value → gM → Prop} (hk : ∀ (M : gM) (T : gTw) (k : Nat) (m w s : Int32) (z6 : Option Value), fr 442 M0 M → RW T (M.1 442) → rdP T0 p.toInt.toNat k T w.toInt.toNat → rdE p.toInt.toNat k T w.toInt.toNat → m.toInt = k → k ≤ 20 → 0 ≤ w.toInt → G Γ μX6_round (g_R 4) (0, 0) (g_Z Γ Q) 166 [some (.ref 300), some (.int p), some (.int wh), some (.int m), some (.int w), some (.int s), z6] [] M) : ∀ (n9 : Nat) (m w s : Int32) (z6 : Option Value) (M : gM) (T : gTw) (k : Nat), 20 - k = n9 → k ≤ 20 → m.toInt = k → 0 ≤ w.toInt → fr 442 M0 M → RW T (M.1 442) → rdP T0 p.toInt.toNat k T w.toInt.toNat → ((0 < k ∧ w.toInt = p.toInt ∧ s.toInt = -1) ∨ ((k = 0 ∨ ¬ w.toInt = p.toInt) ∧ chosenT T w.toInt.toNat s.toInt)) → G Γ μX6_round (g_R 4) (0, 0) (g_Z Γ Q) 59 [some (.ref 300), some (.int p), some (.int wh), some (.int m), some (.int w), some (.int s), z6] [] M := by
  intro n9
  induction n9 using Nat.strongRecOn with
  | ind n9 ih =>
    intro m w s z6 M T k h9 hk20 hmk hw0 hfr hA hrd hs
    obtain ⟨hIT, hwT, hsame⟩ := rdP_inv hI (by omega) _ _ _ hrd
    have hO := hIT.1
    obtain ⟨o_pe, o_th, o_la, o_wi, o_da, o_we, o_p, o_i⟩ := id hO
    have hC : CR T M := by
      have h := CR.fr hC0 hfr (by omega)
      unfold CR at h ⊢
      simp only [hsame 0 _ (by decide) (by decide) (by decide) (by decide), hsame 1 _ (by decide) (by decide) (by decide) (by decide), hsame 2 _ (by decide) (by decide) (by decide) (by decide), hsame 8 _ (by decide) (by decide) (by decide) (by decide)]
      exact h
    have hW : WR T M := by
      have h := WR.fr hW0 hfr (by omega)
      unfold WR at h ⊢
      simp only [hsame 0 _ (by decide) (by decide) (by decide) (by decide), hsame 7 _ (by decide) (by decide) (by decide) (by decide)]
      exact h
    have hDy2 : (M.1 300 12).toInt = T 0 4 := by rw [hfr.1 300 (by decide), hsame 0 4 (by decide) (by decide) (by decide) (by decide)]; exact hDy
    obtain ⟨-, a_o, a_t, -⟩ := hA.1 w.toInt.toNat (by omega)
    have hwp : 0 ≤ w.toInt ∧ w.toInt < T 0 0 := by omega
    have ewn : ((w.toInt.toNat : Nat) : Int) = w.toInt := by omega
    have hT00 : T 0 0 = T0 0 0 := hsame 0 0 (by decide) (by decide) (by decide) (by decide)
    clear o_p o_i o_la o_wi o_da o_we
    refine g_iload5 dX6_round_59 rfl ?_
    refine g_iconstI dX6_round_61 rfl rfl (fun w61 h61 => ?_)
    refine g_icmp_eqI (t := 166) dX6_round_62 (by decide) rfl (fun c62 => ?_) (fun c62 => ?_)
    · -- 62 t
      exact hk M T k _ _ _ _ hfr hA hrd (by
        rcases hs with ⟨a1, a2, a3⟩ | ⟨a1, a2⟩
        · exact Or.inr (Or.inl ⟨a1, by omega⟩)
        · exact Or.inr (Or.inr (by rw [← show s.toInt = -1 by omega]; exact a2))) hmk hk20 hw0
    · -- 62 f
      have hs2 := hs.resolve_left (fun h => by omega)
      obtain ⟨n, en, hsl, -⟩ := hs2.2.resolve_left (fun h => by omega)
      have hch : chosenT T w.toInt.toNat (n : Int) := by rw [← en]; exact hs2.2
      obtain ⟨hcan, ht0, ht1⟩ := chosenT_can hO hwT hch hIT.2.2
      have h2n : n < 2 ^ (T 0 1).toNat := by
        have h2 : hasT T w.toInt.toNat < 2 ^ (T 0 1).toNat := by rw [← RW.has hA (p := w.toInt.toNat) (by omega)]; exact gat_lt _ _
        have := sub_le hsl.1.2.1
        omega
      have enn : s.toInt.toNat = n := by omega
      have ep2 : ((2 ^ (T 0 1).toNat : Nat) : Int) = (2 : Int) ^ (T 0 1).toNat := by simp
      have hsr : 0 ≤ sandT T w.toInt.toNat n ∧ sandT T w.toInt.toNat n ≤ 2000 := by
        have h1 := lgtT_rng (p := w.toInt.toNat) hO (by omega)
        have h2 := wtT_rng (s := n) hO
        rw [sandT]; split <;> omega
      clear hs
      refine g_iload_n3 dX6_round_65 rfl ?_
      refine g_bipushI dX6_round_66 rfl rfl (fun w66 h66 => ?_)
      refine g_icmp_geI (t := 166) dX6_round_68 (by decide) rfl (fun c68 => ?_) (fun c68 => ?_)
      · -- 68 t
        exact hk M T k _ _ _ _ hfr hA hrd (Or.inl (by omega)) hmk hk20 hw0
      · -- 68 f
        refine g_aload_n0 dX6_round_71 rfl ?_
        refine g_aload_n0 dX6_round_72 rfl ?_
        refine g_getr dX6_round_73 rfl fX6_100 hR.1 rfl ?_
        refine g_iload4 dX6_round_76 rfl ?_
        refine g_aload_n0 dX6_round_78 rfl ?_
        refine g_getr dX6_round_79 rfl fX6_100 hR.1 rfl ?_
        refine g_bipushI dX6_round_82 rfl rfl (fun w82 h82 => ?_)
        refine g_iload4 dX6_round_84 rfl ?_
        refine g_iaddI dX6_round_86 rfl ⟨by omega, by omega⟩ (fun w86 h86 => ?_)
        refine g_ialdI dX6_round_87 rfl (rf_row hR) ⟨by omega, by omega⟩ ?_
        rw [show w86.toInt.toNat = 24 + w.toInt.toNat by omega]
        refine g_callVi3 dX6_round_88 rfl vX6_315 hR.1 rfl (r_whomOf hR hO hC (rf_row hR) hA hwp a_t) (g_rm (by omega)) (Nat.le_of_ble_eq_true rfl) (fun z88 M88 e88 => ?_)
        obtain ⟨rfl, e88⟩ := e88
        refine g_istore6 dX6_round_91 rfl rfl ?_
        refine g_aload_n0 dX6_round_93 rfl ?_
        refine g_aload_n0 dX6_round_94 rfl ?_
        refine g_getr dX6_round_95 rfl fX6_100 hR.1 rfl ?_
        refine g_iload4 dX6_round_98 rfl ?_
        refine g_iload5 dX6_round_100 rfl ?_
        refine g_aload_n0 dX6_round_102 rfl ?_
        refine g_aload_n0 dX6_round_103 rfl ?_
        refine g_getr dX6_round_104 rfl fX6_100 hR.1 rfl ?_
        refine g_iload4 dX6_round_107 rfl ?_
        refine g_iload5 dX6_round_109 rfl ?_
        refine g_aload_n0 dX6_round_111 rfl ?_
        refine g_getr dX6_round_112 rfl fX6_100 hR.1 rfl ?_
        refine g_bipushI dX6_round_115 rfl rfl (fun w115 h115 => ?_)
        refine g_iload4 dX6_round_117 rfl ?_
        refine g_iaddI dX6_round_119 rfl ⟨by omega, by omega⟩ (fun w119 h119 => ?_)
        refine g_ialdI dX6_round_120 rfl (rf_row hR) ⟨by omega, by omega⟩ ?_
        rw [show w119.toInt.toNat = 18 + w.toInt.toNat by omega]
        refine g_callVi4 dX6_round_121 rfl vX6_297 hR.1 rfl (r_sandFor hR hO hC hW (rf_row hR) hA hwp ⟨by omega, by omega⟩ a_o) (g_rm (by omega)) (Nat.le_of_ble_eq_true rfl) (fun z121 M121 e121 => ?_)
        obtain ⟨rfl, e121⟩ := e121
        rw [enn] at e121
        replace e121 : z121.toInt = sandT T w.toInt.toNat n := e121.elim (fun h => h.2) (fun h => absurd hsl.1 h.1)
        refine g_iload6 dX6_round_124 rfl ?_
        refine g_callVi5 dX6_round_126 rfl vX6_285 hR.1 rfl (r_make hR hO hC hW (rf_row hR) ⟨by omega, by omega⟩ ⟨by omega, by omega⟩ ⟨by omega, by omega⟩ ⟨by omega, by omega⟩) (g_rm (by omega)) (Nat.le_of_ble_eq_true rfl) (fun z126 M126 e126 => ?_)
        obtain ⟨ev, e126⟩ := e126
        rw [enn] at ev e126
        have hetk : z88.toInt.toNat = (takerT T w.toInt.toNat).toNat := by rw [e88]
        rw [hetk] at e126
        have hA2 : RW (choT T w.toInt.toNat n) (M126.1 442) := by
          rw [e126, g_row_at, choT, ← e121]
          exact RW.gift hO hA (by rw [e121]; exact hcan) hIT.2.1 ev (by rw [e88]; omega) ewn.symm
        have hfr2 : fr 442 M121 M126 := ⟨fun j hj => by rw [e126, g_row_ne hj], by rw [e126]; rfl⟩
        have hfr3 : fr 442 M0 M126 := ⟨fun j hj => by rw [hfr2.1 j hj]; exact hfr.1 j hj, by rw [hfr2.2]; exact hfr.2⟩
        have hI2 := INV.cho hIT hwT hch
        have hrd2 : rdP T0 p.toInt.toNat (k + 1) (choT T w.toInt.toNat n) z88.toInt.toNat := ⟨T, w.toInt.toNat, n, hrd, by omega, hch, rfl, hetk⟩
        have hDy3 : (M126.1 300 12).toInt = (choT T w.toInt.toNat n) 0 4 := by rw [hfr2.1 300 (by decide), choT, gift_o (by omega)]; exact hDy2
        have hc00 : (choT T w.toInt.toNat n) 0 0 = T 0 0 := by rw [choT, gift_o (by omega)]
        clear e126 ev
        refine g_pop dX6_round_129 rfl rfl ?_
        refine g_iload6 dX6_round_130 rfl ?_
        refine g_istore4 dX6_round_132 rfl rfl ?_
        refine g_iincI3 dX6_round_134 rfl rfl rfl ⟨by omega, by omega⟩ (fun w134 h134 => ?_)
        refine g_iload4 dX6_round_137 rfl ?_
        refine g_iload_n1 dX6_round_139 rfl ?_
        refine g_icmp_neI (t := 147) dX6_round_140 (by decide) rfl (fun c140 => ?_) (fun c140 => ?_)
        · -- 140 t
          refine g_aload_n0 dX6_round_147 rfl ?_
          refine g_aload_n0 dX6_round_148 rfl ?_
          refine g_getr dX6_round_149 rfl fX6_100 hR.1 rfl ?_
          refine g_iload4 dX6_round_152 rfl ?_
          refine g_aload_n0 dX6_round_154 rfl ?_
          refine g_geti dX6_round_155 rfl fX6_253 hR.1 rfl ?_
          refine g_callVi3 dX6_round_158 rfl vX6_311 hR.1 rfl (r_choiceOf hR hI2.1 (CR.fr (CR.gift hC) hfr2 (by omega)) (WR.fr (WR.gift hW) hfr2 (by omega)) (rf_row hR) hA2 ⟨by omega, by omega⟩ hDy3) (g_rm (by omega)) (Nat.le_of_ble_eq_true rfl) (fun z158 M158 e158 => ?_)
          obtain ⟨rfl, e158⟩ := e158
          refine g_istore5 dX6_round_161 rfl rfl ?_
          refine g_goto (t := 59) dX6_round_163 (by decide) ?_
          first
            | (have hz := h143; exact ih _ (by omega) _ _ _ _ _ (choT T w.toInt.toNat n) (k + 1) rfl (by omega) (by omega) (by omega) hfr3 hA2 hrd2 (Or.inl ⟨by omega, by omega, hz⟩))
            | exact ih _ (by omega) _ _ _ _ _ (choT T w.toInt.toNat n) (k + 1) rfl (by omega) (by omega) (by omega) hfr3 hA2 hrd2 (Or.inr ⟨by omega, e158⟩)
        · -- 140 f
          refine g_iconstI dX6_round_143 rfl rfl (fun w143 h143 => ?_)
          refine g_goto (t := 161) dX6_round_144 (by decide) ?_
          refine g_istore5 dX6_round_161 rfl rfl ?_
          refine g_goto (t := 59) dX6_round_163 (by decide) ?_
          first
            | (have hz := h143; exact ih _ (by omega) _ _ _ _ _ (choT T w.toInt.toNat n) (k + 1) rfl (by omega) (by omega) (by omega) hfr3 hA2 hrd2 (Or.inl ⟨by omega, by omega, hz⟩))
            | exact ih _ (by omega) _ _ _ _ _ (choT T w.toInt.toNat n) (k + 1) rfl (by omega) (by omega) (by omega) hfr3 hA2 hrd2 (Or.inr ⟨by omega, e158⟩)
