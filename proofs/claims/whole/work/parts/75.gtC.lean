theorem gcome_le {T : gTw} {b : Int} {σ : gGt} : σ.1 ≤ (gcome T b σ).1 := by
  by_cases h : ∃ k, k < σ.1 ∧ σ.2.1 k = T
  · rw [gcome_old h]; exact Nat.le_refl _
  · by_cases h2 : σ.1 = 1000
    · rw [gcome_full h h2]; exact Nat.le_refl _
    · rw [gcome_new h h2]; exact Nat.le_succ _
theorem gTak_le {T : gTw} {p u k : Nat} {b : Int} {σ : gGt} : σ.1 ≤ (gTak T p u b k σ).1 := by
  rw [gTak]; split
  · exact gcome_le
  · exact Nat.le_refl _
theorem gfold_le {f : Nat → gGt → gGt} (hf : ∀ u σ, σ.1 ≤ (f u σ).1) : ∀ (n : Nat) (σ : gGt), σ.1 ≤ (gfold f n σ).1 := by
  intro n
  induction n with
  | zero => intro σ; exact Nat.le_refl _
  | succ n ih => intro σ; exact Nat.le_trans (ih σ) (hf n _)
theorem gSet_le {T : gTw} {p u : Nat} {b : Int} {σ : gGt} : σ.1 ≤ (gSet T p b u σ).1 := by
  by_cases hf : fitT T p u
  · rw [gSet, if_pos hf]; exact gfold_le (fun u σ => gTak_le) _ _
  · rw [gSet, if_neg hf]; exact Nat.le_refl _
theorem gPer_le {T : gTw} {who p : Nat} {b : Int} {σ : gGt} : σ.1 ≤ (gPer T who b p σ).1 := by
  rw [gPer]; split
  · exact gfold_le (fun u σ => gSet_le) _ _
  · split
    · exact Nat.le_refl _
    · exact gcome_le
theorem CR.g {T : gTw} {M M' : gM} (h : CR T M) (hf : frG M M') : CR T M' := by
  unfold CR at h ⊢
  rw [hf.1 402 (by decide) (by decide) (by decide) (by decide) (by decide) (by decide), hf.1 403 (by decide) (by decide) (by decide) (by decide) (by decide) (by decide), hf.1 404 (by decide) (by decide) (by decide) (by decide) (by decide) (by decide), hf.1 405 (by decide) (by decide) (by decide) (by decide) (by decide) (by decide)]
  exact h
theorem WR.g {T : gTw} {M M' : gM} (h : WR T M) (hf : frG M M') : WR T M' := by
  unfold WR at h ⊢
  rw [hf.1 409 (by decide) (by decide) (by decide) (by decide) (by decide) (by decide)]
  exact h
theorem GTR.m443 {T0 : gTw} {r0 f : Nat → Int32} {σ : gGt} {M : gM} (h : GTR T0 r0 σ M) : GTR T0 r0 σ (g_row M 443 f) := h
theorem CR.tx {T0 T : gTw} {M : gM} (h : CR T0 M) (hX : TX T0 T) : CR T M := by
  unfold CR at h ⊢
  simp only [hX 0 _ (Or.inl (by decide)), hX 1 _ (Or.inl (by decide)), hX 2 _ (Or.inl (by decide)), hX 8 _ (Or.inl (by decide))]
  exact h
theorem WR.tx {T0 T : gTw} {M : gM} (h : WR T0 M) (hX : TX T0 T) : WR T M := by
  unfold WR at h ⊢
  simp only [hX 0 _ (Or.inl (by decide)), hX 7 _ (Or.inl (by decide))]
  exact h
set_option maxHeartbeats 1200000 in
theorem r_giveOn {Γ : gW} {M : gM} {T0 T : gTw} {r0 : Nat → Int32} {σ : gGt} (hR : g_Ref Γ) (hG : GTR T0 r0 σ M) (hI : INV T) (hX : TX T0 T) (hC : CR T M) (hW : WR T M) (hA : RW T (M.1 442)) (hRX : RX T0 r0 (M.1 442)) {bI : Int32} (hb : 0 ≤ bI.toInt ∧ bI.toInt ≤ (σ.1 : Int)) {p : Int32} (hp : 0 ≤ p.toInt ∧ p.toInt < T 0 0) {u k : Int32} (hu : 0 ≤ u.toInt) (hfit : fitT T p.toInt.toNat u.toInt.toNat) (hk : 0 ≤ k.toInt) (hcan : canG T p.toInt.toNat u.toInt.toNat (sandT T p.toInt.toNat u.toInt.toNat) k.toInt.toNat) : Ct Γ yX6_giveOn μX6_giveOn 2 [.ref 300, .int p, .int u, .int k, .int bI] M (g_qv (fun M1 => GTR T0 r0 (gcome (giftT T p.toInt.toNat u.toInt.toNat (sandT T p.toInt.toNat u.toInt.toNat) k.toInt.toNat) bI.toInt σ) M1 ∧ frG M M1)) := by
  have hO := hI.1
  obtain ⟨o_pe, o_th, o_la, o_wi, o_da, o_we, o_p, o_i⟩ := id hO
  obtain ⟨r_0, r_1, r_2, r_3, r_p, r_i⟩ := id hC
  have ep : ((2 ^ (T 0 1).toNat : Nat) : Int) = (2 : Int) ^ (T 0 1).toNat := by simp
  have hp12 : 2 ^ (T 0 1).toNat ≤ 2 ^ 12 := Nat.pow_le_pow_right (by decide) (by omega)
  have hp12e : (2 : Nat) ^ 12 = 4096 := rfl
  clear o_p o_i r_p r_i o_la o_da o_we
  have hk6 := hcan.2.1
  have hu2 : u.toInt.toNat < 2 ^ (T 0 1).toNat := by
    have h2 : hasT T p.toInt.toNat < 2 ^ (T 0 1).toNat := by rw [← RW.has hA (p := p.toInt.toNat) (by omega)]; exact gat_lt _ _
    have := sub_le hfit.2.1
    omega
  have hsr : 0 ≤ sandT T p.toInt.toNat u.toInt.toNat ∧ sandT T p.toInt.toNat u.toInt.toNat ≤ 2000 := by
    have h1 := lgtT_rng (p := p.toInt.toNat) hO (by omega)
    have h2 := wtT_rng (s := u.toInt.toNat) hO
    rw [sandT]; split <;> omega
  obtain ⟨-, a_o, a_t, -⟩ := hA.1 p.toInt.toNat (by omega)
  refine g_enter rfl rfl rfl (Nat.le_of_ble_eq_true rfl) ?_
  show G Γ _ _ _ _ 0 [some (.ref 300), some (.int p), some (.int u), some (.int k), some (.int bI)] [] M
  refine g_aload_n0 dX6_giveOn_0 rfl ?_
  refine g_getr dX6_giveOn_1 rfl fX6_100 hR.1 rfl ?_
  refine g_aload_n0 dX6_giveOn_4 rfl ?_
  refine g_getr dX6_giveOn_5 rfl fX6_103 hR.1 rfl ?_
  refine g_callSv2 dX6_giveOn_8 rfl sX6_249 (r_copy (rf_row hR) (rf_then hR) (by decide)) (g_rm (by omega)) (Nat.le_of_ble_eq_true rfl) (fun M8 e8 => ?_)
  have hfr2 : frG M M8 := by
    rw [e8]; exact ⟨fun j a b c d e f => by rw [rowI_ne f], rfl, fun _ _ _ => rfl⟩
  have hC2 := CR.g hC hfr2
  have hW2 := WR.g hW hfr2
  have e442 : M8.1 442 = M.1 442 := by rw [e8, rowI_ne (by decide)]
  have hA2 : RW T (M8.1 442) := by rw [e442]; exact hA
  have hA3 : RW T (M8.1 443) := RW.ext hO hA (fun j hj => by rw [e8, rowI_at, if_pos hj])
  have hRX3 : RX T0 r0 (M8.1 443) := RX.ext hRX (fun j hj => by rw [e8, rowI_at, if_pos hj])
  have a_o2 : (M8.1 442 (18 + p.toInt.toNat)).toInt = T 4 p.toInt.toNat := by rw [e442]; exact a_o
  have hG2 : GTR T0 r0 σ M8 := by rw [e8, rowI]; exact GTR.m443 hG
  clear e8
  refine g_aload_n0 dX6_giveOn_11 rfl ?_
  refine g_aload_n0 dX6_giveOn_12 rfl ?_
  refine g_getr dX6_giveOn_13 rfl fX6_103 hR.1 rfl ?_
  refine g_iload_n1 dX6_giveOn_16 rfl ?_
  refine g_iload_n2 dX6_giveOn_17 rfl ?_
  refine g_aload_n0 dX6_giveOn_18 rfl ?_
  refine g_aload_n0 dX6_giveOn_19 rfl ?_
  refine g_getr dX6_giveOn_20 rfl fX6_100 hR.1 rfl ?_
  refine g_iload_n1 dX6_giveOn_23 rfl ?_
  refine g_iload_n2 dX6_giveOn_24 rfl ?_
  refine g_aload_n0 dX6_giveOn_25 rfl ?_
  refine g_getr dX6_giveOn_26 rfl fX6_100 hR.1 rfl ?_
  refine g_bipushI dX6_giveOn_29 rfl rfl (fun w29 h29 => ?_)
  refine g_iload_n1 dX6_giveOn_31 rfl ?_
  refine g_iaddI dX6_giveOn_32 rfl ⟨by omega, by omega⟩ (fun w32 h32 => ?_)
  refine g_ialdI dX6_giveOn_33 rfl (rf_row hR) ⟨by omega, by omega⟩ ?_
  rw [show w32.toInt.toNat = 18 + p.toInt.toNat by omega]
  refine g_callVi4 dX6_giveOn_34 rfl vX6_297 hR.1 rfl (r_sandFor hR hO hC2 hW2 (rf_row hR) hA2 hp ⟨by omega, by omega⟩ a_o2) (g_rm (by omega)) (Nat.le_of_ble_eq_true rfl) (fun z34 M34 e34 => ?_)
  obtain ⟨e34a, e34⟩ := e34
  subst e34a
  replace e34 : z34.toInt = sandT T p.toInt.toNat u.toInt.toNat := e34.elim (fun h => h.2) (fun h => absurd hfit h.1)
  refine g_iload_n3 dX6_giveOn_37 rfl ?_
  refine g_callVi5 dX6_giveOn_38 rfl vX6_285 hR.1 rfl (r_make hR hO hC2 hW2 (rf_then hR) ⟨by omega, by omega⟩ ⟨by omega, by omega⟩ ⟨by omega, by omega⟩ ⟨by omega, by omega⟩) (g_rm (by omega)) (Nat.le_of_ble_eq_true rfl) (fun z38 M38 e38 => ?_)
  obtain ⟨ev, e38⟩ := e38
  have e00 := hX.o 0
  have e01 := hX.o 1
  have hA4 : RW (giftT T p.toInt.toNat u.toInt.toNat (sandT T p.toInt.toNat u.toInt.toNat) k.toInt.toNat) (M38.1 443) := by
    have hc2 := hcan
    rw [e38, g_row_at]
    rw [← e34] at hc2 ⊢
    exact RW.gift hO hA3 hc2 hI.2.1 ev (by omega) (by omega)
  have hRX4 : RX T0 r0 (M38.1 443) := by
    rw [e38, g_row_at]
    exact RX.mk hRX3 (by omega) (by omega) (by omega) (by omega) (by omega) hcan.2.2.1
  have hG4 : GTR T0 r0 σ M38 := by rw [e38]; exact GTR.m443 hG2
  have hfr4 : frG M M38 := frG.tr hfr2 (by rw [e38]; exact ⟨fun j a b c d e f => by rw [g_row_ne f], rfl, fun _ _ _ => rfl⟩)
  clear e38
  refine g_pop dX6_giveOn_41 rfl rfl ?_
  refine g_aload_n0 dX6_giveOn_42 rfl ?_
  refine g_aload_n0 dX6_giveOn_43 rfl ?_
  refine g_getr dX6_giveOn_44 rfl fX6_103 hR.1 rfl ?_
  refine g_iload4 dX6_giveOn_47 rfl ?_
  refine g_callVv2 dX6_giveOn_49 rfl vX6_361 hR.1 rfl (r_come hR hG4 (INV.gift hI hcan) (TX.gift hX (by rw [← e00]; omega) (by rw [← e00]; omega)) (rf_then hR) hA4 hRX4 hb) (g_rm (by omega)) (Nat.le_of_ble_eq_true rfl) (fun M49 e49 => ?_)
  refine g_vret dX6_giveOn_52 rfl ?_
  exact ⟨rfl, e49.1, frG.tr hfr4 e49.2⟩
set_option maxHeartbeats 1200000 in
theorem l_goO {Γ : gW} {M0 : gM} {T0 T : gTw} {r0 : Nat → Int32} {σ0 : gGt} (hR : g_Ref Γ) (hI : INV T) (hX : TX T0 T) (hC0 : CR T M0) (hW0 : WR T M0) (hA0 : RW T (M0.1 442)) (hRX0 : RX T0 r0 (M0.1 442)) {bI : Int32} (hb : 0 ≤ bI.toInt ∧ bI.toInt ≤ (σ0.1 : Int)) {p : Int32} (hp : 0 ≤ p.toInt ∧ p.toInt < T 0 0) {who : Int32} {u : Int32} (hu : 0 ≤ u.toInt) (hfit : fitT T p.toInt.toNat u.toInt.toNat) {d : Nat} (hd : 2 < d) {Q : Option Value → gM → Prop} (hk : ∀ (M : gM) (k : Int32), frG M0 M → GTR T0 r0 (gfold (gTak T p.toInt.toNat u.toInt.toNat bI.toInt) (T 0 0).toNat σ0) M → G Γ μX6_goOn (g_R d) (0, 0) (g_Z Γ Q) 162 [some (.ref 300), some (.int p), some (.int who), some (.int bI), some (.int u), some (.int k)] [] M) : ∀ (n9 : Nat) (k : Int32) (M : gM), 6 - k.toInt.toNat = n9 → 0 ≤ k.toInt → k.toInt ≤ T 0 0 → frG M0 M → GTR T0 r0 (gfold (gTak T p.toInt.toNat u.toInt.toNat bI.toInt) k.toInt.toNat σ0) M → G Γ μX6_goOn (g_R d) (0, 0) (g_Z Γ Q) 102 [some (.ref 300), some (.int p), some (.int who), some (.int bI), some (.int u), some (.int k)] [] M := by
  intro n9
  induction n9 using Nat.strongRecOn with
  | ind n9 ih =>
    intro k M h9 hk0 hk1 hfr hG
    have hO := hI.1
    have e442 : M.1 442 = M0.1 442 := hfr.1 442 (by decide) (by decide) (by decide) (by decide) (by decide) (by decide)
    have hC := CR.g hC0 hfr
    have hW := WR.g hW0 hfr
    have hA : RW T (M.1 442) := by rw [e442]; exact hA0
    have hRX : RX T0 r0 (M.1 442) := by rw [e442]; exact hRX0
    obtain ⟨o_pe, o_th, o_la, o_wi, o_da, o_we, o_p, o_i⟩ := id hO
    obtain ⟨r_0, r_1, r_2, r_3, r_p, r_i⟩ := id hC
    have ep : ((2 ^ (T 0 1).toNat : Nat) : Int) = (2 : Int) ^ (T 0 1).toNat := by simp
    have hp12 : 2 ^ (T 0 1).toNat ≤ 2 ^ 12 := Nat.pow_le_pow_right (by decide) (by omega)
    have hp12e : (2 : Nat) ^ 12 = 4096 := rfl
    clear o_p o_i r_p r_i o_la o_da o_we
    obtain ⟨-, a_o, a_t, -⟩ := hA.1 p.toInt.toNat (by omega)
    have hle := gfold_le (f := (gTak T p.toInt.toNat u.toInt.toNat bI.toInt)) (fun u σ => gTak_le) k.toInt.toNat σ0
    have hcan : ¬ k.toInt.toNat = p.toInt.toNat → k.toInt < T 0 0 → canG T p.toInt.toNat u.toInt.toNat (sandT T p.toInt.toNat u.toInt.toNat) k.toInt.toNat := fun h1 h2 => by
      have h := (fit_can hO (by omega) hfit hI.2.2).1
      exact ⟨h.1, by omega, fun e => h1 e.symm, h.2.2.2⟩
    refine g_iload5 dX6_goOn_102 rfl ?_
    refine g_aload_n0 dX6_goOn_104 rfl ?_
    refine g_getr dX6_goOn_105 rfl fX6_25 hR.1 rfl ?_
    refine g_iconstI dX6_goOn_108 rfl rfl (fun w108 h108 => ?_)
    refine g_ialdI dX6_goOn_109 rfl (rf_told hR) ⟨by omega, by omega⟩ ?_
    have et109 : w108.toInt.toNat = 0 := by omega
    rw [et109]
    clear et109
    refine g_icmp_geI (t := 162) dX6_goOn_110 (by decide) rfl (fun c110 => ?_) (fun c110 => ?_)
    · -- 110 t
      exact hk M k hfr (by rw [show (T 0 0).toNat = k.toInt.toNat by omega]; exact hG)
    · -- 110 f
      refine g_iload5 dX6_goOn_113 rfl ?_
      refine g_iload_n1 dX6_goOn_115 rfl ?_
      refine g_icmp_eqI (t := 156) dX6_goOn_116 (by decide) rfl (fun c116 => ?_) (fun c116 => ?_)
      · -- 116 t
        have hskip : ¬ (¬ k.toInt.toNat = p.toInt.toNat ∧ (T 5 p.toInt.toNat = -1 ∨ T 5 p.toInt.toNat = (k.toInt.toNat : Int))) := fun h => h.1 (by omega)
        refine g_iincI5 dX6_goOn_156 rfl rfl rfl ⟨by omega, by omega⟩ (fun w156 h156 => ?_)
        refine g_goto (t := 102) dX6_goOn_159 (by decide) ?_
        have e1 : w156.toInt.toNat = k.toInt.toNat + 1 := by omega
        first
          | (have hz := hskip
             refine ih _ (by omega) _ _ rfl (by omega) (by omega) hfr ?_
             rw [e1]
             show GTR T0 r0 (gTak T p.toInt.toNat u.toInt.toNat bI.toInt k.toInt.toNat (gfold _ k.toInt.toNat σ0)) _
             rw [gTak, if_neg hz]; exact hG)
          | (have hz := hgo
             refine ih _ (by omega) _ _ rfl (by omega) (by omega) (frG.tr hfr e153.2) ?_
             rw [e1]
             show GTR T0 r0 (gTak T p.toInt.toNat u.toInt.toNat bI.toInt k.toInt.toNat (gfold _ k.toInt.toNat σ0)) _
             rw [gTak, if_pos hz]; exact e153.1)
      · -- 116 f
        refine g_aload_n0 dX6_goOn_119 rfl ?_
        refine g_getr dX6_goOn_120 rfl fX6_100 hR.1 rfl ?_
        refine g_bipushI dX6_goOn_123 rfl rfl (fun w123 h123 => ?_)
        refine g_iload_n1 dX6_goOn_125 rfl ?_
        refine g_iaddI dX6_goOn_126 rfl ⟨by omega, by omega⟩ (fun w126 h126 => ?_)
        refine g_ialdI dX6_goOn_127 rfl (rf_row hR) ⟨by omega, by omega⟩ ?_
        rw [show w126.toInt.toNat = 24 + p.toInt.toNat by omega]
        refine g_iconstI dX6_goOn_128 rfl rfl (fun w128 h128 => ?_)
        refine g_icmp_eqI (t := 146) dX6_goOn_129 (by decide) rfl (fun c129 => ?_) (fun c129 => ?_)
        · -- 129 t
          refine g_aload_n0 dX6_goOn_146 rfl ?_
          refine g_iload_n1 dX6_goOn_147 rfl ?_
          refine g_iload4 dX6_goOn_148 rfl ?_
          refine g_iload5 dX6_goOn_150 rfl ?_
          refine g_iload_n3 dX6_goOn_152 rfl ?_
          have hgo : ¬ k.toInt.toNat = p.toInt.toNat ∧ (T 5 p.toInt.toNat = -1 ∨ T 5 p.toInt.toNat = (k.toInt.toNat : Int)) := by omega
          refine g_callVv4 dX6_goOn_153 rfl vX6_365 hR.1 rfl (r_giveOn hR hG hI hX hC hW hA hRX ⟨hb.1, by omega⟩ hp hu hfit hk0 (hcan (by omega) (by omega))) (g_rm (by omega)) (Nat.le_of_ble_eq_true rfl) (fun M153 e153 => ?_)
          refine g_iincI5 dX6_goOn_156 rfl rfl rfl ⟨by omega, by omega⟩ (fun w156 h156 => ?_)
          refine g_goto (t := 102) dX6_goOn_159 (by decide) ?_
          have e1 : w156.toInt.toNat = k.toInt.toNat + 1 := by omega
          first
            | (have hz := hskip
               refine ih _ (by omega) _ _ rfl (by omega) (by omega) hfr ?_
               rw [e1]
               show GTR T0 r0 (gTak T p.toInt.toNat u.toInt.toNat bI.toInt k.toInt.toNat (gfold _ k.toInt.toNat σ0)) _
               rw [gTak, if_neg hz]; exact hG)
            | (have hz := hgo
               refine ih _ (by omega) _ _ rfl (by omega) (by omega) (frG.tr hfr e153.2) ?_
               rw [e1]
               show GTR T0 r0 (gTak T p.toInt.toNat u.toInt.toNat bI.toInt k.toInt.toNat (gfold _ k.toInt.toNat σ0)) _
               rw [gTak, if_pos hz]; exact e153.1)
        · -- 129 f
          refine g_aload_n0 dX6_goOn_132 rfl ?_
          refine g_getr dX6_goOn_133 rfl fX6_100 hR.1 rfl ?_
          refine g_bipushI dX6_goOn_136 rfl rfl (fun w136 h136 => ?_)
          refine g_iload_n1 dX6_goOn_138 rfl ?_
          refine g_iaddI dX6_goOn_139 rfl ⟨by omega, by omega⟩ (fun w139 h139 => ?_)
          refine g_ialdI dX6_goOn_140 rfl (rf_row hR) ⟨by omega, by omega⟩ ?_
          rw [show w139.toInt.toNat = 24 + p.toInt.toNat by omega]
          refine g_iload5 dX6_goOn_141 rfl ?_
          refine g_icmp_neI (t := 156) dX6_goOn_143 (by decide) rfl (fun c143 => ?_) (fun c143 => ?_)
          · -- 143 t
            have hskip : ¬ (¬ k.toInt.toNat = p.toInt.toNat ∧ (T 5 p.toInt.toNat = -1 ∨ T 5 p.toInt.toNat = (k.toInt.toNat : Int))) := fun h => by omega
            refine g_iincI5 dX6_goOn_156 rfl rfl rfl ⟨by omega, by omega⟩ (fun w156 h156 => ?_)
            refine g_goto (t := 102) dX6_goOn_159 (by decide) ?_
            have e1 : w156.toInt.toNat = k.toInt.toNat + 1 := by omega
            first
              | (have hz := hskip
                 refine ih _ (by omega) _ _ rfl (by omega) (by omega) hfr ?_
                 rw [e1]
                 show GTR T0 r0 (gTak T p.toInt.toNat u.toInt.toNat bI.toInt k.toInt.toNat (gfold _ k.toInt.toNat σ0)) _
                 rw [gTak, if_neg hz]; exact hG)
              | (have hz := hgo
                 refine ih _ (by omega) _ _ rfl (by omega) (by omega) (frG.tr hfr e153.2) ?_
                 rw [e1]
                 show GTR T0 r0 (gTak T p.toInt.toNat u.toInt.toNat bI.toInt k.toInt.toNat (gfold _ k.toInt.toNat σ0)) _
                 rw [gTak, if_pos hz]; exact e153.1)
          · -- 143 f
            refine g_aload_n0 dX6_goOn_146 rfl ?_
            refine g_iload_n1 dX6_goOn_147 rfl ?_
            refine g_iload4 dX6_goOn_148 rfl ?_
            refine g_iload5 dX6_goOn_150 rfl ?_
            refine g_iload_n3 dX6_goOn_152 rfl ?_
            have hgo : ¬ k.toInt.toNat = p.toInt.toNat ∧ (T 5 p.toInt.toNat = -1 ∨ T 5 p.toInt.toNat = (k.toInt.toNat : Int)) := by omega
            refine g_callVv4 dX6_goOn_153 rfl vX6_365 hR.1 rfl (r_giveOn hR hG hI hX hC hW hA hRX ⟨hb.1, by omega⟩ hp hu hfit hk0 (hcan (by omega) (by omega))) (g_rm (by omega)) (Nat.le_of_ble_eq_true rfl) (fun M153 e153 => ?_)
            refine g_iincI5 dX6_goOn_156 rfl rfl rfl ⟨by omega, by omega⟩ (fun w156 h156 => ?_)
            refine g_goto (t := 102) dX6_goOn_159 (by decide) ?_
            have e1 : w156.toInt.toNat = k.toInt.toNat + 1 := by omega
            first
              | (have hz := hskip
                 refine ih _ (by omega) _ _ rfl (by omega) (by omega) hfr ?_
                 rw [e1]
                 show GTR T0 r0 (gTak T p.toInt.toNat u.toInt.toNat bI.toInt k.toInt.toNat (gfold _ k.toInt.toNat σ0)) _
                 rw [gTak, if_neg hz]; exact hG)
              | (have hz := hgo
                 refine ih _ (by omega) _ _ rfl (by omega) (by omega) (frG.tr hfr e153.2) ?_
                 rw [e1]
                 show GTR T0 r0 (gTak T p.toInt.toNat u.toInt.toNat bI.toInt k.toInt.toNat (gfold _ k.toInt.toNat σ0)) _
                 rw [gTak, if_pos hz]; exact e153.1)
