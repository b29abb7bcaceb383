set_option maxHeartbeats 1200000 in
theorem r_answerOn {Γ : gW} {M : gM} {T : gTw} (hR : g_Ref Γ) (hI : INV T) {W r d n dn : Nat} (hd : 2 ≤ d) (hH : WOC Γ W r d) (hnr : n + (r + 1) = W) (hW6 : W ≤ 6) (hdn : dn < 64) {nI dI p : Int32} (hn : nI.toInt = (n : Int)) (hdI : dI.toInt = (dn : Int)) (hp : 0 ≤ p.toInt ∧ p.toInt < T 0 0) (hK0 : WKC T W M) (hA0 : RW T (fun j => M.1 426 (30 * n + j))) {σ : gWk} (hWk : WKR σ M)  : Ct Γ yX6_answerOn μX6_answerOn (d + 1) [.ref 300, .int nI, .int dI, .int p] M (g_qv (fun M1 => WKR (wkAns (fun T1 s1 => wkOn r T1 (dn ||| 2 ^ p.toInt.toNat) (n + 1) s1) T p.toInt.toNat σ) M1 ∧ frW n M M1)) := by
  refine g_enter rfl rfl rfl (Nat.le_of_ble_eq_true rfl) ?_
  show G Γ _ _ _ _ 0 [some (.ref 300), some (.int nI), some (.int dI), some (.int p), none, none, none, none] [] M
  refine g_iconstI dX6_answerOn_0 rfl rfl (fun w0 h0 => ?_)
  refine g_istore4 dX6_answerOn_1 rfl rfl ?_
  exact l_ansOn hR hI hd hH hnr hW6 hdn hn hdI hp hK0 hA0 (fun M1 h1 h2 => ⟨rfl, h1, h2⟩) _ _ _ _ _ _ rfl (by omega) (by rw [h0]; exact Int.le_of_lt (by have := two_pos (T 0 1).toNat; omega)) (by rw [h0]; exact hWk) frW.rf rfl rfl rfl
theorem WKR.mo {σ : gWk} {M : gM} {x : Int32} {n : Nat} (h : WKR σ M) (hn : n ≤ 6) (hx : x.toInt = mx σ.2.1 (n : Int)) : WKR (σ.1, mx σ.2.1 (n : Int), σ.2.2) (g_u M 300 35 x) := by
  obtain ⟨⟨a, b, c⟩, d, e, f, g, h⟩ := h
  refine ⟨⟨a, by show 0 ≤ mx _ _ ∧ mx _ _ ≤ 6; rw [mx]; split <;> omega, c⟩, ?_, ?_, ?_, ?_, ?_⟩
  · rw [g_u_eq, if_neg (by decide)]; exact d
  · rw [g_u_eq, if_pos rfl]; exact hx
  · rw [g_u_eq, if_neg (by decide)]; exact f
  · rw [g_u_eq, if_neg (by decide)]; exact g
  · rw [g_u_ne (by decide)]; exact h
theorem WKR.all {σ : gWk} {M : gM} {x : Int32} (h : WKR σ M) (hx : x.toInt = 1) (h0 : σ.2.2.2 = 0) : WKR (σ.1, σ.2.1, σ.2.2.1, 1) (g_u M 300 37 x) := by
  obtain ⟨⟨a, b, c⟩, d, e, f, g, h⟩ := h
  refine ⟨⟨a, b, Or.inr (Or.inl rfl)⟩, ?_, ?_, ?_, ?_, ?_⟩
  · rw [g_u_eq, if_neg (by decide)]; exact d
  · rw [g_u_eq, if_neg (by decide)]; exact e
  · rw [g_u_eq, if_neg (by decide), f, if_neg (by omega)]; rfl
  · rw [g_u_eq, if_pos rfl]; exact hx
  · rw [g_u_ne (by decide)]; exact h
theorem WKR.or {σ : gWk} {M : gM} {x : Int32} {n p : Nat} (h : WKR σ M) (hn : n < 6) (hx : x.toInt = (p : Int)) : WKR (σ.1, σ.2.1, (fun i => if i = n then (p : Int) else σ.2.2.1 i), σ.2.2.2) (g_u M 430 n x) := by
  obtain ⟨a, d, e, f, g, h⟩ := h
  refine ⟨a, d, e, f, g, fun i hi => ?_⟩
  show _ = if i = n then (p : Int) else σ.2.2.1 i
  rw [g_u_eq]
  by_cases h1 : i = n
  · rw [if_pos h1, if_pos h1]; exact hx
  · rw [if_neg h1, if_neg h1]; exact h i hi
theorem wkPer_no {on : Nat → gTw → gWk → gWk} {T : gTw} {dn n p : Nat} {σ : gWk} (h : ¬ (σ.2.2.2 = 0 ∧ ¬ T 4 p = 0 ∧ dn.testBit p = false)) : wkPer on T dn n p σ = σ := if_neg h
theorem wkPer_yes {on : Nat → gTw → gWk → gWk} {T : gTw} {dn n p : Nat} {σ : gWk} (h : σ.2.2.2 = 0 ∧ ¬ T 4 p = 0 ∧ dn.testBit p = false) : wkPer on T dn n p σ = wkAns (on (dn ||| 2 ^ p)) T p (σ.1, σ.2.1, (fun i => if i = n then (p : Int) else σ.2.2.1 i), σ.2.2.2) := if_pos h
set_option maxHeartbeats 1200000 in
theorem l_wkOn {Γ : gW} {M0 : gM} {T : gTw} (hR : g_Ref Γ) (hI : INV T) {W r d n dn : Nat} (hd : 2 ≤ d) (hH : WOC Γ W r d) (hnr : n + (r + 1) = W) (hW6 : W ≤ 6) (hdn : dn < 64) {nI dI : Int32} (hn : nI.toInt = (n : Int)) (hdI : dI.toInt = (dn : Int)) (hK0 : WKC T W M0) (hA0 : RW T (fun j => M0.1 426 (30 * n + j))) {σ0 : gWk} {Q : Option Value → gM → Prop} (hQ : ∀ M : gM, WKR (wfold (wkPer (fun dn1 T1 s1 => wkOn r T1 dn1 (n + 1) s1) T dn n) (T 0 0).toNat σ0) M → frW n M0 M → Q none M) : ∀ (n9 : Nat) (p : Int32) (M : gM), 6 - p.toInt.toNat = n9 → 0 ≤ p.toInt → p.toInt ≤ T 0 0 → WKR (wfold (wkPer (fun dn1 T1 s1 => wkOn r T1 dn1 (n + 1) s1) T dn n) p.toInt.toNat σ0) M → frW n M0 M → G Γ μX6_weekOn (g_R (d + 2)) (0, 0) (g_Z Γ Q) 28 [some (.ref 300), some (.int nI), some (.int dI), some (.int p)] [] M := by
  intro n9
  induction n9 using Nat.strongRecOn with
  | ind n9 ih =>
    intro p M h9 hp0 hp1 hWk hfr
    have hO := hI.1
    have hK := WKC.fr hK0 hfr
    have hC := hK.1
    have hA1 : RW T (fun j => M.1 426 (30 * n + j)) := RW.ext hO hA0 (fun j hj => hfr.2.2.2 _ (by omega))
    obtain ⟨o_pe, o_th, o_la, o_wi, o_da, o_we, o_p, o_i⟩ := id hO
    obtain ⟨r_0, r_1, r_2, r_3, r_p, r_i⟩ := id hC
    clear o_p o_i r_p r_i o_la o_da o_we
    refine g_iload_n3 dX6_weekOn_28 rfl ?_
    refine g_aload_n0 dX6_weekOn_29 rfl ?_
    refine g_getr dX6_weekOn_30 rfl fX6_25 hR.1 rfl ?_
    refine g_iconstI dX6_weekOn_33 rfl rfl (fun w33 h33 => ?_)
    refine g_ialdI dX6_weekOn_34 rfl (rf_told hR) ⟨by omega, by omega⟩ ?_
    have et34 : w33.toInt.toNat = 0 := by omega
    rw [et34]
    clear et34
    refine g_icmp_geI (t := 93) dX6_weekOn_35 (by decide) rfl (fun c35 => ?_) (fun c35 => ?_)
    · -- 35 t
      refine g_vret dX6_weekOn_93 rfl ?_
      exact hQ _ (by
        have ht := wfold_tail (f := (wkPer (fun dn1 T1 s1 => wkOn r T1 dn1 (n + 1) s1) T dn n)) (i := p.toInt.toNat) (σ := σ0) (T 0 0).toNat (by omega) (fun u hu hu2 => wkPer_no (fun hh => by omega))
        rw [ht]; exact hWk) hfr
    · -- 35 f
      refine g_aload_n0 dX6_weekOn_38 rfl ?_
      refine g_geti dX6_weekOn_39 rfl fX6_327 hR.1 rfl ?_
      refine g_if_neI (t := 93) dX6_weekOn_42 (by decide) rfl (fun c42 => ?_) (fun c42 => ?_)
      · -- 42 t
        refine g_vret dX6_weekOn_93 rfl ?_
        exact hQ _ (by
          have ht := wfold_tail (f := (wkPer (fun dn1 T1 s1 => wkOn r T1 dn1 (n + 1) s1) T dn n)) (i := p.toInt.toNat) (σ := σ0) (T 0 0).toNat (by omega) (fun u hu hu2 => wkPer_no (fun hh => WKR.fin1 hWk (Or.inl c42) hh.1))
          rw [ht]; exact hWk) hfr
      · -- 42 f
        refine g_aload_n0 dX6_weekOn_45 rfl ?_
        refine g_geti dX6_weekOn_46 rfl fX6_330 hR.1 rfl ?_
        refine g_if_neI (t := 93) dX6_weekOn_49 (by decide) rfl (fun c49 => ?_) (fun c49 => ?_)
        · -- 49 t
          refine g_vret dX6_weekOn_93 rfl ?_
          exact hQ _ (by
            have ht := wfold_tail (f := (wkPer (fun dn1 T1 s1 => wkOn r T1 dn1 (n + 1) s1) T dn n)) (i := p.toInt.toNat) (σ := σ0) (T 0 0).toNat (by omega) (fun u hu hu2 => wkPer_no (fun hh => WKR.fin1 hWk (Or.inr c49) hh.1))
            rw [ht]; exact hWk) hfr
        · -- 49 f
          have hfin := WKR.fin0 hWk (by omega) (by omega)
          have how := (hK.2.2.2 p.toInt.toNat (by omega) (by omega)).1
          refine g_aload_n0 dX6_weekOn_52 rfl ?_
          refine g_getr dX6_weekOn_53 rfl fX6_73 hR.1 rfl ?_
          refine g_iload_n3 dX6_weekOn_56 rfl ?_
          refine g_ialdI dX6_weekOn_57 rfl (rf_weekOwes hR) ⟨by omega, by omega⟩ ?_
          refine g_if_eqI (t := 87) dX6_weekOn_58 (by decide) rfl (fun c58 => ?_) (fun c58 => ?_)
          · -- 58 t
            have hskip : ¬ (¬ T 4 p.toInt.toNat = 0 ∧ dn.testBit p.toInt.toNat = false) := fun h => h.1 (by omega)
            refine g_iincI3 dX6_weekOn_87 rfl rfl rfl ⟨by omega, by omega⟩ (fun w87 h87 => ?_)
            refine g_goto (t := 28) dX6_weekOn_90 (by decide) ?_
            have e1 : w87.toInt.toNat = p.toInt.toNat + 1 := by omega
            first
              | (have hz := hskip
                 refine ih _ (by omega) _ _ rfl (by omega) (by omega) ?_ hfr
                 rw [e1]
                 show WKR (wkPer _ T dn n p.toInt.toNat (wfold _ p.toInt.toNat σ0)) _
                 rw [wkPer_no (fun hh => hz hh.2)]
                 exact hWk)
              | (have hz := hWk3
                 refine ih _ (by omega) _ _ rfl (by omega) (by omega) ?_ (frW.tr hfr (frW.tr hfr2 hfr3 (Nat.le_refl _)) (Nat.le_refl _))
                 rw [e1]
                 show WKR (wkPer _ T dn n p.toInt.toNat (wfold _ p.toInt.toNat σ0)) _
                 rw [wkPer_yes ⟨hfin, hgo⟩]
                 exact hWk3)
          · -- 58 f
            refine g_iload_n2 dX6_weekOn_61 rfl ?_
            refine g_iload_n3 dX6_weekOn_62 rfl ?_
            refine g_ishrB dX6_weekOn_63 rfl ⟨by omega, by omega, by omega⟩ (fun w63 h63 => ?_)
            refine g_iconstI dX6_weekOn_64 rfl rfl (fun w64 h64 => ?_)
            refine g_iandB dX6_weekOn_65 rfl  (fun w65 h65 => ?_)
            have hbit := bit_and1 dn p.toInt.toNat
            rw [h63, bn_lit (n := 1) h64, bn_lit hdI, hbit] at h65
            have h65c : w65.toInt = if dn.testBit p.toInt.toNat then 1 else 0 := by
              rw [i_bn (by rw [h65]; split <;> omega), h65]; split <;> rfl
            clear hbit h65
            refine g_iconstI dX6_weekOn_66 rfl rfl (fun w66 h66 => ?_)
            refine g_icmp_neI (t := 73) dX6_weekOn_67 (by decide) rfl (fun c67 => ?_) (fun c67 => ?_)
            · -- 67 t
              have hgo : ¬ T 4 p.toInt.toNat = 0 ∧ dn.testBit p.toInt.toNat = false := ⟨by omega, by
                cases hb : dn.testBit p.toInt.toNat
                · rfl
                · rw [hb, if_pos rfl] at h65c; omega⟩
              clear h65c
              refine g_aload_n0 dX6_weekOn_73 rfl ?_
              refine g_getr dX6_weekOn_74 rfl fX6_79 hR.1 rfl ?_
              refine g_iload_n1 dX6_weekOn_77 rfl ?_
              refine g_iload_n3 dX6_weekOn_78 rfl ?_
              refine g_iastI dX6_weekOn_79 rfl (rf_orderTry hR) ⟨by omega, by omega⟩ ?_
              rw [show nI.toInt.toNat = n by omega]
              obtain ⟨M2, hM2⟩ : ∃ M2, M2 = g_u M 430 n p := ⟨_, rfl⟩
              refine g_fwd (M1 := M2) ?_ hM2
              have hfr2 : frW n M M2 := by
                rw [hM2]
                exact ⟨fun j a b c d => by rw [g_u_ne d], rfl, fun _ _ _ _ _ => rfl, fun _ _ => rfl⟩
              have hWk2 := WKR.or (x := p) (n := n) (p := p.toInt.toNat) hWk (by omega) (by omega)
              rw [← hM2] at hWk2
              have hK2 := WKC.fr hK hfr2
              have hA2 : RW T (fun j => M2.1 426 (30 * n + j)) := RW.ext hO hA1 (fun j hj => hfr2.2.2.2 _ (by omega))
              refine g_aload_n0 dX6_weekOn_80 rfl ?_
              refine g_iload_n1 dX6_weekOn_81 rfl ?_
              refine g_iload_n2 dX6_weekOn_82 rfl ?_
              refine g_iload_n3 dX6_weekOn_83 rfl ?_
              refine g_callVv3 dX6_weekOn_84 rfl vX6_333 hR.1 rfl (r_answerOn hR hI hd hH hnr hW6 hdn hn hdI ⟨hp0, by omega⟩ hK2 hA2 hWk2) (g_rm (by omega)) (Nat.le_of_ble_eq_true rfl) (fun M84 e84 => ?_)
              obtain ⟨hWk3, hfr3⟩ := e84
              refine g_iincI3 dX6_weekOn_87 rfl rfl rfl ⟨by omega, by omega⟩ (fun w87 h87 => ?_)
              refine g_goto (t := 28) dX6_weekOn_90 (by decide) ?_
              have e1 : w87.toInt.toNat = p.toInt.toNat + 1 := by omega
              first
                | (have hz := hskip
                   refine ih _ (by omega) _ _ rfl (by omega) (by omega) ?_ hfr
                   rw [e1]
                   show WKR (wkPer _ T dn n p.toInt.toNat (wfold _ p.toInt.toNat σ0)) _
                   rw [wkPer_no (fun hh => hz hh.2)]
                   exact hWk)
                | (have hz := hWk3
                   refine ih _ (by omega) _ _ rfl (by omega) (by omega) ?_ (frW.tr hfr (frW.tr hfr2 hfr3 (Nat.le_refl _)) (Nat.le_refl _))
                   rw [e1]
                   show WKR (wkPer _ T dn n p.toInt.toNat (wfold _ p.toInt.toNat σ0)) _
                   rw [wkPer_yes ⟨hfin, hgo⟩]
                   exact hWk3)
            · -- 67 f
              have hskip : ¬ (¬ T 4 p.toInt.toNat = 0 ∧ dn.testBit p.toInt.toNat = false) := fun h => by rw [h.2, if_neg (by decide)] at h65c; omega
              refine g_goto (t := 87) dX6_weekOn_70 (by decide) ?_
              refine g_iincI3 dX6_weekOn_87 rfl rfl rfl ⟨by omega, by omega⟩ (fun w87 h87 => ?_)
              refine g_goto (t := 28) dX6_weekOn_90 (by decide) ?_
              have e1 : w87.toInt.toNat = p.toInt.toNat + 1 := by omega
              first
                | (have hz := hskip
                   refine ih _ (by omega) _ _ rfl (by omega) (by omega) ?_ hfr
                   rw [e1]
                   show WKR (wkPer _ T dn n p.toInt.toNat (wfold _ p.toInt.toNat σ0)) _
                   rw [wkPer_no (fun hh => hz hh.2)]
                   exact hWk)
                | (have hz := hWk3
                   refine ih _ (by omega) _ _ rfl (by omega) (by omega) ?_ (frW.tr hfr (frW.tr hfr2 hfr3 (Nat.le_refl _)) (Nat.le_refl _))
                   rw [e1]
                   show WKR (wkPer _ T dn n p.toInt.toNat (wfold _ p.toInt.toNat σ0)) _
                   rw [wkPer_yes ⟨hfin, hgo⟩]
                   exact hWk3)
set_option maxHeartbeats 1200000 in
theorem r_weekOn {Γ : gW} (hR : g_Ref Γ) (W : Nat) : ∀ r, WOC Γ W r (2 * r + 2) := by
  intro r
  induction r with
  | zero =>
    intro T dn n nI dI σ M hnr hW6 hdn hn hdI hI hK hA hWk hf0
    have hm := hWk.1.2.1
    have h33 := hK.2.2.1
    refine g_enter rfl rfl rfl (Nat.le_of_ble_eq_true rfl) ?_
    show G Γ _ _ _ _ 0 [some (.ref 300), some (.int nI), some (.int dI), none] [] M
    refine g_aload_n0 dX6_weekOn_0 rfl ?_
    refine g_aload_n0 dX6_weekOn_1 rfl ?_
    refine g_geti dX6_weekOn_2 rfl fX6_321 hR.1 rfl ?_
    refine g_iload_n1 dX6_weekOn_5 rfl ?_
    refine g_mmaxI dX6_weekOn_6 rfl jX6_282 jm_max_s jm_i jm_max_c ⟨by show 1 ≤ _ + 1; omega, by show _ ≤ 40 + 50 * _; simp [Value.category] <;> omega⟩  (fun w6 h6 => ?_)
    refine g_put dX6_weekOn_9 rfl fX6_321 hR.1 rfl rfl rfl ?_
    have hWk1 := WKR.mo (x := w6) (n := n) hWk (by omega) (by rw [h6, mx, hWk.2.2.1, hn])
    refine g_iload_n1 dX6_weekOn_12 rfl ?_
    refine g_aload_n0 dX6_weekOn_13 rfl ?_
    refine g_geti dX6_weekOn_14 rfl fX6_324 hR.1 rfl ?_
    refine g_icmp_neI (t := 26) dX6_weekOn_17 (by decide) rfl (fun c17 => absurd c17 (fun h => h (by rw [g_u_eq, if_neg (by decide)]; omega))) (fun c17 => ?_)
    refine g_aload_n0 dX6_weekOn_20 rfl ?_
    refine g_iconst (v := 1) dX6_weekOn_21 rfl rfl ?_
    refine g_put dX6_weekOn_22 rfl fX6_327 hR.1 rfl rfl rfl ?_
    refine g_vret dX6_weekOn_25 rfl ?_
    refine ⟨rfl, WKR.all (x := 1) hWk1 rfl hf0, fun j a b c d => ?_, rfl, fun k a b c d => ?_, fun k hk => rfl⟩
    · rw [g_u_ne a, g_u_ne a]
    · rw [g_u_eq, if_neg d, g_u_eq, if_neg b]
  | succ r ih =>
    intro T dn n nI dI σ M hnr hW6 hdn hn hdI hI hK hA hWk hf0
    have hm := hWk.1.2.1
    have h33 := hK.2.2.1
    refine g_enter rfl rfl rfl (Nat.le_of_ble_eq_true rfl) ?_
    show G Γ _ _ _ _ 0 [some (.ref 300), some (.int nI), some (.int dI), none] [] M
    refine g_aload_n0 dX6_weekOn_0 rfl ?_
    refine g_aload_n0 dX6_weekOn_1 rfl ?_
    refine g_geti dX6_weekOn_2 rfl fX6_321 hR.1 rfl ?_
    refine g_iload_n1 dX6_weekOn_5 rfl ?_
    refine g_mmaxI dX6_weekOn_6 rfl jX6_282 jm_max_s jm_i jm_max_c ⟨by show 1 ≤ _ + 1; omega, by show _ ≤ 40 + 50 * _; simp [Value.category] <;> omega⟩  (fun w6 h6 => ?_)
    refine g_put dX6_weekOn_9 rfl fX6_321 hR.1 rfl rfl rfl ?_
    have hWk1 := WKR.mo (x := w6) (n := n) hWk (by omega) (by rw [h6, mx, hWk.2.2.1, hn])
    refine g_iload_n1 dX6_weekOn_12 rfl ?_
    refine g_aload_n0 dX6_weekOn_13 rfl ?_
    refine g_geti dX6_weekOn_14 rfl fX6_324 hR.1 rfl ?_
    refine g_icmp_neI (t := 26) dX6_weekOn_17 (by decide) rfl (fun c17 => ?_) (fun c17 => absurd c17 (fun h => absurd h (by rw [g_u_eq, if_neg (by decide)]; omega)))
    refine g_iconstI dX6_weekOn_26 rfl rfl (fun w26 h26 => ?_)
    refine g_istore_n3 dX6_weekOn_27 rfl rfl ?_
    have hfr1 : frW n M (g_u M 300 35 w6) := ⟨fun j a b c d => by rw [g_u_ne a], rfl, fun k a b c d => by rw [g_u_eq, if_neg b], fun k hk => rfl⟩
    have hp := hI.1.1
    exact l_wkOn hR hI (by omega) ih hnr hW6 hdn hn hdI (WKC.fr hK hfr1) (RW.ext hI.1 hA (fun j hj => hfr1.2.2.2 _ (by omega))) (fun M1 h1 h2 => ⟨rfl, h1, frW.tr hfr1 h2 (Nat.le_refl _)⟩) _ _ _ rfl (by omega) (by omega) (by rw [h26]; exact hWk1) frW.rf
