/-- weekOn's contract with r people left to answer -/
def WOC (Γ : gW) (W r d : Nat) : Prop := ∀ (T : gTw) (dn n : Nat) (nI dI : Int32) (σ : gWk) (M : gM), n + r = W → W ≤ 6 → dn < 64 → nI.toInt = (n : Int) → dI.toInt = (dn : Int) → INV T → WKC T W M → RW T (fun j => M.1 426 (30 * n + j)) → WKR σ M → σ.2.2.2 = 0 → Ct Γ yX6_weekOn μX6_weekOn d [.ref 300, .int nI, .int dI] M (g_qv (fun M1 => WKR (wkOn r T dn n σ) M1 ∧ frW n M M1))
theorem WKR.m427 {σ : gWk} {M : gM} {f : Nat → Int32} (h : WKR σ M) : WKR σ (g_row M 427 f) := h
theorem WKR.lay {σ : gWk} {M : gM} {b i : Nat} (h : WKR σ M) : WKR σ (layI M b i) := h
theorem WKR.tr {σ : gWk} {M : gM} {x : Int32} (h : WKR σ M) (hx : x.toInt = σ.1 + 1) (h2 : ¬ σ.1 = 20000) : WKR (σ.1 + 1, σ.2) (g_u M 300 34 x) := by
  obtain ⟨⟨a, b, c⟩, d, e, f, g, h⟩ := h
  refine ⟨⟨by show 0 ≤ σ.1 + 1 ∧ σ.1 + 1 ≤ 20000; omega, b, c⟩, ?_, ?_, ?_, ?_, ?_⟩
  · rw [g_u_eq, if_pos rfl]; exact hx
  · rw [g_u_eq, if_neg (by decide)]; exact e
  · rw [g_u_eq, if_neg (by decide)]; exact f
  · rw [g_u_eq, if_neg (by decide)]; exact g
  · rw [g_u_ne (by decide)]; exact h
theorem WKR.sp {σ : gWk} {M : gM} {x : Int32} (h : WKR σ M) (hx : x.toInt = 1) (h0 : σ.2.2.2 = 0) : WKR (σ.1, σ.2.1, σ.2.2.1, 2) (g_u M 300 36 x) := by
  obtain ⟨⟨a, b, c⟩, d, e, f, g, h⟩ := h
  refine ⟨⟨a, b, Or.inr (Or.inr rfl)⟩, ?_, ?_, ?_, ?_, ?_⟩
  · rw [g_u_eq, if_neg (by decide)]; exact d
  · rw [g_u_eq, if_neg (by decide)]; exact e
  · rw [g_u_eq, if_pos rfl]; exact hx
  · rw [g_u_eq, if_neg (by decide), g, if_neg (by omega)]; rfl
  · rw [g_u_ne (by decide)]; exact h
theorem WKR.fin0 {σ : gWk} {M : gM} (h : WKR σ M) (h1 : (M.1 300 37).toInt = 0) (h2 : (M.1 300 36).toInt = 0) : σ.2.2.2 = 0 := by
  obtain ⟨⟨a, b, c⟩, d, e, f, g, h⟩ := h
  rcases c with c | c | c
  · exact c
  · rw [if_pos c] at g; omega
  · rw [if_pos c] at f; omega
theorem WKR.fin1 {σ : gWk} {M : gM} (h : WKR σ M) (h1 : ¬ (M.1 300 37).toInt = 0 ∨ ¬ (M.1 300 36).toInt = 0) : ¬ σ.2.2.2 = 0 := by
  obtain ⟨⟨a, b, c⟩, d, e, f, g, h⟩ := h
  intro h0
  rw [if_neg (by omega)] at f g
  omega
set_option maxHeartbeats 1200000 in
theorem l_ansOn {Γ : gW} {M0 : gM} {T : gTw} (hR : g_Ref Γ) (hI : INV T) {W r d n dn : Nat} (hd : 2 ≤ d) (hH : WOC Γ W r d) (hnr : n + (r + 1) = W) (hW6 : W ≤ 6) (hdn : dn < 64) {nI dI p : Int32} (hn : nI.toInt = (n : Int)) (hdI : dI.toInt = (dn : Int)) (hp : 0 ≤ p.toInt ∧ p.toInt < T 0 0) (hK0 : WKC T W M0) (hA0 : RW T (fun j => M0.1 426 (30 * n + j))) {σ0 : gWk} {Q : Option Value → gM → Prop} (hQ : ∀ M : gM, WKR (wfold (wkSet (fun T1 s1 => wkOn r T1 (dn ||| 2 ^ p.toInt.toNat) (n + 1) s1) T p.toInt.toNat) 4096 σ0) M → frW n M0 M → Q none M) : ∀ (n9 : Nat) (s : Int32) (z5 z6 z7 : Option Value) (M : gM), 4096 - s.toInt.toNat = n9 → 0 ≤ s.toInt → s.toInt ≤ (2 : Int) ^ (T 0 1).toNat → WKR (wfold (wkSet (fun T1 s1 => wkOn r T1 (dn ||| 2 ^ p.toInt.toNat) (n + 1) s1) T p.toInt.toNat) s.toInt.toNat σ0) M → frW n M0 M → g_c1 z5 = true → g_c1 z6 = true → g_c1 z7 = true → G Γ μX6_answerOn (g_R (d + 1)) (0, 0) (g_Z Γ Q) 3 [some (.ref 300), some (.int nI), some (.int dI), some (.int p), some (.int s), z5, z6, z7] [] M := by
  intro n9
  induction n9 using Nat.strongRecOn with
  | ind n9 ih =>
    intro s z5 z6 z7 M h9 hs0 hs1 hWk hfr hc5 hc6 hc7
    have hO := hI.1
    have hK := WKC.fr hK0 hfr
    have hC := hK.1
    have hA1 : RW T (fun j => M.1 426 (30 * n + j)) := RW.ext hO hA0 (fun j hj => hfr.2.2.2 _ (by omega))
    obtain ⟨o_pe, o_th, o_la, o_wi, o_da, o_we, o_p, o_i⟩ := id hO
    obtain ⟨r_0, r_1, r_2, r_3, r_p, r_i⟩ := id hC
    have ep : ((2 ^ (T 0 1).toNat : Nat) : Int) = (2 : Int) ^ (T 0 1).toNat := by simp
    have hp12 : 2 ^ (T 0 1).toNat ≤ 2 ^ 12 := Nat.pow_le_pow_right (by decide) (by omega)
    have hp12e : (2 : Nat) ^ 12 = 4096 := rfl
    clear o_p o_i r_p r_i o_la o_da o_we
    refine g_iload4 dX6_answerOn_3 rfl ?_
    refine g_iconstI dX6_answerOn_5 rfl rfl (fun w5 h5 => ?_)
    refine g_aload_n0 dX6_answerOn_6 rfl ?_
    refine g_getr dX6_answerOn_7 rfl fX6_25 hR.1 rfl ?_
    refine g_iconstI dX6_answerOn_10 rfl rfl (fun w10 h10 => ?_)
    refine g_ialdI dX6_answerOn_11 rfl (rf_told hR) ⟨by omega, by omega⟩ ?_
    have et11 : w10.toInt.toNat = 1 := by omega
    rw [et11]
    clear et11
    refine g_ishlB dX6_answerOn_12 rfl ⟨by omega, by omega⟩ (fun w12 h12 => ?_)
    have hpw : 2 ^ (M.1 402 1).toInt.toNat < 4294967296 := by rw [r_1]; omega
    rw [bn_lit (n := 1) h5, Nat.shiftLeft_eq, Nat.one_mul, Nat.mod_eq_of_lt hpw, r_1] at h12
    have e12 : w12.toInt = (2 : Int) ^ (T 0 1).toNat := by rw [i_bn (by omega), h12, ep]
    refine g_icmp_geI (t := 230) dX6_answerOn_13 (by decide) rfl (fun c13 => ?_) (fun c13 => ?_)
    · -- 13 t
      refine g_vret dX6_answerOn_230 rfl ?_
      exact hQ _ (by
        have ht := wfold_tail (f := (wkSet (fun T1 s1 => wkOn r T1 (dn ||| 2 ^ p.toInt.toNat) (n + 1) s1) T p.toInt.toNat)) (i := s.toInt.toNat) (σ := σ0) 4096 (by omega) (fun u hu _ => wkSet_no (fun hh => by
          have h2 : hasT T p.toInt.toNat < 2 ^ (T 0 1).toNat := by rw [← RW.has hA1 (p := p.toInt.toNat) (by omega)]; exact gat_lt _ _
          have h3 := sub_le hh.2.2.1
          omega))
        rw [ht]; exact hWk) hfr
    · -- 13 f
      refine g_aload_n0 dX6_answerOn_16 rfl ?_
      refine g_geti dX6_answerOn_17 rfl fX6_327 hR.1 rfl ?_
      refine g_if_neI (t := 230) dX6_answerOn_20 (by decide) rfl (fun c20 => ?_) (fun c20 => ?_)
      · -- 20 t
        refine g_vret dX6_answerOn_230 rfl ?_
        exact hQ _ (by
          have ht := wfold_tail (f := (wkSet (fun T1 s1 => wkOn r T1 (dn ||| 2 ^ p.toInt.toNat) (n + 1) s1) T p.toInt.toNat)) (i := s.toInt.toNat) (σ := σ0) 4096 (by omega) (fun u hu _ => wkSet_no (fun hh => WKR.fin1 hWk (Or.inl c20) hh.1))
          rw [ht]; exact hWk) hfr
      · -- 20 f
        refine g_aload_n0 dX6_answerOn_23 rfl ?_
        refine g_geti dX6_answerOn_24 rfl fX6_330 hR.1 rfl ?_
        refine g_if_neI (t := 230) dX6_answerOn_27 (by decide) rfl (fun c27 => ?_) (fun c27 => ?_)
        · -- 27 t
          refine g_vret dX6_answerOn_230 rfl ?_
          exact hQ _ (by
            have ht := wfold_tail (f := (wkSet (fun T1 s1 => wkOn r T1 (dn ||| 2 ^ p.toInt.toNat) (n + 1) s1) T p.toInt.toNat)) (i := s.toInt.toNat) (σ := σ0) 4096 (by omega) (fun u hu _ => wkSet_no (fun hh => WKR.fin1 hWk (Or.inr c27) hh.1))
            rw [ht]; exact hWk) hfr
        · -- 27 f
          have hfin := WKR.fin0 hWk (by omega) (by omega)
          refine g_aload_n0 dX6_answerOn_30 rfl ?_
          refine g_iload_n1 dX6_answerOn_31 rfl ?_
          refine g_callVv1 dX6_answerOn_32 rfl vX6_337 hR.1 rfl (r_loadRow hR hn (by omega)) (g_rm (by omega)) (Nat.le_of_ble_eq_true rfl) (fun M32 e32 => ?_)
          obtain ⟨M2, hM2⟩ : ∃ M2, M2 = M32 := ⟨_, rfl⟩
          rw [← hM2] at e32 ⊢
          clear hM2
          have hWk2 : WKR (wfold (wkSet (fun T1 s1 => wkOn r T1 (dn ||| 2 ^ p.toInt.toNat) (n + 1) s1) T p.toInt.toNat) s.toInt.toNat σ0) M2 := by rw [e32, rowI]; exact WKR.m427 hWk
          have hfr2 : frW n M M2 := by
            rw [e32]
            exact ⟨fun j a b c d => by rw [rowI_ne c], rfl, fun _ _ _ _ _ => rfl, fun _ _ => rfl⟩
          have hA : RW T (M2.1 427) := RW.ext hO hA1 (fun j hj => by rw [e32, rowI_at, if_pos hj])
          have hC2 := (WKC.fr hK hfr2).1
          have hW2 := (WKC.fr hK hfr2).2.1
          have how : (M2.1 428 p.toInt.toNat).toInt = T 4 p.toInt.toNat := by rw [hfr2.1 428 (by decide) (by decide) (by decide) (by decide)]; exact (hK.2.2.2 p.toInt.toNat (by omega) (by omega)).1
          clear e32
          refine g_aload_n0 dX6_answerOn_35 rfl ?_
          refine g_aload_n0 dX6_answerOn_36 rfl ?_
          refine g_getr dX6_answerOn_37 rfl fX6_70 hR.1 rfl ?_
          refine g_iload_n3 dX6_answerOn_40 rfl ?_
          refine g_iload4 dX6_answerOn_41 rfl ?_
          refine g_aload_n0 dX6_answerOn_43 rfl ?_
          refine g_getr dX6_answerOn_44 rfl fX6_73 hR.1 rfl ?_
          refine g_iload_n3 dX6_answerOn_47 rfl ?_
          refine g_ialdI dX6_answerOn_48 rfl (rf_weekOwes hR) ⟨by omega, by omega⟩ ?_
          refine g_callVi4 dX6_answerOn_49 rfl vX6_297 hR.1 rfl (r_sandFor hR hO hC2 hW2 (rf_weekRow hR) hA hp ⟨by omega, by omega⟩ how) (g_rm (by omega)) (Nat.le_of_ble_eq_true rfl) (fun z49 M49 e49 => ?_)
          obtain ⟨e49a, e49⟩ := e49
          subst e49a
          refine g_istore5 dX6_answerOn_52 rfl rfl ?_
          refine g_iload5 dX6_answerOn_54 rfl ?_
          refine g_iconstI dX6_answerOn_56 rfl rfl (fun w56 h56 => ?_)
          refine g_icmp_neI (t := 63) dX6_answerOn_57 (by decide) rfl (fun c57 => ?_) (fun c57 => ?_)
          · -- 57 t
            have hfs : fitT T p.toInt.toNat s.toInt.toNat ∧ z49.toInt = sandT T p.toInt.toNat s.toInt.toNat := e49.resolve_right (fun h => by omega)
            obtain ⟨hfit, esd⟩ := hfs
            clear e49
            refine g_aload_n0 dX6_answerOn_63 rfl ?_
            refine g_geti dX6_answerOn_64 rfl fX6_340 hR.1 rfl ?_
            refine g_sipushI dX6_answerOn_67 rfl rfl (fun w67 h67 => ?_)
            refine g_icmp_neI (t := 79) dX6_answerOn_70 (by decide) rfl (fun c70 => ?_) (fun c70 => ?_)
            · -- 70 t
              have hnt : ¬ (wfold (wkSet (fun T1 s1 => wkOn r T1 (dn ||| 2 ^ p.toInt.toNat) (n + 1) s1) T p.toInt.toNat) s.toInt.toNat σ0).1 = 20000 := by have := hWk2.2.1; omega
              refine g_aload_n0 dX6_answerOn_79 rfl ?_
              refine g_dup dX6_answerOn_80 rfl rfl ?_
              refine g_geti dX6_answerOn_81 rfl fX6_340 hR.1 rfl ?_
              have q81 := hWk2.2.1
              have q81b := hWk2.1.1
              refine g_iconstI dX6_answerOn_84 rfl rfl (fun w84 h84 => ?_)
              refine g_iaddI dX6_answerOn_85 rfl ⟨by omega, by omega⟩ (fun w85 h85 => ?_)
              refine g_put dX6_answerOn_86 rfl fX6_340 hR.1 rfl rfl rfl ?_
              obtain ⟨M3, hM3⟩ : ∃ M3, M3 = g_u M49 300 34 w85 := ⟨_, rfl⟩
              refine g_fwd (M1 := M3) ?_ hM3
              have hC3 : CR T M3 := by rw [hM3]; unfold CR; exact hC2
              have hA3 : RW T (M3.1 427) := by rw [hM3, g_u_ne (by decide)]; exact hA
              have hto : (M3.1 429 p.toInt.toNat).toInt = T 5 p.toInt.toNat := by rw [hM3, g_u_ne (by decide), hfr2.1 429 (by decide) (by decide) (by decide) (by decide)]; exact (hK.2.2.2 p.toInt.toNat (by omega) (by omega)).2
              refine g_aload_n0 dX6_answerOn_89 rfl ?_
              refine g_aload_n0 dX6_answerOn_90 rfl ?_
              refine g_getr dX6_answerOn_91 rfl fX6_70 hR.1 rfl ?_
              refine g_iload_n3 dX6_answerOn_94 rfl ?_
              refine g_aload_n0 dX6_answerOn_95 rfl ?_
              refine g_getr dX6_answerOn_96 rfl fX6_76 hR.1 rfl ?_
              refine g_iload_n3 dX6_answerOn_99 rfl ?_
              refine g_ialdI dX6_answerOn_100 rfl (rf_weekTo hR) ⟨by omega, by omega⟩ ?_
              refine g_callVi3 dX6_answerOn_101 rfl vX6_315 hR.1 rfl (r_whomOf hR hO hC3 (rf_weekRow hR) hA3 hp hto) (g_rm (by omega)) (Nat.le_of_ble_eq_true rfl) (fun z101 M101 e101 => ?_)
              obtain ⟨e101a, e101⟩ := e101
              subst e101a
              refine g_istore6 dX6_answerOn_104 rfl rfl ?_
              refine g_iconstI dX6_answerOn_106 rfl rfl (fun w106 h106 => ?_)
              refine g_istore7 dX6_answerOn_107 rfl rfl ?_
              obtain ⟨hcan, ht0, ht1⟩ := fit_can hO (by omega) hfit hI.2.2
              refine g_fwd (l_ansT hR hO (M := M101) hC3 (by omega) (fun i1 => ?_) _ w106 rfl (by omega) (by omega)) (by rw [h106, show (0 : Int).toNat = 0 from rfl, mk0_0, g_row_self])
              refine g_aload_n0 dX6_answerOn_146 rfl ?_
              refine g_getr dX6_answerOn_147 rfl fX6_70 hR.1 rfl ?_
              refine g_bipushI dX6_answerOn_150 rfl rfl (fun w150 h150 => ?_)
              refine g_iload_n3 dX6_answerOn_152 rfl ?_
              refine g_iaddI dX6_answerOn_153 rfl ⟨by omega, by omega⟩ (fun w153 h153 => ?_)
              refine g_dup2 dX6_answerOn_154 rfl rfl rfl ?_
              refine g_ialdI dX6_answerOn_155 rfl (rf_weekRow hR) ⟨by omega, by omega⟩ ?_
              rw [g_row_at]
              refine g_iload5 dX6_answerOn_156 rfl ?_
              refine g_isub dX6_answerOn_158 rfl ?_
              refine g_iastI dX6_answerOn_159 rfl (rf_weekRow hR) ⟨by omega, by omega⟩ ?_
              rw [g_u_up]
              refine g_aload_n0 dX6_answerOn_160 rfl ?_
              refine g_getr dX6_answerOn_161 rfl fX6_70 hR.1 rfl ?_
              refine g_bipushI dX6_answerOn_164 rfl rfl (fun w164 h164 => ?_)
              refine g_iload6 dX6_answerOn_166 rfl ?_
              refine g_iaddI dX6_answerOn_168 rfl ⟨by omega, by omega⟩ (fun w168 h168 => ?_)
              refine g_dup2 dX6_answerOn_169 rfl rfl rfl ?_
              refine g_ialdI dX6_answerOn_170 rfl (rf_weekRow hR) ⟨by omega, by omega⟩ ?_
              rw [g_row_at]
              refine g_iload5 dX6_answerOn_171 rfl ?_
              refine g_iadd dX6_answerOn_173 rfl ?_
              refine g_iastI dX6_answerOn_174 rfl (rf_weekRow hR) ⟨by omega, by omega⟩ ?_
              rw [g_u_up]
              rw [show w153.toInt.toNat = 12 + p.toInt.toNat by omega, show w168.toInt.toNat = 12 + z101.toInt.toNat by omega]
              have hM4 : ∃ M4, M4 = g_row M101 427 (hdRow (M101.1 427) (T 0 1).toNat p.toInt.toNat s.toInt.toNat z101.toInt.toNat z49 z101) := ⟨_, rfl⟩
              obtain ⟨M4, hM4⟩ := hM4
              refine g_fwd (M1 := M4) ?_ hM4
              refine g_iconstI dX6_answerOn_175 rfl rfl (fun w175 h175 => ?_)
              refine g_istore7 dX6_answerOn_176 rfl rfl ?_
              refine g_fwd (l_ansL hR (M := M4) hn (by omega) (fun i2 => ?_) _ w175 rfl (by omega) (by omega)) (by rw [h175, show (0 : Int).toNat = 0 from rfl, layI_0])
              have hek : z101.toInt.toNat = (takerT T p.toInt.toNat).toNat := by rw [e101]
              have hI2 : INV (handT T p.toInt.toNat s.toInt.toNat (sandT T p.toInt.toNat s.toInt.toNat) (takerT T p.toInt.toNat).toNat) := INV.hand hI hcan
              have hA4 : RW (handT T p.toInt.toNat s.toInt.toNat (sandT T p.toInt.toNat s.toInt.toNat) (takerT T p.toInt.toNat).toNat) (M4.1 427) := by
                rw [hM4, g_row_at, hek]
                have hA3 : RW T (M101.1 427) := by rw [hM3, g_u_ne (by decide)]; exact hA
                have hc2 := hcan
                rw [← esd] at hc2 ⊢
                exact RW.hand hI hA3 hc2 (by rw [e101]; omega)
              have hA5 : RW (handT T p.toInt.toNat s.toInt.toNat (sandT T p.toInt.toNat s.toInt.toNat) (takerT T p.toInt.toNat).toNat) (fun j => (layI M4 (30 * (n + 1)) 30).1 426 (30 * (n + 1) + j)) := by
                refine RW.ext hI2.1 hA4 (fun j hj => ?_)
                show (layI M4 (30 * (n + 1)) 30).1 426 (30 * (n + 1) + j) = _
                rw [layI, g_row_at, if_pos (by omega), show 30 * (n + 1) + j - 30 * (n + 1) = j by omega]
              have hWk3 : WKR ((wfold (wkSet (fun T1 s1 => wkOn r T1 (dn ||| 2 ^ p.toInt.toNat) (n + 1) s1) T p.toInt.toNat) s.toInt.toNat σ0).1 + 1, (wfold (wkSet (fun T1 s1 => wkOn r T1 (dn ||| 2 ^ p.toInt.toNat) (n + 1) s1) T p.toInt.toNat) s.toInt.toNat σ0).2) M101 := by rw [hM3]; exact WKR.tr hWk2 (by have := hWk2.2.1; omega) hnt
              have hWk5 : WKR ((wfold (wkSet (fun T1 s1 => wkOn r T1 (dn ||| 2 ^ p.toInt.toNat) (n + 1) s1) T p.toInt.toNat) s.toInt.toNat σ0).1 + 1, (wfold (wkSet (fun T1 s1 => wkOn r T1 (dn ||| 2 ^ p.toInt.toNat) (n + 1) s1) T p.toInt.toNat) s.toInt.toNat σ0).2) (layI M4 (30 * (n + 1)) 30) := by rw [hM4]; exact hWk3
              have hfr3 : frW n M M101 := by
                rw [hM3]
                exact ⟨fun j a b c d => by rw [g_u_ne a]; exact hfr2.1 j a b c d, hfr2.2.1, fun k a b c d => by rw [g_u_eq, if_neg a]; exact hfr2.2.2.1 k a b c d, fun k hk => by rw [g_u_ne (by decide)]; exact hfr2.2.2.2 k hk⟩
              have hfr5 : frW n M (layI M4 (30 * (n + 1)) 30) := by
                refine ⟨fun j a b c d => ?_, by rw [hM4]; exact hfr3.2.1, fun k a b c d => ?_, fun k hk => ?_⟩
                · rw [layI, g_row_ne b, hM4, g_row_ne c]; exact hfr3.1 j a b c d
                · rw [layI, g_row_ne (by decide), hM4, g_row_ne (by decide)]; exact hfr3.2.2.1 k a b c d
                · rw [layI, g_row_at, if_neg (by omega), hM4, g_row_ne (by decide)]; exact hfr3.2.2.2 k hk
              have hK5 := WKC.hand (g := p.toInt.toNat) (s := s.toInt.toNat) (k := (takerT T p.toInt.toNat).toNat) (n := sandT T p.toInt.toNat s.toInt.toNat) (WKC.fr hK hfr5)
              have hf0 : ((wfold (wkSet (fun T1 s1 => wkOn r T1 (dn ||| 2 ^ p.toInt.toNat) (n + 1) s1) T p.toInt.toNat) s.toInt.toNat σ0).1 + 1, (wfold (wkSet (fun T1 s1 => wkOn r T1 (dn ||| 2 ^ p.toInt.toNat) (n + 1) s1) T p.toInt.toNat) s.toInt.toNat σ0).2).2.2.2 = 0 := hfin
              have hp6 : p.toInt.toNat < 6 := by omega
              have hp2 : 2 ^ p.toInt.toNat < 2 ^ 6 := Nat.pow_lt_pow_right (by decide) hp6
              have hp2' : 2 ^ p.toInt.toNat < 64 := hp2
              refine g_aload_n0 dX6_answerOn_212 rfl ?_
              refine g_iload_n1 dX6_answerOn_213 rfl ?_
              refine g_iconstI dX6_answerOn_214 rfl rfl (fun w214 h214 => ?_)
              refine g_iaddI dX6_answerOn_215 rfl ⟨by omega, by omega⟩ (fun w215 h215 => ?_)
              refine g_iload_n2 dX6_answerOn_216 rfl ?_
              refine g_iconstI dX6_answerOn_217 rfl rfl (fun w217 h217 => ?_)
              refine g_iload_n3 dX6_answerOn_218 rfl ?_
              refine g_ishlB dX6_answerOn_219 rfl ⟨by omega, by omega⟩ (fun w219 h219 => ?_)
              rw [bn_lit (n := 1) h217, Nat.shiftLeft_eq, Nat.one_mul, Nat.mod_eq_of_lt (by omega)] at h219
              refine g_iorB dX6_answerOn_220 rfl  (fun w220 h220 => ?_)
              have e220 : bn w220 = dn ||| 2 ^ p.toInt.toNat := by rw [h220, h219, bn_lit hdI]
              have hor : dn ||| 2 ^ p.toInt.toNat < 2 ^ 6 := Nat.or_lt_two_pow (n := 6) hdn hp2
              rw [show (2 : Nat) ^ 6 = 64 from rfl] at hor
              refine g_callVv2 dX6_answerOn_221 rfl vX6_343 hR.1 rfl (hH _ (dn ||| 2 ^ p.toInt.toNat) (n + 1) _ _ _ _ (by omega) hW6 (Nat.or_lt_two_pow (n := 6) hdn hp2) (by omega) (by rw [i_bn (by rw [e220]; omega), e220]) hI2 hK5 hA5 hWk5 hf0) (g_rm (by omega)) (Nat.le_of_ble_eq_true rfl) (fun M221 e221 => ?_)
              obtain ⟨hWk6, hfr6⟩ := e221
              refine g_iincI4 dX6_answerOn_224 rfl rfl rfl ⟨by omega, by omega⟩ (fun w224 h224 => ?_)
              refine g_goto (t := 3) dX6_answerOn_227 (by decide) ?_
              refine ih _ (by omega) _ _ _ _ _ rfl (by omega) (by omega) ?_ (frW.tr (frW.tr hfr hfr5 (Nat.le_refl _)) hfr6 (by omega)) rfl rfl rfl
              rw [show w224.toInt.toNat = s.toInt.toNat + 1 by omega]
              show WKR (wkSet _ T p.toInt.toNat s.toInt.toNat (wfold _ s.toInt.toNat σ0)) _
              rw [wkSet_on ⟨hfin, hfit⟩ hnt]
              exact hWk6
            · -- 70 f
              have hsp : (wfold (wkSet (fun T1 s1 => wkOn r T1 (dn ||| 2 ^ p.toInt.toNat) (n + 1) s1) T p.toInt.toNat) s.toInt.toNat σ0).1 = 20000 := by have := hWk2.2.1; omega
              refine g_aload_n0 dX6_answerOn_73 rfl ?_
              refine g_iconst (v := 1) dX6_answerOn_74 rfl rfl ?_
              refine g_put dX6_answerOn_75 rfl fX6_330 hR.1 rfl rfl rfl ?_
              refine g_vret dX6_answerOn_78 rfl ?_
              have e1 : wfold (wkSet (fun T1 s1 => wkOn r T1 (dn ||| 2 ^ p.toInt.toNat) (n + 1) s1) T p.toInt.toNat) (s.toInt.toNat + 1) σ0 = ((wfold (wkSet (fun T1 s1 => wkOn r T1 (dn ||| 2 ^ p.toInt.toNat) (n + 1) s1) T p.toInt.toNat) s.toInt.toNat σ0).1, (wfold (wkSet (fun T1 s1 => wkOn r T1 (dn ||| 2 ^ p.toInt.toNat) (n + 1) s1) T p.toInt.toNat) s.toInt.toNat σ0).2.1, (wfold (wkSet (fun T1 s1 => wkOn r T1 (dn ||| 2 ^ p.toInt.toNat) (n + 1) s1) T p.toInt.toNat) s.toInt.toNat σ0).2.2.1, 2) := by
                show wkSet _ T p.toInt.toNat s.toInt.toNat (wfold _ s.toInt.toNat σ0) = _
                rw [wkSet_sp ⟨hfin, hfit⟩ hsp]
              refine hQ _ ?_ (frW.tr hfr (frW.tr hfr2 ⟨fun j a b c d => by rw [g_u_ne a], rfl, fun k a b c d => by rw [g_u_eq, if_neg c], fun k hk => by rw [g_u_ne (by decide)]⟩ (Nat.le_refl _)) (Nat.le_refl _))
              have ht := wfold_tail (f := (wkSet (fun T1 s1 => wkOn r T1 (dn ||| 2 ^ p.toInt.toNat) (n + 1) s1) T p.toInt.toNat)) (i := s.toInt.toNat + 1) (σ := σ0) 4096 (by omega) (fun u hu _ => wkSet_no (fun hh => by
                rw [e1] at hh
                have hh1 : (2 : Int) = 0 := hh.1
                omega))
              rw [ht, e1]
              exact WKR.sp hWk2 rfl hfin
          · -- 57 f
            have hnf : ¬ fitT T p.toInt.toNat s.toInt.toNat := fun hf => by
              rcases e49 with ⟨-, h⟩ | ⟨h, -⟩
              · have := (fit_can hO (by omega) hf hI.2.2).1.2.2.2.2.1; omega
              · exact h hf
            clear e49
            refine g_goto (t := 224) dX6_answerOn_60 (by decide) ?_
            refine g_iincI4 dX6_answerOn_224 rfl rfl rfl ⟨by omega, by omega⟩ (fun w224 h224 => ?_)
            refine g_goto (t := 3) dX6_answerOn_227 (by decide) ?_
            refine ih _ (by omega) _ _ _ _ _ rfl (by omega) (by omega) ?_ (frW.tr hfr hfr2 (Nat.le_refl _)) rfl hc6 hc7
            rw [show w224.toInt.toNat = s.toInt.toNat + 1 by omega]
            show WKR (wkSet _ T p.toInt.toNat s.toInt.toNat (wfold _ s.toInt.toNat σ0)) _
            rw [wkSet_no (fun hh => hnf hh.2)]
            exact hWk2
