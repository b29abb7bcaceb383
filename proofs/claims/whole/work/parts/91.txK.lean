/-- the reference while it reads -/
def frR (M M' : gM) : Prop := (∀ j, j ≠ 300 → j ≠ 402 → j ≠ 403 → j ≠ 404 → j ≠ 405 → j ≠ 408 → j ≠ 410 → j ≠ 411 → M'.1 j = M.1 j) ∧ M'.2 = M.2 ∧ (∀ k, k ≠ 1 → ¬ (14 ≤ k ∧ k ≤ 23) → M'.1 300 k = M.1 300 k) ∧ (∀ k, k < 4 → M'.1 402 k = M.1 402 k) ∧ (∀ k, k < 6 → M'.1 403 k = M.1 403 k ∧ M'.1 404 k = M.1 404 k) ∧ (∀ k, k < 12 → M'.1 405 k = M.1 405 k ∧ M'.1 411 k = M.1 411 k) ∧ (M'.1 300 1).toInt = 0 ∧ (M'.1 300 14).toInt = 0 ∧ (M'.1 300 23).toInt = -1
theorem frR.p {M M1 M2 : gM} (h : frR M M1) (h2 : frP M1 M2) : frR M M2 := by
  obtain ⟨a1, a2, a3, a4, a5, a6, a7, a8, a9⟩ := h
  obtain ⟨c1, c2, c3, c4, c5, c6⟩ := h2
  refine ⟨fun j q1 q2 q3 q4 q5 q6 q7 q8 => by rw [c1 j q1 q2 q3 q4 q5 q6 q7 q8, a1 j q1 q2 q3 q4 q5 q6 q7 q8], by rw [c2, a2], fun k q1 q2 => by rw [c3 k (by omega), a3 k q1 q2], fun k q => by rw [c4 k q, a4 k q], fun k q => ⟨by rw [(c5 k q).1, (a5 k q).1], by rw [(c5 k q).2, (a5 k q).2]⟩, fun k q => ⟨by rw [(c6 k q).1, (a6 k q).1], by rw [(c6 k q).2, (a6 k q).2]⟩, by rw [c3 1 (by omega)]; exact a7, by rw [c3 14 (by omega)]; exact a8, by rw [c3 23 (by omega)]; exact a9⟩
theorem RP.begin {T : gTw} {M : gM} (h0 : ∀ k, k < 4 → T 0 k = 0) (h2 : ∀ k, 4 ≤ k → k < 8 → (M.1 402 k).toInt = 0) (h8 : ∀ k, k < 30 → M.1 408 k = begRow k) : RP T M := by
  have e0 := h0 0 (by decide)
  have e1 := h0 1 (by decide)
  refine ⟨by rw [h2 4 (by decide) (by decide), e0], by rw [h2 5 (by decide) (by decide), e1], by rw [h2 6 (by decide) (by decide), h0 2 (by decide)], by rw [h2 7 (by decide) (by decide), h0 3 (by decide)], fun p hp => by omega, fun p hp hp6 => ?_, fun i hi => by omega, fun p i hp => by omega⟩
  rw [h8 _ (by omega), h8 _ (by omega), begRow, begRow, if_neg (by omega), if_pos (by omega)]
  exact ⟨rfl, rfl⟩
theorem pLine_td {t : Nat → Int} {n e e1 : Nat} {T T1 : gTw} {sl sw l1 w1 : Int} {sn : Int32} (hTD : TD sn sl sw) (h : pLine t n T sl sw e = .inr ((T1, l1, w1), e1)) : (l1 = 0 ∨ l1 = 1) ∧ (w1 = 0 ∨ w1 = 1) := by
  have st : ∀ {x : pR gTw} {l w : Int}, pBd x (fun T1 e1 => pStop t n (T1, l, w) e1) = .inr ((T1, l1, w1), e1) → l1 = l ∧ w1 = w := by
    intro x l w hh
    obtain ⟨T2, e2, -, h2⟩ := pBd_ok hh
    rw [pStop] at h2
    split at h2
    · cases h2; exact ⟨rfl, rfl⟩
    · cases h2
  rw [pLine] at h
  by_cases c1 : isW t n e w_person
  · rw [pIf_pos c1] at h; have := st h; rw [this.1, this.2]; exact ⟨hTD.1, hTD.2.1⟩
  rw [pIf_neg c1] at h
  by_cases c2 : isW t n e w_thing
  · rw [pIf_pos c2] at h; have := st h; rw [this.1, this.2]; exact ⟨hTD.1, hTD.2.1⟩
  rw [pIf_neg c2] at h
  by_cases c3 : isW t n e w_owes
  · rw [pIf_pos c3] at h; have := st h; rw [this.1, this.2]; exact ⟨hTD.1, hTD.2.1⟩
  rw [pIf_neg c3] at h
  by_cases c4 : isW t n e w_law
  · rw [pIf_pos c4] at h
    split at h
    · cases h
    · have := st h; rw [this.1, this.2]; exact ⟨Or.inr rfl, hTD.2.1⟩
  rw [pIf_neg c4] at h
  by_cases c5 : isW t n e w_within
  · rw [pIf_pos c5] at h
    split at h
    · cases h
    · obtain ⟨v, e2, -, h2⟩ := pBd_ok h
      rw [pStop] at h2
      split at h2
      · cases h2; exact ⟨hTD.1, Or.inr rfl⟩
      · cases h2
  rw [pIf_neg c5] at h
  cases h
set_option maxHeartbeats 1200000 in
theorem l_tw2 {Γ : gW} {t : Nat → Int} {n : Nat} {T0 : gTw} {M0 : gM} (hR : g_Ref Γ) (hKd : g_o Γ 400 (.inr (5, 5))) {n0 : Int32} (hH0 : HTx t n M0) (hKm0 : ∀ j, j < 5 → (M0.1 400 j).toInt = 615 + (j : Int)) {Q : Option Value → gM → Prop} (hkB : ∀ (M : gM) (q : Int × Int) (sn : Int32), RD t n (.inl q) M → frP M0 M → pAll t n 701 T0 0 0 0 = .inl q → G Γ μX6_town (g_R 8) (0, 0) (g_Z Γ Q) 105 [some (.ref 300), some (.int n0), some (.int sn), none] [] M) (hkG : ∀ (M : gM) (T : gTw) (sn : Int32), (M.1 300 21).toInt = 0 → RP T M → PIV T → frP M0 M → pAll t n 701 T0 0 0 0 = .inr T → G Γ μX6_town (g_R 8) (0, 0) (g_Z Γ Q) 105 [some (.ref 300), some (.int n0), some (.int sn), none] [] M) : ∀ (n9 : Nat) (f : Nat) (T : gTw) (sl sw : Int) (e : Nat) (sn : Int32) (M : gM), n - e = n9 → RD t n (.inr e) M → RP T M → PIV T → TD sn sl sw → (¬ sl = 1 → T 0 2 = 0) → frP M0 M → 701 ≤ f + e → pAll t n f T sl sw e = pAll t n 701 T0 0 0 0 → G Γ μX6_town (g_R 8) (0, 0) (g_Z Γ Q) 82 [some (.ref 300), some (.int n0), some (.int sn), none] [] M := by
  intro n9
  induction n9 using Nat.strongRecOn with
  | ind n9 ih =>
    intro f T sl sw e sn M h9 hD hP hV hTD hl hF hfe hres
    have hH := hH0.p hF
    have hKm : ∀ j, j < 5 → (M.1 400 j).toInt = 615 + (j : Int) := fun j hj => by rw [hF.1 400 (by decide) (by decide) (by decide) (by decide) (by decide) (by decide) (by decide) (by decide)]; exact hKm0 j hj
    have x7 := hH.2.1
    obtain ⟨d1, d2, d3, d4, d5, d6, -⟩ := id hD
    have d8 := tk_rng (t := t) d2
    obtain ⟨f, rfl⟩ : ∃ g, f = g + 1 := ⟨f - 1, by omega⟩
    refine g_aload_n0 dX6_town_82 rfl ?_
    refine g_geti dX6_town_83 rfl fX6_174 hR.1 rfl ?_
    refine g_if_neI (t := 105) dX6_town_86 (by decide) rfl (fun c86 => absurd c86 (by omega)) (fun c86 => ?_)
    refine g_aload_n0 dX6_town_89 rfl ?_
    refine g_geti dX6_town_90 rfl fX6_151 hR.1 rfl ?_
    refine g_if_eqI (t := 105) dX6_town_93 (by decide) rfl (fun c93 => ?_) (fun c93 => ?_)
    · -- 93 t
      have hk0 : tkK t n e = 0 := by omega
      exact hkG M T sn d1 hP hV hF (by rw [← hres]; exact pAll_end hk0)
    · -- 93 f
      have hk0 : ¬ tkK t n e = 0 := by omega
      refine g_aload_n0 dX6_town_96 rfl ?_
      refine g_iload_n2 dX6_town_97 rfl ?_
      refine g_callVi1 dX6_town_98 rfl vX6_246 hR.1 rfl (r_readLine hR hKd hH hD hP hV hKm hTD hl) (g_rm (by omega)) (Nat.le_of_ble_eq_true rfl) (fun z98 M98 e98 => ?_)
      refine g_istore_n2 dX6_town_101 rfl rfl ?_
      refine g_goto (t := 82) dX6_town_102 (by decide) ?_
      obtain ⟨e98, f98⟩ := e98
      have hf9 := frP.tr hF f98
      cases hx : pLine t n T sl sw e with
      | inl q =>
        rw [hx] at e98
        have hb9 : RD t n (.inl q) M98 := e98
        refine g_aload_n0 dX6_town_82 rfl ?_
        refine g_geti dX6_town_83 rfl fX6_174 hR.1 rfl ?_
        refine g_if_neI (t := 105) dX6_town_86 (by decide) rfl (fun c86 => ?_) (fun c86 => absurd c86 (by have h1 := hb9.1; have h2 := hb9.2.1; omega))
        exact hkB _ _ _ hb9 hf9 (by rw [← hres]; exact pAll_bad hk0 hx)
      | inr y =>
        obtain ⟨⟨T1, l1, w1⟩, e1⟩ := y
        rw [hx] at e98
        obtain ⟨hD1, hP1, hz1⟩ : RD t n (.inr e1) M98 ∧ RP T1 M98 ∧ z98.toInt = l1 + 2 * w1 := e98
        obtain ⟨o1, o2, o3, o4⟩ := pLine_ok hV d2 hl hx
        have o5 := pLine_td hTD hx
        exact ih _ (by omega) f T1 l1 w1 e1 z98 M98 rfl hD1 hP1 o1 ⟨o5.1, o5.2, hz1⟩ o4 hf9 (by omega) (by rw [← hres]; exact (pAll_on hk0 hx).symm)
set_option maxHeartbeats 1200000 in
theorem l_tw6 {Γ : gW} {t : Nat → Int} {n : Nat} {T0 : gTw} {M MX : gM} (hR : g_Ref Γ) {n0 : Int32} (hn : 0 ≤ n0.toInt ∧ n0.toInt ≤ (M.1 300 14).toInt) (hst : 0 ≤ (M.1 406 0).toInt ∧ (M.1 406 0).toInt ≤ 1000000) {sn : Int32} (hF : frR M MX) {q : Int × Int} (hD : RD t n (.inl q) MX) (hq : pAll t n 701 T0 0 0 0 = .inl q) : G Γ μX6_town (g_R 8) (0, 0) (g_Z Γ (g_qi (fun z M1 => (¬ (0 ≤ n0.toInt ∧ n0.toInt ≤ (M.1 300 14).toInt) ∧ z.toInt = 0 ∧ M1 = g_u (g_u M 300 1 0) 300 1 1) ∨ ((0 ≤ n0.toInt ∧ n0.toInt ≤ (M.1 300 14).toInt) ∧ ((∃ q, pAll t n 701 T0 0 0 0 = .inl q ∧ z.toInt = q.1 ∧ TWB M M1 q.1 q.2) ∨ ∃ T1, pAll t n 701 T0 0 0 0 = .inr T1 ∧ PIV T1 ∧ z.toInt = 0 ∧ TWG M M1 T1))))) 105 [some (.ref 300), some (.int n0), some (.int sn), none] [] MX := by
  refine g_aload_n0 dX6_town_105 rfl ?_
  refine g_geti dX6_town_106 rfl fX6_174 hR.1 rfl ?_
  refine g_if_eqI (t := 135) dX6_town_109 (by decide) rfl (fun c109 => absurd c109 (by have h1 := hD.1; have h2 := hD.2.1; omega)) (fun c109 => ?_)
  refine g_aload_n0 dX6_town_112 rfl ?_
  refine g_aload_n0 dX6_town_113 rfl ?_
  refine g_geti dX6_town_114 rfl fX6_177 hR.1 rfl ?_
  refine g_put dX6_town_117 rfl fX6_60 hR.1 rfl rfl rfl ?_
  have e406 : MX.1 406 = M.1 406 := hF.1 406 (by decide) (by decide) (by decide) (by decide) (by decide) (by decide) (by decide) (by decide)
  have hs6 : (MX.1 406 0).toInt = (M.1 406 0).toInt := by rw [e406]
  refine g_aload_n0 dX6_town_120 rfl ?_
  refine g_getr dX6_town_121 rfl fX6_38 hR.1 rfl ?_
  refine g_iconstI dX6_town_124 rfl rfl (fun w124 h124 => ?_)
  refine g_dup2 dX6_town_125 rfl rfl rfl ?_
  refine g_ialdI dX6_town_126 rfl (rf_status hR) ⟨by omega, by omega⟩ ?_
  rw [g_u_ne (show 406 ≠ 300 by omega)]
  rw [show w124.toInt.toNat = 0 by omega]
  refine g_iconstI dX6_town_127 rfl rfl (fun w127 h127 => ?_)
  refine g_iaddI dX6_town_128 rfl ⟨by omega, by omega⟩ (fun w128 h128 => ?_)
  refine g_iastI dX6_town_129 rfl (rf_status hR) ⟨by omega, by omega⟩ ?_
  rw [show w124.toInt.toNat = 0 by omega]
  refine g_aload_n0 dX6_town_130 rfl ?_
  refine g_geti dX6_town_131 rfl fX6_174 hR.1 rfl ?_
  rw [g_u_ne (show 300 ≠ 406 by omega)]
  rw [g_u_eq, if_neg (show ¬ (21 : Nat) = 23 by decide)]
  refine g_iret dX6_town_134 rfl ?_
  refine ⟨_, rfl, Or.inr ⟨hn, Or.inl ⟨q, hq, ?_, ?_⟩⟩⟩
  · exact hD.1
  obtain ⟨a1, a2, a3, a4, a5, a6, a7, a8, a9⟩ := hF
  have u3 : ∀ (x y : Int32) (k : Nat), k ≠ 23 → (g_u (g_u MX 300 23 x) 406 0 y).1 300 k = MX.1 300 k := fun x y k hk => by rw [g_u_ne (by decide), g_u_eq, if_neg hk]
  have uj : ∀ (x y : Int32) (j : Nat), j ≠ 300 → j ≠ 406 → (g_u (g_u MX 300 23 x) 406 0 y).1 j = MX.1 j := fun x y j q1 q2 => by rw [g_u_ne q2, g_u_ne q1]
  refine ⟨⟨fun j q1 q2 q3 q4 q5 q6 q7 q8 q9 q10 q11 => ?_, a2, fun k q1 q2 q3 q4 q5 => ?_, ?_, ?_, ?_⟩, ?_, ?_, fun k hk => ?_, fun k hk => ?_, fun k hk => ?_, ?_, ?_, ?_, ?_, ?_, ?_⟩
  · rw [uj _ _ j q1 q6]; exact a1 j q1 q2 q3 q4 q5 q8 q10 q11
  · rw [u3 _ _ k (by omega)]; exact a3 k q1 (by omega)
  · rw [g_u_eq, if_neg (by decide), g_u_ne (by decide), e406]
  · rw [u3 _ _ 1 (by decide)]; exact a7
  · rw [u3 _ _ 14 (by decide)]; exact a8
  · rw [g_u_ne (by decide), g_u_eq, if_pos rfl]; exact hD.2.2
  · rw [g_u_eq, if_pos rfl]; omega
  · rw [uj _ _ 402 (by decide) (by decide)]; exact a4 k hk
  · rw [uj _ _ 403 (by decide) (by decide), uj _ _ 404 (by decide) (by decide)]; exact a5 k hk
  · rw [uj _ _ 405 (by decide) (by decide), uj _ _ 411 (by decide) (by decide)]; exact a6 k hk
  · rw [uj _ _ 407 (by decide) (by decide)]; exact a1 407 (by decide) (by decide) (by decide) (by decide) (by decide) (by decide) (by decide) (by decide)
  · rw [uj _ _ 409 (by decide) (by decide)]; exact a1 409 (by decide) (by decide) (by decide) (by decide) (by decide) (by decide) (by decide) (by decide)
  · rw [u3 _ _ 12 (by decide)]; exact a3 12 (by decide) (by omega)
  · rw [u3 _ _ 24 (by decide)]; exact a3 24 (by decide) (by omega)
  · rw [u3 _ _ 32 (by decide)]; exact a3 32 (by decide) (by omega)
  · rw [u3 _ _ 48 (by decide)]; exact a3 48 (by decide) (by omega)
set_option maxHeartbeats 1200000 in
theorem l_tw7 {Γ : gW} {t : Nat → Int} {n : Nat} {T0 : gTw} {M MX : gM} (hR : g_Ref Γ) {n0 : Int32} (hn : 0 ≤ n0.toInt ∧ n0.toInt ≤ (M.1 300 14).toInt) (hst : 0 ≤ (M.1 406 0).toInt ∧ (M.1 406 0).toInt ≤ 1000000) {sn : Int32} (hF : frR M MX) {T1 : gTw} (hb : (MX.1 300 21).toInt = 0) (hP : RP T1 MX) (hV : PIV T1) (hq : pAll t n 701 T0 0 0 0 = .inr T1) : G Γ μX6_town (g_R 8) (0, 0) (g_Z Γ (g_qi (fun z M1 => (¬ (0 ≤ n0.toInt ∧ n0.toInt ≤ (M.1 300 14).toInt) ∧ z.toInt = 0 ∧ M1 = g_u (g_u M 300 1 0) 300 1 1) ∨ ((0 ≤ n0.toInt ∧ n0.toInt ≤ (M.1 300 14).toInt) ∧ ((∃ q, pAll t n 701 T0 0 0 0 = .inl q ∧ z.toInt = q.1 ∧ TWB M M1 q.1 q.2) ∨ ∃ T1, pAll t n 701 T0 0 0 0 = .inr T1 ∧ PIV T1 ∧ z.toInt = 0 ∧ TWG M M1 T1))))) 105 [some (.ref 300), some (.int n0), some (.int sn), none] [] MX := by
  refine g_aload_n0 dX6_town_105 rfl ?_
  refine g_geti dX6_town_106 rfl fX6_174 hR.1 rfl ?_
  refine g_if_eqI (t := 135) dX6_town_109 (by decide) rfl (fun c109 => ?_) (fun c109 => absurd c109 (by omega))
  refine g_iconstI dX6_town_135 rfl rfl (fun w135 h135 => ?_)
  refine g_istore_n3 dX6_town_136 rfl rfl ?_
  refine l_tw3 hR (fun M3 i3 x1 x2 x3 => ?_) _ _ _ rfl (by omega) (by omega) (fun _ _ => rfl) rfl (fun k hk => by omega) (fun _ _ => rfl)
  have g3 := And.intro x1 (And.intro x2 x3)
  clear x1 x2 x3
  refine g_iconstI dX6_town_162 rfl rfl (fun w162 h162 => ?_)
  refine g_istore_n3 dX6_town_163 rfl rfl ?_
  refine l_tw4 hR (fun M4 i4 x1 x2 x3 => ?_) _ _ _ rfl (by omega) (by omega) (fun _ _ _ => rfl) rfl (fun k hk => by omega) (fun _ _ => ⟨rfl, rfl⟩)
  have g4 := And.intro x1 (And.intro x2 x3)
  clear x1 x2 x3
  refine g_iconstI dX6_town_206 rfl rfl (fun w206 h206 => ?_)
  refine g_istore_n3 dX6_town_207 rfl rfl ?_
  refine l_tw5 hR (fun M5 i5 x1 x2 x3 => ?_) _ _ _ rfl (by omega) (by omega) (fun _ _ _ _ => rfl) rfl (fun k hk => by omega) (fun _ _ => ⟨rfl, rfl⟩)
  have g5 := And.intro x1 (And.intro x2 x3)
  refine g_aload_n0 dX6_town_262 rfl ?_
  refine g_getr dX6_town_263 rfl fX6_44 hR.1 rfl ?_
  refine g_aload_n0 dX6_town_266 rfl ?_
  refine g_getr dX6_town_267 rfl fX6_41 hR.1 rfl ?_
  refine g_callSv2 dX6_town_270 rfl sX6_249 (r_copy (rf_read hR) (rf_now hR) (by decide)) (g_rm (by omega)) (Nat.le_of_ble_eq_true rfl) (fun M270 e270 => ?_)
  obtain ⟨Mf, hMf⟩ : ∃ Mf, Mf = M270 := ⟨_, rfl⟩
  subst hMf
  have f7 : ∀ k, k < 30 → Mf.1 407 k = M5.1 408 k := fun k hk => by rw [e270, rowI_at, if_pos hk]
  have fj : ∀ j, j ≠ 407 → Mf.1 j = M5.1 j := fun j hj => by rw [e270, rowI_ne hj]
  have f2 : Mf.2 = M5.2 := by rw [e270]; rfl
  clear e270
  refine g_aload_n0 dX6_town_273 rfl ?_
  refine g_iconst (v := 0) dX6_town_274 rfl rfl ?_
  refine g_put dX6_town_275 rfl fX6_253 hR.1 rfl rfl rfl ?_
  refine g_aload_n0 dX6_town_278 rfl ?_
  refine g_iconst (v := 0) dX6_town_279 rfl rfl ?_
  refine g_put dX6_town_280 rfl fX6_256 hR.1 rfl rfl rfl ?_
  refine g_aload_n0 dX6_town_283 rfl ?_
  refine g_iconst (v := -1) dX6_town_284 rfl rfl ?_
  refine g_put dX6_town_285 rfl fX6_85 hR.1 rfl rfl rfl ?_
  refine g_aload_n0 dX6_town_288 rfl ?_
  refine g_iconst (v := 0) dX6_town_289 rfl rfl ?_
  refine g_put dX6_town_290 rfl fX6_259 hR.1 rfl rfl rfl ?_
  refine g_iconstI dX6_town_293 rfl rfl (fun w293 h293 => ?_)
  refine g_iret dX6_town_294 rfl ?_
  refine ⟨_, rfl, Or.inr ⟨hn, Or.inr ⟨T1, hq, hV, h293, ?_⟩⟩⟩
  obtain ⟨a1, a2, a3, a4, a5, a6, a7, a8, a9⟩ := hF
  have u3 : ∀ k : Nat, k ≠ 12 → k ≠ 24 → k ≠ 32 → k ≠ 48 → (g_u (g_u (g_u (g_u Mf 300 12 0) 300 24 0) 300 32 (-1)) 300 48 0).1 300 k = MX.1 300 k := fun k q1 q2 q3 q4 => by
    rw [g_u_eq, if_neg q4, g_u_eq, if_neg q3, g_u_eq, if_neg q2, g_u_eq, if_neg q1, fj 300 (by decide), g5.1 300 (by decide) (by decide) (by decide), g4.1 300 (by decide) (by decide), g3.1 300 (by decide)]
  have uj : ∀ j : Nat, j ≠ 300 → (g_u (g_u (g_u (g_u Mf 300 12 0) 300 24 0) 300 32 (-1)) 300 48 0).1 j = Mf.1 j := fun j q => by rw [g_u_ne q, g_u_ne q, g_u_ne q, g_u_ne q]
  refine ⟨⟨fun j q1 q2 q3 q4 q5 q6 q7 q8 q9 q10 q11 => ?_, ?_, fun k q1 q2 q3 q4 q5 => ?_, ?_, ?_, ?_⟩, ?_, ?_, ?_, rfl, rfl, rfl⟩
  · rw [uj j q1, fj j q7, g5.1 j q5 q9 q11, g4.1 j q3 q4, g3.1 j q2]; exact a1 j q1 q2 q3 q4 q5 q8 q10 q11
  · show Mf.2 = _; rw [f2, g5.2.1, g4.2.1, g3.2.1]; exact a2
  · rw [u3 k q2 (by omega) q4 q5]; exact a3 k q1 (by omega)
  · rw [uj 406 (by decide), fj 406 (by decide), g5.1 406 (by decide) (by decide) (by decide), g4.1 406 (by decide) (by decide), g3.1 406 (by decide), a1 406 (by decide) (by decide) (by decide) (by decide) (by decide) (by decide) (by decide) (by decide)]
  · rw [u3 1 (by decide) (by decide) (by decide) (by decide)]; exact a7
  · rw [u3 14 (by decide) (by decide) (by decide) (by decide)]; exact a8
  · rw [u3 23 (by decide) (by decide) (by decide) (by decide)]; exact a9
  · rw [uj 406 (by decide), fj 406 (by decide), g5.1 406 (by decide) (by decide) (by decide), g4.1 406 (by decide) (by decide), g3.1 406 (by decide), a1 406 (by decide) (by decide) (by decide) (by decide) (by decide) (by decide) (by decide) (by decide)]
  · refine RS.read (M0 := MX) hV hP (fun k hk => ?_) (fun k hk => ?_) (fun k hk => ?_) (fun k hk => ?_) rfl
    · rw [uj 402 (by decide), fj 402 (by decide), g5.1 402 (by decide) (by decide) (by decide), g4.1 402 (by decide) (by decide)]; exact g3.2.2 k hk
    · rw [uj 403 (by decide), fj 403 (by decide), g5.1 403 (by decide) (by decide) (by decide), uj 404 (by decide), fj 404 (by decide), g5.1 404 (by decide) (by decide) (by decide), (g4.2.2 k hk).1, (g4.2.2 k hk).2, g3.1 403 (by decide), g3.1 404 (by decide)]; exact ⟨rfl, rfl⟩
    · rw [uj 405 (by decide), fj 405 (by decide), uj 409 (by decide), fj 409 (by decide), uj 411 (by decide), fj 411 (by decide), (g5.2.2 k hk).1, (g5.2.2 k hk).2.1, (g5.2.2 k hk).2.2, g4.1 405 (by decide) (by decide), g4.1 410 (by decide) (by decide), g4.1 411 (by decide) (by decide), g3.1 405 (by decide), g3.1 410 (by decide), g3.1 411 (by decide)]; exact ⟨rfl, rfl, rfl⟩
    · rw [uj 407 (by decide), f7 k hk, g5.1 408 (by decide) (by decide) (by decide), g4.1 408 (by decide) (by decide), g3.1 408 (by decide)]
set_option maxHeartbeats 1200000 in
theorem r_town {Γ : gW} {t : Nat → Int} {T0 : gTw} {M : gM} (hR : g_Ref Γ) (hKd : g_o Γ 400 (.inr (5, 5))) {n0 : Int32} (hst : 0 ≤ (M.1 406 0).toInt ∧ (M.1 406 0).toInt ≤ 1000000) (hKm : ∀ j, j < 5 → (M.1 400 j).toInt = 615 + (j : Int)) (hta : 0 ≤ (M.1 300 14).toInt ∧ (M.1 300 14).toInt ≤ 700) (htt : ∀ k, k < 700 → 0 ≤ t k ∧ t k ≤ 255) (htp : ∀ k, k < 700 → (M.1 413 k).toInt = t k) (hV0 : PIV T0) (hT0 : ∀ k, k < 4 → T0 0 k = 0)  : Ct Γ yX6_town μX6_town 8 [.ref 300, .int n0] M (g_qi (fun z M1 => (¬ (0 ≤ n0.toInt ∧ n0.toInt ≤ (M.1 300 14).toInt) ∧ z.toInt = 0 ∧ M1 = g_u (g_u M 300 1 0) 300 1 1) ∨ ((0 ≤ n0.toInt ∧ n0.toInt ≤ (M.1 300 14).toInt) ∧ ((∃ q, pAll t n0.toInt.toNat 701 T0 0 0 0 = .inl q ∧ z.toInt = q.1 ∧ TWB M M1 q.1 q.2) ∨ ∃ T1, pAll t n0.toInt.toNat 701 T0 0 0 0 = .inr T1 ∧ PIV T1 ∧ z.toInt = 0 ∧ TWG M M1 T1)))) := by
  refine g_enter rfl rfl rfl (Nat.le_of_ble_eq_true rfl) ?_
  show G Γ _ _ _ _ 0 [some (.ref 300), some (.int n0), none, none] [] M
  refine g_aload_n0 dX6_town_0 rfl ?_
  refine g_iconst (v := 0) dX6_town_1 rfl rfl ?_
  refine g_put dX6_town_2 rfl fX6_128 hR.1 rfl rfl rfl ?_
  refine g_iload_n1 dX6_town_5 rfl ?_
  refine g_if_ltI (t := 17) dX6_town_6 (by decide) rfl (fun c6 => ?_) (fun c6 => ?_)
  · -- 6 t
    refine g_aload_n0 dX6_town_17 rfl ?_
    refine g_iconst (v := 1) dX6_town_18 rfl rfl ?_
    refine g_callVi1 dX6_town_19 rfl vX6_243 hR.1 rfl (r_fail hR) (g_rm (by omega)) (Nat.le_of_ble_eq_true rfl) (fun z19 M19 e19 => ?_)
    obtain ⟨rfl, e19⟩ := e19
    refine g_iret dX6_town_22 rfl ?_
    exact ⟨_, rfl, Or.inl ⟨by omega, e19, rfl⟩⟩
  · -- 6 f
    refine g_iload_n1 dX6_town_9 rfl ?_
    refine g_aload_n0 dX6_town_10 rfl ?_
    refine g_geti dX6_town_11 rfl fX6_135 hR.1 rfl ?_
    rw [g_u_eq, if_neg (show ¬ (14 : Nat) = 1 by decide)]
    refine g_icmp_leI (t := 23) dX6_town_14 (by decide) rfl (fun c14 => ?_) (fun c14 => ?_)
    · -- 14 t
      have hn : 0 ≤ n0.toInt ∧ n0.toInt ≤ (M.1 300 14).toInt := by omega
      refine g_aload_n0 dX6_town_23 rfl ?_
      refine g_iconst (v := 0) dX6_town_24 rfl rfl ?_
      refine g_put dX6_town_25 rfl fX6_135 hR.1 rfl rfl rfl ?_
      refine g_aload_n0 dX6_town_28 rfl ?_
      refine g_iload_n1 dX6_town_29 rfl ?_
      refine g_put dX6_town_30 rfl fX6_138 hR.1 rfl rfl rfl ?_
      refine g_aload_n0 dX6_town_33 rfl ?_
      refine g_iconst (v := 0) dX6_town_34 rfl rfl ?_
      refine g_put dX6_town_35 rfl fX6_141 hR.1 rfl rfl rfl ?_
      refine g_aload_n0 dX6_town_38 rfl ?_
      refine g_iconst (v := 0) dX6_town_39 rfl rfl ?_
      refine g_put dX6_town_40 rfl fX6_174 hR.1 rfl rfl rfl ?_
      refine g_aload_n0 dX6_town_43 rfl ?_
      refine g_iconst (v := -1) dX6_town_44 rfl rfl ?_
      refine g_put dX6_town_45 rfl fX6_60 hR.1 rfl rfl rfl ?_
      obtain ⟨MA, hMA⟩ : ∃ MA, MA = g_u (g_u (g_u (g_u (g_u (g_u M 300 1 0) 300 14 0) 300 16 n0) 300 15 0) 300 21 0) 300 23 (-1) := ⟨_, rfl⟩
      refine g_fwd (M1 := MA) ?_ hMA
      have aj : ∀ j, j ≠ 300 → MA.1 j = M.1 j := fun j hj => by rw [hMA, g_u_ne hj, g_u_ne hj, g_u_ne hj, g_u_ne hj, g_u_ne hj, g_u_ne hj]
      have a2 : MA.2 = M.2 := by rw [hMA]; rfl
      have a1 : MA.1 300 1 = 0 := by rw [hMA]; rfl
      have a14 : MA.1 300 14 = 0 := by rw [hMA]; rfl
      have a15 : MA.1 300 15 = 0 := by rw [hMA]; rfl
      have a16 : MA.1 300 16 = n0 := by rw [hMA]; rfl
      have a21 : MA.1 300 21 = 0 := by rw [hMA]; rfl
      have a23 : MA.1 300 23 = -1 := by rw [hMA]; rfl
      have af : ∀ k, ¬ (k = 1 ∨ k = 14 ∨ k = 15 ∨ k = 16 ∨ k = 21 ∨ k = 23) → MA.1 300 k = M.1 300 k := fun k q => by
        rw [hMA, g_u_eq, if_neg (by omega), g_u_eq, if_neg (by omega), g_u_eq, if_neg (by omega), g_u_eq, if_neg (by omega), g_u_eq, if_neg (by omega), g_u_eq, if_neg (by omega)]
      clear hMA
      refine g_iconstI dX6_town_48 rfl rfl (fun w48 h48 => ?_)
      refine g_istore_n2 dX6_town_49 rfl rfl ?_
      refine l_tw1 (M0 := MA) hR (fun MB iB b1 b2 b3 b4 => ?_) _ _ _ rfl (by omega) (by omega) (fun _ _ => rfl) rfl (fun _ _ => rfl) (fun k q1 q2 => by omega)
      refine g_aload_n0 dX6_town_69 rfl ?_
      refine g_getr dX6_town_70 rfl fX6_44 hR.1 rfl ?_
      refine g_callSv1 dX6_town_73 rfl sX6_124 (r_begin (rf_read hR)) (g_rm (by omega)) (Nat.le_of_ble_eq_true rfl) (fun M73 e73 => ?_)
      obtain ⟨MC, hMC⟩ : ∃ MC, MC = M73 := ⟨_, rfl⟩
      subst hMC
      have cj : ∀ j, j ≠ 408 → MC.1 j = MB.1 j := fun j hj => by rw [e73, rowI_ne hj]
      have c8 : ∀ k, k < 30 → MC.1 408 k = begRow k := fun k hk => by rw [e73, rowI_at, if_pos hk]
      have c2 : MC.2 = MB.2 := by rw [e73]; rfl
      clear e73
      have m3 : ∀ k, MC.1 300 k = MA.1 300 k := fun k => by rw [cj 300 (by decide), b1 300 (by decide)]
      have mj : ∀ j, j ≠ 300 → j ≠ 402 → j ≠ 408 → MC.1 j = M.1 j := fun j q1 q2 q3 => by rw [cj j q3, b1 j q2]; exact aj j q1
      have hHC : HTx t n0.toInt.toNat MC := ⟨by rw [m3, a16]; omega, by omega, htt, fun k hk => by rw [mj 413 (by decide) (by decide) (by decide)]; exact htp k hk⟩
      have hatC : (MC.1 300 15).toInt = ((0 : Nat) : Int) := by rw [m3, a15]; rfl
      have hbC : (MC.1 300 21).toInt = 0 := by rw [m3, a21]; rfl
      have hPC : RP T0 MC := RP.begin hT0 (fun k q1 q2 => by rw [cj 402 (by decide)]; exact b4 k q1 q2) c8
      have hFC : frR M MC := by
        refine ⟨fun j q1 q2 q3 q4 q5 q6 q7 q8 => mj j q1 q2 q6, by rw [c2, b2, a2], fun k q1 q2 => by rw [m3]; exact af k (by omega), fun k hk => by rw [cj 402 (by decide), b3 k hk, aj 402 (by decide)], fun k hk => ⟨by rw [mj 403 (by decide) (by decide) (by decide)], by rw [mj 404 (by decide) (by decide) (by decide)]⟩, fun k hk => ⟨by rw [mj 405 (by decide) (by decide) (by decide)], by rw [mj 411 (by decide) (by decide) (by decide)]⟩, by rw [m3, a1]; rfl, by rw [m3, a14]; rfl, by rw [m3, a23]; rfl⟩
      refine g_aload_n0 dX6_town_76 rfl ?_
      refine g_callVv0 dX6_town_77 rfl vX6_192 hR.1 rfl (r_stepOn (e := 0) hR hHC (Nat.zero_le _) hatC) (g_rm (by omega)) (Nat.le_of_ble_eq_true rfl) (fun M77 e77 => ?_)
      refine g_iconstI dX6_town_80 rfl rfl (fun w80 h80 => ?_)
      refine g_istore_n2 dX6_town_81 rfl rfl ?_
      have hDD : RD t n0.toInt.toNat (.inr 0) M77 := RD.s e77.1 hbC (Nat.zero_le _) e77.2
      have hFD : frR M M77 := hFC.p e77.1.t.p
      refine l_tw2 (T0 := T0) (M0 := M77) hR hKd (hHC.s e77.1) (fun j hj => by rw [hFD.1 400 (by decide) (by decide) (by decide) (by decide) (by decide) (by decide) (by decide) (by decide)]; exact hKm j hj) (fun M9 q sn9 h1 h2 h3 => ?_) (fun M9 T9 sn9 h1 h2 h3 h4 h5 => ?_) _ 701 T0 0 0 0 w80 M77 rfl hDD (hPC.t e77.1.t) hV0 ⟨Or.inl rfl, Or.inl rfl, by omega⟩ (fun _ => hT0 2 (by decide)) frP.rf (by omega) rfl
      · exact l_tw6 hR hn hst (hFD.p h2) h1 h3
      · exact l_tw7 hR hn hst (hFD.p h4) h1 h2 h3 h5
    · -- 14 f
      refine g_aload_n0 dX6_town_17 rfl ?_
      refine g_iconst (v := 1) dX6_town_18 rfl rfl ?_
      refine g_callVi1 dX6_town_19 rfl vX6_243 hR.1 rfl (r_fail hR) (g_rm (by omega)) (Nat.le_of_ble_eq_true rfl) (fun z19 M19 e19 => ?_)
      obtain ⟨rfl, e19⟩ := e19
      refine g_iret dX6_town_22 rfl ?_
      exact ⟨_, rfl, Or.inl ⟨by omega, e19, rfl⟩⟩
