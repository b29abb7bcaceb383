/-- a day's drying, as a value -/
def dryV (T : gTw) (i : Nat) : Int := if (i : Int) < T 0 1 ∧ (T 0 5).toNat.testBit i = true ∧ 1 < T 7 i then T 7 i - 1 else T 7 i
def dryT (T : gTw) : gTw := fun f i => if f = 7 then dryV T i else T f i
theorem v_dry {M : gM} {t i : Nat} (hB : TB M t) (hi : i < 12) : dryW M t i = dryV (tv M t) i := by
  have h5 := hB.1.2.2.2.2.2
  rw [dryW, dryV, tv0 (by omega), tv0 (by omega), tvw (by omega) hi, bn_toNat h5.1]
theorem TOK.dry {T : gTw} (h : TOK T) : TOK (dryT T) := by
  obtain ⟨o1, o2, o3, o4, o5, o6, o7, o8⟩ := h
  refine ⟨o1, o2, o3, o4, o5, o6, o7, fun i hi => ⟨?_, (o8 i hi).2⟩⟩
  have := (o8 i hi).1
  show 0 ≤ dryV T i ∧ dryV T i ≤ 99
  rw [dryV]; split <;> omega
/-- the reference's weights, the first i dried -/
def wrI (T : gTw) (M M' : gM) (i : Nat) : Prop := (∀ j, j ≠ 409 → M'.1 j = M.1 j) ∧ M'.2 = M.2 ∧ ∀ k : Nat, (k : Int) < T 0 1 → (M'.1 409 k).toInt = if k < i then dryV T k else T 7 k
theorem wr_skip {T : gTw} {M M' : gM} {i : Nat} (h : wrI T M M' i) (hd : dryV T i = T 7 i) : wrI T M M' (i + 1) := by
  refine ⟨h.1, h.2.1, fun k hk => ?_⟩
  rw [h.2.2 k hk]
  by_cases hki : k < i
  · rw [if_pos hki, if_pos (by omega)]
  · rw [if_neg hki]
    by_cases hk2 : k = i
    · subst hk2; rw [if_pos (by omega), hd]
    · rw [if_neg (by omega)]
theorem wr_step {T : gTw} {M M' : gM} {i : Nat} {x : Int32} (h : wrI T M M' i) (hd : x.toInt = dryV T i) : wrI T M (g_u M' 409 i x) (i + 1) := by
  refine ⟨fun j hj => by rw [g_u_ne hj]; exact h.1 j hj, h.2.1, fun k hk => ?_⟩
  rw [g_u_eq]
  by_cases hk2 : k = i
  · subst hk2; rw [if_pos rfl, if_pos (by omega), hd]
  · rw [if_neg hk2, h.2.2 k hk]
    by_cases hki : k < i
    · rw [if_pos hki, if_pos (by omega)]
    · rw [if_neg hki, if_neg (by omega)]
set_option maxHeartbeats 1200000 in
theorem l_dry {Γ : gW} {M0 : gM} {T : gTw} (hR : g_Ref Γ) (hO : TOK T) (hS : RS T M0) {Q : Option Value → gM → Prop} (hQ : ∀ M : gM, wrI T M0 M (T 0 1).toNat → Q none M) : ∀ (n9 : Nat) (i : Int32) (M : gM), (T 0 1).toNat - i.toInt.toNat = n9 → 0 ≤ i.toInt → i.toInt ≤ T 0 1 → wrI T M0 M i.toInt.toNat → G Γ μX6_dry (g_R 0) (0, 0) (g_Z Γ Q) 2 [some (.ref 300), some (.int i)] [] M := by
  intro n9
  induction n9 using Nat.strongRecOn with
  | ind n9 ih =>
    intro i M hn hi0 hi1 hwr
    obtain ⟨hC, hW, hA, hDy, hWe⟩ := id hS
    obtain ⟨o_pe, o_th, o_la, o_wi, o_da, o_we, o_p, o_i⟩ := id hO
    obtain ⟨r_0, r_1, r_2, r_3, r_p, r_i⟩ := id hC
    clear o_p r_p r_i
    have m402 := hwr.1 402 (by decide)
    have m411 := hwr.1 411 (by decide)
    refine g_iload_n1 dX6_dry_2 rfl ?_
    refine g_aload_n0 dX6_dry_3 rfl ?_
    refine g_getr dX6_dry_4 rfl fX6_25 hR.1 rfl ?_
    refine g_iconstI dX6_dry_7 rfl rfl (fun w7 h7 => ?_)
    refine g_ialdI dX6_dry_8 rfl (rf_told hR) ⟨by omega, by omega⟩ ?_
    have et8 : w7.toInt.toNat = 1 := by omega
    rw [et8, m402]
    clear et8
    refine g_icmp_geI (t := 47) dX6_dry_9 (by decide) rfl (fun c9 => ?_) (fun c9 => ?_)
    · -- 9 t
      refine g_vret dX6_dry_47 rfl ?_
      exact hQ M (by rw [show (T 0 1).toNat = i.toInt.toNat by omega]; exact hwr)
    · -- 9 f
      refine g_aload_n0 dX6_dry_12 rfl ?_
      refine g_getr dX6_dry_13 rfl fX6_53 hR.1 rfl ?_
      refine g_iload_n1 dX6_dry_16 rfl ?_
      refine g_zaldI dX6_dry_17 rfl (rf_isWet hR) ⟨by omega, by omega⟩ ?_
      rw [m411]
      have qw := hWe i.toInt.toNat (by omega)
      have q9 := hwr.2.2 i.toInt.toNat (by omega)
      rw [if_neg (by omega)] at q9
      have ob := (o_i i.toInt.toNat (by omega)).1
      refine g_if_eqI (t := 41) dX6_dry_18 (by decide) rfl (fun c18 => ?_) (fun c18 => ?_)
      · -- 18 t
        have hd : dryV T i.toInt.toNat = T 7 i.toInt.toNat := by
          rw [dryV, if_neg]
          rintro ⟨-, a, -⟩
          rw [if_pos a] at qw
          omega
        clear qw
        refine g_iincI1 dX6_dry_41 rfl rfl rfl ⟨by omega, by omega⟩ (fun w41 h41 => ?_)
        refine g_goto (t := 2) dX6_dry_44 (by decide) ?_
        first
          | (have hz := hd2; exact ih _ (by omega) _ _ rfl (by omega) (by omega) (by rw [h41, show (i.toInt + 1).toNat = i.toInt.toNat + 1 by omega]; exact wr_step hwr (by omega)))
          | exact ih _ (by omega) _ _ rfl (by omega) (by omega) (by rw [h41, show (i.toInt + 1).toNat = i.toInt.toNat + 1 by omega]; exact wr_skip hwr hd)
      · -- 18 f
        have htb : (T 0 5).toNat.testBit i.toInt.toNat = true := by
          by_cases hb : (T 0 5).toNat.testBit i.toInt.toNat = true
          · exact hb
          · rw [if_neg hb] at qw; omega
        clear qw
        refine g_aload_n0 dX6_dry_21 rfl ?_
        refine g_getr dX6_dry_22 rfl fX6_47 hR.1 rfl ?_
        refine g_iload_n1 dX6_dry_25 rfl ?_
        refine g_ialdI dX6_dry_26 rfl (rf_weight hR) ⟨by omega, by omega⟩ ?_
        refine g_iconstI dX6_dry_27 rfl rfl (fun w27 h27 => ?_)
        refine g_icmp_leI (t := 41) dX6_dry_28 (by decide) rfl (fun c28 => ?_) (fun c28 => ?_)
        · -- 28 t
          have hd : dryV T i.toInt.toNat = T 7 i.toInt.toNat := by
            rw [dryV, if_neg]
            rintro ⟨-, -, a⟩
            omega
          refine g_iincI1 dX6_dry_41 rfl rfl rfl ⟨by omega, by omega⟩ (fun w41 h41 => ?_)
          refine g_goto (t := 2) dX6_dry_44 (by decide) ?_
          first
            | (have hz := hd2; exact ih _ (by omega) _ _ rfl (by omega) (by omega) (by rw [h41, show (i.toInt + 1).toNat = i.toInt.toNat + 1 by omega]; exact wr_step hwr (by omega)))
            | exact ih _ (by omega) _ _ rfl (by omega) (by omega) (by rw [h41, show (i.toInt + 1).toNat = i.toInt.toNat + 1 by omega]; exact wr_skip hwr hd)
        · -- 28 f
          have hd2 : dryV T i.toInt.toNat = T 7 i.toInt.toNat - 1 := by
            rw [dryV, if_pos ⟨by omega, htb, by omega⟩]
          refine g_aload_n0 dX6_dry_31 rfl ?_
          refine g_getr dX6_dry_32 rfl fX6_47 hR.1 rfl ?_
          refine g_iload_n1 dX6_dry_35 rfl ?_
          refine g_dup2 dX6_dry_36 rfl rfl rfl ?_
          refine g_ialdI dX6_dry_37 rfl (rf_weight hR) ⟨by omega, by omega⟩ ?_
          refine g_iconstI dX6_dry_38 rfl rfl (fun w38 h38 => ?_)
          refine g_isubI dX6_dry_39 rfl ⟨by omega, by omega⟩ (fun w39 h39 => ?_)
          refine g_iastI dX6_dry_40 rfl (rf_weight hR) ⟨by omega, by omega⟩ ?_
          refine g_iincI1 dX6_dry_41 rfl rfl rfl ⟨by omega, by omega⟩ (fun w41 h41 => ?_)
          refine g_goto (t := 2) dX6_dry_44 (by decide) ?_
          first
            | (have hz := hd2; exact ih _ (by omega) _ _ rfl (by omega) (by omega) (by rw [h41, show (i.toInt + 1).toNat = i.toInt.toNat + 1 by omega]; exact wr_step hwr (by omega)))
            | exact ih _ (by omega) _ _ rfl (by omega) (by omega) (by rw [h41, show (i.toInt + 1).toNat = i.toInt.toNat + 1 by omega]; exact wr_skip hwr hd)
set_option maxHeartbeats 1200000 in
theorem r_dry {Γ : gW} {M : gM} {T : gTw} (hR : g_Ref Γ) (hO : TOK T) (hS : RS T M)  : Ct Γ yX6_dry μX6_dry 0 [.ref 300] M (g_qv (fun M1 => wrI T M M1 (T 0 1).toNat)) := by
  obtain ⟨hC, hW, hA, hDy, hWe⟩ := id hS
  obtain ⟨o_pe, o_th, o_la, o_wi, o_da, o_we, o_p, o_i⟩ := id hO
  obtain ⟨r_0, r_1, r_2, r_3, r_p, r_i⟩ := id hC
  refine g_enter rfl rfl rfl (Nat.le_of_ble_eq_true rfl) ?_
  show G Γ _ _ _ _ 0 [some (.ref 300), none] [] M
  refine g_iconstI dX6_dry_0 rfl rfl (fun w0 h0 => ?_)
  refine g_istore_n1 dX6_dry_1 rfl rfl ?_
  exact l_dry hR hO hS (fun M1 h => ⟨rfl, h⟩) _ w0 M rfl (by omega) (by omega) ⟨fun _ _ => rfl, rfl, fun k hk => by rw [if_neg (by omega)]; exact hW k hk⟩
theorem RS.dry {T : gTw} {M M1 : gM} (h : RS T M) (h0 : 0 ≤ T 0 1) (hw : wrI T M M1 (T 0 1).toNat) : RS (dryT T) M1 := by
  obtain ⟨a, b, c, d, e⟩ := h
  have r : ∀ j, j ≠ 409 → M1.1 j = M.1 j := hw.1
  refine ⟨?_, fun i hi => ?_, ?_, by rw [r 300 (by decide)]; exact d, by rw [r 411 (by decide)]; exact e⟩
  · unfold CR at a ⊢; rw [r 402 (by decide), r 403 (by decide), r 404 (by decide), r 405 (by decide)]; exact a
  · have := hw.2.2 i hi
    rw [if_pos (by have hi2 : (i : Int) < T 0 1 := hi; omega)] at this
    exact this
  · rw [r 407 (by decide)]; exact c
theorem WR.up {T : gTw} {M : gM} {i : Nat} {x : Int32} (h : WR T M) : WR (upT T 7 i x.toInt) (g_u M 409 i x) := fun k hk => by
  rw [g_u_eq]
  by_cases hki : k = i
  · subst hki; rw [if_pos rfl, upT_eq]
  · rw [if_neg hki, upT_ne (by omega)]; exact h k hk
theorem RS.up {T : gTw} {M : gM} {i : Nat} {x : Int32} (h : RS T M) : RS (upT T 7 i x.toInt) (g_u M 409 i x) := by
  obtain ⟨a, b, c, d, e⟩ := h
  refine ⟨?_, WR.up b, ?_, by rw [g_u_ne (by decide)]; exact d, by rw [g_u_ne (by decide)]; exact e⟩
  · unfold CR at a ⊢; rw [g_u_ne (show 402 ≠ 409 by decide), g_u_ne (show 403 ≠ 409 by decide), g_u_ne (show 404 ≠ 409 by decide), g_u_ne (show 405 ≠ 409 by decide)]; exact a
  · rw [g_u_ne (by decide)]; exact c
theorem TOK.up7 {T : gTw} {i : Nat} {x : Int} (h : TOK T) (hx : 0 ≤ x ∧ x ≤ 99) : TOK (upT T 7 i x) := by
  obtain ⟨o1, o2, o3, o4, o5, o6, o7, o8⟩ := h
  refine ⟨o1, o2, o3, o4, o5, o6, o7, fun k hk => ⟨?_, ?_⟩⟩
  · by_cases hki : k = i
    · subst hki; rw [upT_eq]; exact hx
    · rw [upT_ne (by omega)]; exact (o8 k hk).1
  · rw [upT_ne (by omega)]; exact (o8 k hk).2
theorem g_u_back {M : gM} {a i : Nat} {x : Int32} : g_u (g_u M a i x) a i (M.1 a i) = M := by
  refine gm_ext (fun b => ?_) rfl
  by_cases hb : b = a
  · subst hb
    funext j
    rw [g_u_eq, g_u_eq]
    by_cases hj : j = i
    · subst hj; rw [if_pos rfl]
    · rw [if_neg hj, if_neg hj]
  · rw [g_u_ne hb, g_u_ne hb]
set_option maxHeartbeats 1200000 in
theorem r_fitsWith {Γ : gW} {M : gM} {T : gTw} (hR : g_Ref Γ) (hO : TOK T) (hS : RS T M) {p : Int32} (hp : 0 ≤ p.toInt ∧ p.toInt < T 0 0) {i w : Int32} (hi : 0 ≤ i.toInt ∧ i.toInt < T 0 1) (hw : 0 ≤ w.toInt ∧ w.toInt ≤ 99) : Ct Γ yX6_fitsWith μX6_fitsWith 4 [.ref 300, .int p, .int i, .int w] M (g_qi (fun z M1 => M1 = M ∧ (z.toInt = 0 ∨ z.toInt = 1) ∧ (z.toInt = 1 ↔ ∃ u, fitT (upT T 7 i.toInt.toNat w.toInt) p.toInt.toNat u))) := by
  obtain ⟨hC, hW, hA, hDy, hWe⟩ := id hS
  obtain ⟨o_pe, o_th, o_la, o_wi, o_da, o_we, o_p, o_i⟩ := id hO
  obtain ⟨r_0, r_1, r_2, r_3, r_p, r_i⟩ := id hC
  refine g_enter rfl rfl rfl (Nat.le_of_ble_eq_true rfl) ?_
  show G Γ _ _ _ _ 0 [some (.ref 300), some (.int p), some (.int i), some (.int w), none, none] [] M
  refine g_aload_n0 dX6_fitsWith_0 rfl ?_
  refine g_getr dX6_fitsWith_1 rfl fX6_47 hR.1 rfl ?_
  refine g_iload_n2 dX6_fitsWith_4 rfl ?_
  refine g_ialdI dX6_fitsWith_5 rfl (rf_weight hR) ⟨by omega, by omega⟩ ?_
  refine g_istore4 dX6_fitsWith_6 rfl rfl ?_
  refine g_aload_n0 dX6_fitsWith_8 rfl ?_
  refine g_getr dX6_fitsWith_9 rfl fX6_47 hR.1 rfl ?_
  refine g_iload_n2 dX6_fitsWith_12 rfl ?_
  refine g_iload_n3 dX6_fitsWith_13 rfl ?_
  refine g_iastI dX6_fitsWith_14 rfl (rf_weight hR) ⟨by omega, by omega⟩ ?_
  refine g_aload_n0 dX6_fitsWith_15 rfl ?_
  refine g_iload_n1 dX6_fitsWith_16 rfl ?_
  refine g_callVi1 dX6_fitsWith_17 rfl vX6_371 hR.1 rfl (r_anyFits hR (TOK.up7 hO hw) (RS.up hS) hp) (g_rm (by omega)) (Nat.le_of_ble_eq_true rfl) (fun z17 M17 e17 => ?_)
  obtain ⟨e17a, e17, f17⟩ := e17
  subst e17a
  refine g_istore5 dX6_fitsWith_20 rfl rfl ?_
  refine g_aload_n0 dX6_fitsWith_22 rfl ?_
  refine g_getr dX6_fitsWith_23 rfl fX6_47 hR.1 rfl ?_
  refine g_iload_n2 dX6_fitsWith_26 rfl ?_
  refine g_iload4 dX6_fitsWith_27 rfl ?_
  refine g_iastI dX6_fitsWith_29 rfl (rf_weight hR) ⟨by omega, by omega⟩ ?_
  rw [g_u_back]
  refine g_iload5 dX6_fitsWith_30 rfl ?_
  refine g_zretI dX6_fitsWith_32 rfl (e17) ?_
  exact ⟨_, rfl, rfl, e17, f17⟩
