set_option maxHeartbeats 1200000 in
theorem l_cutEnd {Γ : gW} {M : gM} {p w n f h i : Int32} {z : Option Value} {Q : Option Value → gM → Prop} (hQ : ∀ x : Int32, x.toInt = (if w.toInt = 0 then n.toInt else f.toInt) → Q (some (.int x)) M) : G Γ μX6_cut (g_R 5) (0, 0) (g_Z Γ Q) 178 [some (.ref 300), some (.int p), some (.int w), some (.int n), some (.int f), some (.int h), some (.int i), z] [] M := by
  refine g_iload_n2 dX6_cut_178 rfl ?_
  refine g_if_neI (t := 186) dX6_cut_179 (by decide) rfl (fun c179 => ?_) (fun c179 => ?_)
  · -- 179 t
    refine g_iload4 dX6_cut_186 rfl ?_
    refine g_iret dX6_cut_188 rfl ?_
    first
      | (have hz := c179; exact hQ _ (by rw [if_neg hz]))
      | (have hz := c179; exact hQ _ (by rw [if_pos hz]))
  · -- 179 f
    refine g_iload_n3 dX6_cut_182 rfl ?_
    refine g_goto (t := 188) dX6_cut_183 (by decide) ?_
    refine g_iret dX6_cut_188 rfl ?_
    first
      | (have hz := c179; exact hQ _ (by rw [if_neg hz]))
      | (have hz := c179; exact hQ _ (by rw [if_pos hz]))
set_option maxHeartbeats 1200000 in
theorem l_cutNo {Γ : gW} {M : gM} (hR : g_Ref Γ) {p w n f h i : Int32} {z : Option Value} (hh : h.toInt = 0) {Q : Option Value → gM → Prop} (hQ : ∀ x : Int32, x.toInt = (if w.toInt = 0 then n.toInt else f.toInt) → Q (some (.int x)) M) : G Γ μX6_cut (g_R 5) (0, 0) (g_Z Γ Q) 63 [some (.ref 300), some (.int p), some (.int w), some (.int n), some (.int f), some (.int h), some (.int i), z] [] M := by
  refine g_iload6 dX6_cut_63 rfl ?_
  refine g_aload_n0 dX6_cut_65 rfl ?_
  refine g_getr dX6_cut_66 rfl fX6_25 hR.1 rfl ?_
  refine g_iconstI dX6_cut_69 rfl rfl (fun w69 h69 => ?_)
  refine g_ialdI dX6_cut_70 rfl (rf_told hR) ⟨by omega, by omega⟩ ?_
  have et70 : w69.toInt.toNat = 1 := by omega
  rw [et70]
  clear et70
  refine g_icmp_geI (t := 178) dX6_cut_71 (by decide) rfl (fun c71 => ?_) (fun c71 => ?_)
  · -- 71 t
    exact l_cutEnd hQ
  · -- 71 f
    refine g_iload5 dX6_cut_74 rfl ?_
    refine g_if_eqI (t := 178) dX6_cut_76 (by decide) rfl (fun c76 => ?_) (fun c76 => absurd c76 (by omega))
    exact l_cutEnd hQ
set_option maxHeartbeats 1200000 in
theorem r_cut {Γ : gW} {M : gM} {T : gTw} (hR : g_Ref Γ) (hO : TOK T) (hS : RS T M) {p w : Int32} : Ct Γ yX6_cut μX6_cut 5 [.ref 300, .int p, .int w] M (g_qi (fun z M1 => (¬ (0 ≤ p.toInt ∧ p.toInt < T 0 0 ∧ 0 ≤ w.toInt ∧ w.toInt ≤ 1) ∧ z.toInt = 0 ∧ M1 = g_u (g_u M 300 1 0) 300 1 1) ∨ ((0 ≤ p.toInt ∧ p.toInt < T 0 0 ∧ 0 ≤ w.toInt ∧ w.toInt ≤ 1) ∧ M1 = g_u M 300 1 0 ∧ (((0 < T 4 p.toInt.toNat ∧ ¬ ∃ u, fitT T p.toInt.toNat u) ∧ z.toInt = if w.toInt = 0 then (cutOut (okT T p.toInt.toNat) (fun t => if t < 12 then mT T p.toInt.toNat t else 0) (T 0 1).toNat).1 else (cutOut (okT T p.toInt.toNat) (fun t => if t < 12 then mT T p.toInt.toNat t else 0) (T 0 1).toNat).2) ∨ (¬ (0 < T 4 p.toInt.toNat ∧ ¬ ∃ u, fitT T p.toInt.toNat u) ∧ z.toInt = if w.toInt = 0 then 0 else -1))))) := by
  have hS0 := RS.code (x := 0) hS
  obtain ⟨hC, hW, hA, hDy, hWe⟩ := id hS0
  obtain ⟨o_pe, o_th, o_la, o_wi, o_da, o_we, o_p, o_i⟩ := id hO
  obtain ⟨r_0, r_1, r_2, r_3, r_p, r_i⟩ := id hC
  clear o_i r_p r_i o_la o_da o_we
  refine g_enter rfl rfl rfl (Nat.le_of_ble_eq_true rfl) ?_
  show G Γ _ _ _ _ 0 [some (.ref 300), some (.int p), some (.int w), none, none, none, none, none] [] M
  refine g_aload_n0 dX6_cut_0 rfl ?_
  refine g_iconst (v := 0) dX6_cut_1 rfl rfl ?_
  refine g_put dX6_cut_2 rfl fX6_128 hR.1 rfl rfl rfl ?_
  refine g_aload_n0 dX6_cut_5 rfl ?_
  refine g_iload_n1 dX6_cut_6 rfl ?_
  refine g_callVi1 dX6_cut_7 rfl vX6_263 hR.1 rfl (r_isPerson hR hO hC) (g_rm (by omega)) (Nat.le_of_ble_eq_true rfl) (fun z7 M7 e7 => ?_)
  obtain ⟨e7a, e7, f7⟩ := e7
  subst e7a
  refine g_if_eqI (t := 22) dX6_cut_10 (by decide) rfl (fun c10 => ?_) (fun c10 => ?_)
  · -- 10 t
    have hp : ¬ (0 ≤ p.toInt ∧ p.toInt < T 0 0) := fun h => by have := f7.mpr h; omega
    clear f7 e7
    refine g_aload_n0 dX6_cut_22 rfl ?_
    refine g_iconst (v := 1) dX6_cut_23 rfl rfl ?_
    refine g_callVi1 dX6_cut_24 rfl vX6_243 hR.1 rfl (r_fail hR) (g_rm (by omega)) (Nat.le_of_ble_eq_true rfl) (fun z24 M24 e24 => ?_)
    obtain ⟨e24a, e24⟩ := e24
    subst e24a
    refine g_iret dX6_cut_27 rfl ?_
    exact ⟨_, rfl, Or.inl ⟨by omega, e24, rfl⟩⟩
  · -- 10 f
    have hp := f7.mp (by omega)
    clear f7 e7
    refine g_iload_n2 dX6_cut_13 rfl ?_
    refine g_if_ltI (t := 22) dX6_cut_14 (by decide) rfl (fun c14 => ?_) (fun c14 => ?_)
    · -- 14 t
      refine g_aload_n0 dX6_cut_22 rfl ?_
      refine g_iconst (v := 1) dX6_cut_23 rfl rfl ?_
      refine g_callVi1 dX6_cut_24 rfl vX6_243 hR.1 rfl (r_fail hR) (g_rm (by omega)) (Nat.le_of_ble_eq_true rfl) (fun z24 M24 e24 => ?_)
      obtain ⟨e24a, e24⟩ := e24
      subst e24a
      refine g_iret dX6_cut_27 rfl ?_
      exact ⟨_, rfl, Or.inl ⟨by omega, e24, rfl⟩⟩
    · -- 14 f
      refine g_iload_n2 dX6_cut_17 rfl ?_
      refine g_iconstI dX6_cut_18 rfl rfl (fun w18 h18 => ?_)
      refine g_icmp_leI (t := 28) dX6_cut_19 (by decide) rfl (fun c19 => ?_) (fun c19 => ?_)
      · -- 19 t
        obtain ⟨-, a_o, -, -⟩ := hA.1 p.toInt.toNat (by omega)
        rw [g_u_ne (show 407 ≠ 300 by decide)] at a_o
        refine g_iconstI dX6_cut_28 rfl rfl (fun w28 h28 => ?_)
        refine g_istore_n3 dX6_cut_29 rfl rfl ?_
        refine g_iconstI dX6_cut_30 rfl rfl (fun w30 h30 => ?_)
        refine g_istore4 dX6_cut_31 rfl rfl ?_
        refine g_aload_n0 dX6_cut_33 rfl ?_
        refine g_getr dX6_cut_34 rfl fX6_41 hR.1 rfl ?_
        refine g_bipushI dX6_cut_37 rfl rfl (fun w37 h37 => ?_)
        refine g_iload_n1 dX6_cut_39 rfl ?_
        refine g_iaddI dX6_cut_40 rfl ⟨by omega, by omega⟩ (fun w40 h40 => ?_)
        refine g_ialdI dX6_cut_41 rfl (rf_now hR) ⟨by omega, by omega⟩ ?_
        rw [g_u_ne (show 407 ≠ 300 by omega)]
        rw [show w40.toInt.toNat = 18 + p.toInt.toNat by omega]
        refine g_if_leI (t := 57) dX6_cut_42 (by decide) rfl (fun c42 => ?_) (fun c42 => ?_)
        · -- 42 t
          have hnl : T 4 p.toInt.toNat ≤ 0 := by omega
          refine g_iconstI dX6_cut_57 rfl rfl (fun w57 h57 => ?_)
          refine g_istore5 dX6_cut_58 rfl rfl ?_
          refine g_iconstI dX6_cut_60 rfl rfl (fun w60 h60 => ?_)
          refine g_istore6 dX6_cut_61 rfl rfl ?_
          first
            | (have hz := h53
               refine l_cutOut hR hO hS0 hp (w := w) hz (fun n1 f1 i1 z1 hn1 hf1 => ?_) _ _ _ _ _ rfl (by omega) (by omega) (by rw [h28, h60]; rfl) (by rw [h30, h60]; rfl)
               exact l_cutEnd (fun x hx => ⟨_, rfl, Or.inr ⟨by omega, rfl, Or.inl ⟨⟨hyl, hfn⟩, by rw [hx, hn1, hf1]⟩⟩⟩))
            | (have hz := h57
               exact l_cutNo hR hz (fun x hx => ⟨_, rfl, Or.inr ⟨by omega, rfl, Or.inr ⟨(by first | (have hz := hnl; exact fun h => absurd h.1 (by omega)) | (have hz := hfy; exact fun h => h.2 hz)), by rw [hx, h28, h30]⟩⟩⟩))
        · -- 42 f
          have hyl : 0 < T 4 p.toInt.toNat := by omega
          refine g_aload_n0 dX6_cut_45 rfl ?_
          refine g_iload_n1 dX6_cut_46 rfl ?_
          refine g_callVi1 dX6_cut_47 rfl vX6_371 hR.1 rfl (r_anyFits hR hO hS0 hp) (g_rm (by omega)) (Nat.le_of_ble_eq_true rfl) (fun z47 M47 e47 => ?_)
          obtain ⟨e47a, e47, f47⟩ := e47
          subst e47a
          refine g_if_neI (t := 57) dX6_cut_50 (by decide) rfl (fun c50 => ?_) (fun c50 => ?_)
          · -- 50 t
            have hfy := f47.mp (by omega)
            clear f47 e47
            refine g_iconstI dX6_cut_57 rfl rfl (fun w57 h57 => ?_)
            refine g_istore5 dX6_cut_58 rfl rfl ?_
            refine g_iconstI dX6_cut_60 rfl rfl (fun w60 h60 => ?_)
            refine g_istore6 dX6_cut_61 rfl rfl ?_
            first
              | (have hz := h53
                 refine l_cutOut hR hO hS0 hp (w := w) hz (fun n1 f1 i1 z1 hn1 hf1 => ?_) _ _ _ _ _ rfl (by omega) (by omega) (by rw [h28, h60]; rfl) (by rw [h30, h60]; rfl)
                 exact l_cutEnd (fun x hx => ⟨_, rfl, Or.inr ⟨by omega, rfl, Or.inl ⟨⟨hyl, hfn⟩, by rw [hx, hn1, hf1]⟩⟩⟩))
              | (have hz := h57
                 exact l_cutNo hR hz (fun x hx => ⟨_, rfl, Or.inr ⟨by omega, rfl, Or.inr ⟨(by first | (have hz := hnl; exact fun h => absurd h.1 (by omega)) | (have hz := hfy; exact fun h => h.2 hz)), by rw [hx, h28, h30]⟩⟩⟩))
          · -- 50 f
            have hfn : ¬ ∃ u, fitT T p.toInt.toNat u := fun h => by have := f47.mpr h; omega
            clear f47 e47
            refine g_iconstI dX6_cut_53 rfl rfl (fun w53 h53 => ?_)
            refine g_goto (t := 58) dX6_cut_54 (by decide) ?_
            refine g_istore5 dX6_cut_58 rfl rfl ?_
            refine g_iconstI dX6_cut_60 rfl rfl (fun w60 h60 => ?_)
            refine g_istore6 dX6_cut_61 rfl rfl ?_
            first
              | (have hz := h53
                 refine l_cutOut hR hO hS0 hp (w := w) hz (fun n1 f1 i1 z1 hn1 hf1 => ?_) _ _ _ _ _ rfl (by omega) (by omega) (by rw [h28, h60]; rfl) (by rw [h30, h60]; rfl)
                 exact l_cutEnd (fun x hx => ⟨_, rfl, Or.inr ⟨by omega, rfl, Or.inl ⟨⟨hyl, hfn⟩, by rw [hx, hn1, hf1]⟩⟩⟩))
              | (have hz := h57
                 exact l_cutNo hR hz (fun x hx => ⟨_, rfl, Or.inr ⟨by omega, rfl, Or.inr ⟨(by first | (have hz := hnl; exact fun h => absurd h.1 (by omega)) | (have hz := hfy; exact fun h => h.2 hz)), by rw [hx, h28, h30]⟩⟩⟩))
      · -- 19 f
        refine g_aload_n0 dX6_cut_22 rfl ?_
        refine g_iconst (v := 1) dX6_cut_23 rfl rfl ?_
        refine g_callVi1 dX6_cut_24 rfl vX6_243 hR.1 rfl (r_fail hR) (g_rm (by omega)) (Nat.le_of_ble_eq_true rfl) (fun z24 M24 e24 => ?_)
        obtain ⟨e24a, e24⟩ := e24
        subst e24a
        refine g_iret dX6_cut_27 rfl ?_
        exact ⟨_, rfl, Or.inl ⟨by omega, e24, rfl⟩⟩
