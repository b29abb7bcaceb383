def pBr {β : Type} (ρ : (Int × Int) ⊕ Nat) (f : Nat → pR β) : pR β := match ρ with
  | .inl q => .inl q
  | .inr e => f e
theorem RP.same {T T' : gTw} {M : gM} (h : RP T M) (he : T = T') : RP T' M := he ▸ h
theorem upT_id {T : gTw} {f i : Nat} {x : Int} (h : T f i = x) : upT T f i x = T := by
  funext a b
  rw [upT]
  split
  · rename_i hab; rw [hab.1, hab.2, h]
  · rfl
set_option maxHeartbeats 1200000 in
theorem r_readLaw {Γ : gW} {M : gM} {t : Nat → Int} {n : Nat} {T : gTw} {ρ : (Int × Int) ⊕ Nat} (hR : g_Ref Γ) (hH : HTx t n M) (hD : RD t n ρ M) (hP : RP T M) (hl2 : ∀ e, ρ = .inr e → T 0 2 = 0) : Ct Γ yX6_readLaw μX6_readLaw 5 [.ref 300] M (g_qv (fun M1 => RDP t n (pBr ρ (pLaw t n T)) M1 ∧ frP M M1)) := by
  have x7 := hH.2.1
  refine g_enter rfl rfl rfl (Nat.le_of_ble_eq_true rfl) ?_
  show G Γ _ _ _ _ 0 [some (.ref 300), none] [] M
  refine g_aload_n0 dX6_readLaw_0 rfl ?_
  refine g_ldcS (c := 28) dX6_readLaw_1 rfl rfl ?_
  refine g_callVi1 dX6_readLaw_3 rfl vX6_188 hR.1 rfl (r_is (c := 28) hR hH hD rfl) (g_rm (by omega)) (Nat.le_of_ble_eq_true rfl) (fun z3 M3 e3 => ?_)
  obtain ⟨rfl, e3, f3⟩ := e3
  replace f3 : z3.toInt = 1 ↔ isR t n ρ w_giver := f3
  refine g_istore_n1 dX6_readLaw_6 rfl rfl ?_
  refine g_iload_n1 dX6_readLaw_7 rfl ?_
  refine g_if_neI (t := 25) dX6_readLaw_8 (by decide) rfl (fun c8 => ?_) (fun c8 => ?_)
  · -- 8 t
    have hy := f3.mp (by omega)
    clear f3
    refine g_aload_n0 dX6_readLaw_25 rfl ?_
    refine g_geti dX6_readLaw_26 rfl fX6_174 hR.1 rfl ?_
    refine g_if_neI (t := 36) dX6_readLaw_29 (by decide) rfl (fun c29 => ?_) (fun c29 => ?_)
    · -- 29 t
      first
        | (have hz := hy
           exfalso
           cases ρ with
           | inl q => exact hz
           | inr e => exact absurd hD.1 (by omega))
        | (have hz := hy2
           exfalso
           cases ρ with
           | inl q => exact hz
           | inr e => exact absurd hD.1 (by omega))
        | (have hfr9 : ∀ x : Int32, frP _ (g_u M22 402 6 x) := fun x => frP.tr e22.2.1.p (frP.u (by omega))
           have hfin : ∀ x : Int32, (z3.toInt = 0 → x.toInt = 1) → (¬ z3.toInt = 0 → x.toInt = 0) → RDP t n (pBr ρ (pLaw t n T)) (g_u M22 402 6 x) := fun x _ _ => by
             have h := e22.1
             cases ρ with
             | inl q => exact RD.u h (by decide)
             | inr e =>
               show RDP t n (pLaw t n T e) _
               rw [pLaw, pIf_neg hn1, pIf_neg hn2]
               exact RD.u h (by decide)
           refine g_aload_n0 dX6_readLaw_36 rfl ?_
           refine g_getr dX6_readLaw_37 rfl fX6_25 hR.1 rfl ?_
           refine g_bipushI dX6_readLaw_40 rfl rfl (fun w40 h40 => ?_)
           refine g_iload_n1 dX6_readLaw_42 rfl ?_
           refine g_if_eqI (t := 50) dX6_readLaw_43 (by decide) rfl (fun c43 => ?_) (fun c43 => ?_)
           · -- 43 t
             have hg0 : z3.toInt = 0 := by omega
             refine g_iconstI dX6_readLaw_50 rfl rfl (fun w50 h50 => ?_)
             refine g_iastI dX6_readLaw_51 rfl (rf_told hR) ⟨by omega, by omega⟩ ?_
             rw [show w40.toInt.toNat = 6 by omega]
             refine g_vret dX6_readLaw_52 rfl ?_
             first
               | exact ⟨rfl, hfin _ (fun _ => by omega) (fun _ => by omega), hfr9 _⟩
           · -- 43 f
             have hg1 : ¬ z3.toInt = 0 := by omega
             refine g_iconstI dX6_readLaw_46 rfl rfl (fun w46 h46 => ?_)
             refine g_goto (t := 51) dX6_readLaw_47 (by decide) ?_
             refine g_iastI dX6_readLaw_51 rfl (rf_told hR) ⟨by omega, by omega⟩ ?_
             rw [show w40.toInt.toNat = 6 by omega]
             refine g_vret dX6_readLaw_52 rfl ?_
             first
               | exact ⟨rfl, hfin _ (fun _ => by omega) (fun _ => by omega), hfr9 _⟩)
    · -- 29 f
      first
        | (exfalso
           have h := e22.1
           cases ρ with
           | inl q => have h2 := h.2.1; have h3 := h.1; omega
           | inr y => have h3 : (M22.1 300 21).toInt = 1 := h.1; omega)
        | (obtain ⟨e, rfl⟩ := hD.good (by omega)
           obtain ⟨d1, d2, d3, d4, d5, d6, -⟩ := id hD
           have d8 := tk_rng (t := t) d2
           refine g_aload_n0 dX6_readLaw_32 rfl ?_
           refine g_callVv0 dX6_readLaw_33 rfl vX6_192 hR.1 rfl (r_stepOn hR hH d8.2.2.1 d3) (g_rm (by omega)) (Nat.le_of_ble_eq_true rfl) (fun M33 e33 => ?_)
           have hfr9 : ∀ x : Int32, frP _ (g_u M33 402 6 x) := fun x => frP.tr e33.1.t.p (frP.u (by omega))
           have hfin : ∀ x : Int32, (z3.toInt = 0 → x.toInt = 1) → (¬ z3.toInt = 0 → x.toInt = 0) → RDP t n (pBr (.inr e) (pLaw t n T)) (g_u M33 402 6 x) := fun x h1 h2 => by
             show RDP t n (pLaw t n T e) _
             have hr := RP.set (x := x) (i := 2) (hP.t e33.1.t) (Or.inl rfl)
             have hd := RD.u (i := 402) (k := 6) (x := x) (RD.s e33.1 d1 d8.2.2.1 e33.2) (by decide)
             rw [pLaw]
             first
               | (have hz := hy
                  rw [pIf_pos hz]
                  rw [h2 (by omega), upT_id (hl2 e rfl)] at hr
                  exact ⟨hd, hr⟩)
               | (have hz := hy2
                  rw [pIf_neg hn1, pIf_pos hz]
                  rw [h1 (by omega)] at hr
                  exact ⟨hd, hr⟩)
           refine g_aload_n0 dX6_readLaw_36 rfl ?_
           refine g_getr dX6_readLaw_37 rfl fX6_25 hR.1 rfl ?_
           refine g_bipushI dX6_readLaw_40 rfl rfl (fun w40 h40 => ?_)
           refine g_iload_n1 dX6_readLaw_42 rfl ?_
           refine g_if_eqI (t := 50) dX6_readLaw_43 (by decide) rfl (fun c43 => ?_) (fun c43 => ?_)
           · -- 43 t
             have hg0 : z3.toInt = 0 := by omega
             refine g_iconstI dX6_readLaw_50 rfl rfl (fun w50 h50 => ?_)
             refine g_iastI dX6_readLaw_51 rfl (rf_told hR) ⟨by omega, by omega⟩ ?_
             rw [show w40.toInt.toNat = 6 by omega]
             refine g_vret dX6_readLaw_52 rfl ?_
             first
               | exact ⟨rfl, hfin _ (fun _ => by omega) (fun _ => by omega), hfr9 _⟩
           · -- 43 f
             have hg1 : ¬ z3.toInt = 0 := by omega
             refine g_iconstI dX6_readLaw_46 rfl rfl (fun w46 h46 => ?_)
             refine g_goto (t := 51) dX6_readLaw_47 (by decide) ?_
             refine g_iastI dX6_readLaw_51 rfl (rf_told hR) ⟨by omega, by omega⟩ ?_
             rw [show w40.toInt.toNat = 6 by omega]
             refine g_vret dX6_readLaw_52 rfl ?_
             first
               | exact ⟨rfl, hfin _ (fun _ => by omega) (fun _ => by omega), hfr9 _⟩)
  · -- 8 f
    have hn1 : ¬ isR t n ρ w_giver := fun h => by have := f3.mpr h; omega
    clear f3
    refine g_aload_n0 dX6_readLaw_11 rfl ?_
    refine g_ldcS (c := 29) dX6_readLaw_12 rfl rfl ?_
    refine g_callVi1 dX6_readLaw_14 rfl vX6_188 hR.1 rfl (r_is (c := 29) hR hH hD rfl) (g_rm (by omega)) (Nat.le_of_ble_eq_true rfl) (fun z14 M14 e14 => ?_)
    obtain ⟨rfl, e14, f14⟩ := e14
    replace f14 : z14.toInt = 1 ↔ isR t n ρ w_anyone := f14
    refine g_if_neI (t := 25) dX6_readLaw_17 (by decide) rfl (fun c17 => ?_) (fun c17 => ?_)
    · -- 17 t
      have hy2 := f14.mp (by omega)
      clear f14 e14
      refine g_aload_n0 dX6_readLaw_25 rfl ?_
      refine g_geti dX6_readLaw_26 rfl fX6_174 hR.1 rfl ?_
      refine g_if_neI (t := 36) dX6_readLaw_29 (by decide) rfl (fun c29 => ?_) (fun c29 => ?_)
      · -- 29 t
        first
          | (have hz := hy
             exfalso
             cases ρ with
             | inl q => exact hz
             | inr e => exact absurd hD.1 (by omega))
          | (have hz := hy2
             exfalso
             cases ρ with
             | inl q => exact hz
             | inr e => exact absurd hD.1 (by omega))
          | (have hfr9 : ∀ x : Int32, frP _ (g_u M22 402 6 x) := fun x => frP.tr e22.2.1.p (frP.u (by omega))
             have hfin : ∀ x : Int32, (z3.toInt = 0 → x.toInt = 1) → (¬ z3.toInt = 0 → x.toInt = 0) → RDP t n (pBr ρ (pLaw t n T)) (g_u M22 402 6 x) := fun x _ _ => by
               have h := e22.1
               cases ρ with
               | inl q => exact RD.u h (by decide)
               | inr e =>
                 show RDP t n (pLaw t n T e) _
                 rw [pLaw, pIf_neg hn1, pIf_neg hn2]
                 exact RD.u h (by decide)
             refine g_aload_n0 dX6_readLaw_36 rfl ?_
             refine g_getr dX6_readLaw_37 rfl fX6_25 hR.1 rfl ?_
             refine g_bipushI dX6_readLaw_40 rfl rfl (fun w40 h40 => ?_)
             refine g_iload_n1 dX6_readLaw_42 rfl ?_
             refine g_if_eqI (t := 50) dX6_readLaw_43 (by decide) rfl (fun c43 => ?_) (fun c43 => ?_)
             · -- 43 t
               have hg0 : z3.toInt = 0 := by omega
               refine g_iconstI dX6_readLaw_50 rfl rfl (fun w50 h50 => ?_)
               refine g_iastI dX6_readLaw_51 rfl (rf_told hR) ⟨by omega, by omega⟩ ?_
               rw [show w40.toInt.toNat = 6 by omega]
               refine g_vret dX6_readLaw_52 rfl ?_
               first
                 | exact ⟨rfl, hfin _ (fun _ => by omega) (fun _ => by omega), hfr9 _⟩
             · -- 43 f
               have hg1 : ¬ z3.toInt = 0 := by omega
               refine g_iconstI dX6_readLaw_46 rfl rfl (fun w46 h46 => ?_)
               refine g_goto (t := 51) dX6_readLaw_47 (by decide) ?_
               refine g_iastI dX6_readLaw_51 rfl (rf_told hR) ⟨by omega, by omega⟩ ?_
               rw [show w40.toInt.toNat = 6 by omega]
               refine g_vret dX6_readLaw_52 rfl ?_
               first
                 | exact ⟨rfl, hfin _ (fun _ => by omega) (fun _ => by omega), hfr9 _⟩)
      · -- 29 f
        first
          | (exfalso
             have h := e22.1
             cases ρ with
             | inl q => have h2 := h.2.1; have h3 := h.1; omega
             | inr y => have h3 : (M22.1 300 21).toInt = 1 := h.1; omega)
          | (obtain ⟨e, rfl⟩ := hD.good (by omega)
             obtain ⟨d1, d2, d3, d4, d5, d6, -⟩ := id hD
             have d8 := tk_rng (t := t) d2
             refine g_aload_n0 dX6_readLaw_32 rfl ?_
             refine g_callVv0 dX6_readLaw_33 rfl vX6_192 hR.1 rfl (r_stepOn hR hH d8.2.2.1 d3) (g_rm (by omega)) (Nat.le_of_ble_eq_true rfl) (fun M33 e33 => ?_)
             have hfr9 : ∀ x : Int32, frP _ (g_u M33 402 6 x) := fun x => frP.tr e33.1.t.p (frP.u (by omega))
             have hfin : ∀ x : Int32, (z3.toInt = 0 → x.toInt = 1) → (¬ z3.toInt = 0 → x.toInt = 0) → RDP t n (pBr (.inr e) (pLaw t n T)) (g_u M33 402 6 x) := fun x h1 h2 => by
               show RDP t n (pLaw t n T e) _
               have hr := RP.set (x := x) (i := 2) (hP.t e33.1.t) (Or.inl rfl)
               have hd := RD.u (i := 402) (k := 6) (x := x) (RD.s e33.1 d1 d8.2.2.1 e33.2) (by decide)
               rw [pLaw]
               first
                 | (have hz := hy
                    rw [pIf_pos hz]
                    rw [h2 (by omega), upT_id (hl2 e rfl)] at hr
                    exact ⟨hd, hr⟩)
                 | (have hz := hy2
                    rw [pIf_neg hn1, pIf_pos hz]
                    rw [h1 (by omega)] at hr
                    exact ⟨hd, hr⟩)
             refine g_aload_n0 dX6_readLaw_36 rfl ?_
             refine g_getr dX6_readLaw_37 rfl fX6_25 hR.1 rfl ?_
             refine g_bipushI dX6_readLaw_40 rfl rfl (fun w40 h40 => ?_)
             refine g_iload_n1 dX6_readLaw_42 rfl ?_
             refine g_if_eqI (t := 50) dX6_readLaw_43 (by decide) rfl (fun c43 => ?_) (fun c43 => ?_)
             · -- 43 t
               have hg0 : z3.toInt = 0 := by omega
               refine g_iconstI dX6_readLaw_50 rfl rfl (fun w50 h50 => ?_)
               refine g_iastI dX6_readLaw_51 rfl (rf_told hR) ⟨by omega, by omega⟩ ?_
               rw [show w40.toInt.toNat = 6 by omega]
               refine g_vret dX6_readLaw_52 rfl ?_
               first
                 | exact ⟨rfl, hfin _ (fun _ => by omega) (fun _ => by omega), hfr9 _⟩
             · -- 43 f
               have hg1 : ¬ z3.toInt = 0 := by omega
               refine g_iconstI dX6_readLaw_46 rfl rfl (fun w46 h46 => ?_)
               refine g_goto (t := 51) dX6_readLaw_47 (by decide) ?_
               refine g_iastI dX6_readLaw_51 rfl (rf_told hR) ⟨by omega, by omega⟩ ?_
               rw [show w40.toInt.toNat = 6 by omega]
               refine g_vret dX6_readLaw_52 rfl ?_
               first
                 | exact ⟨rfl, hfin _ (fun _ => by omega) (fun _ => by omega), hfr9 _⟩)
    · -- 17 f
      have hn2 : ¬ isR t n ρ w_anyone := fun h => by have := f14.mpr h; omega
      clear f14 e14
      refine g_aload_n0 dX6_readLaw_20 rfl ?_
      refine g_iconstI dX6_readLaw_21 rfl rfl (fun w21 h21 => ?_)
      refine g_callVv1 dX6_readLaw_22 rfl vX6_195 hR.1 rfl (r_wrong hR hD (by omega)) (g_rm (by omega)) (Nat.le_of_ble_eq_true rfl) (fun M22 e22 => ?_)
      rw [h21] at e22
      refine g_aload_n0 dX6_readLaw_25 rfl ?_
      refine g_geti dX6_readLaw_26 rfl fX6_174 hR.1 rfl ?_
      refine g_if_neI (t := 36) dX6_readLaw_29 (by decide) rfl (fun c29 => ?_) (fun c29 => ?_)
      · -- 29 t
        first
          | (have hz := hy
             exfalso
             cases ρ with
             | inl q => exact hz
             | inr e => exact absurd hD.1 (by omega))
          | (have hz := hy2
             exfalso
             cases ρ with
             | inl q => exact hz
             | inr e => exact absurd hD.1 (by omega))
          | (have hfr9 : ∀ x : Int32, frP _ (g_u M22 402 6 x) := fun x => frP.tr e22.2.1.p (frP.u (by omega))
             have hfin : ∀ x : Int32, (z3.toInt = 0 → x.toInt = 1) → (¬ z3.toInt = 0 → x.toInt = 0) → RDP t n (pBr ρ (pLaw t n T)) (g_u M22 402 6 x) := fun x _ _ => by
               have h := e22.1
               cases ρ with
               | inl q => exact RD.u h (by decide)
               | inr e =>
                 show RDP t n (pLaw t n T e) _
                 rw [pLaw, pIf_neg hn1, pIf_neg hn2]
                 exact RD.u h (by decide)
             refine g_aload_n0 dX6_readLaw_36 rfl ?_
             refine g_getr dX6_readLaw_37 rfl fX6_25 hR.1 rfl ?_
             refine g_bipushI dX6_readLaw_40 rfl rfl (fun w40 h40 => ?_)
             refine g_iload_n1 dX6_readLaw_42 rfl ?_
             refine g_if_eqI (t := 50) dX6_readLaw_43 (by decide) rfl (fun c43 => ?_) (fun c43 => ?_)
             · -- 43 t
               have hg0 : z3.toInt = 0 := by omega
               refine g_iconstI dX6_readLaw_50 rfl rfl (fun w50 h50 => ?_)
               refine g_iastI dX6_readLaw_51 rfl (rf_told hR) ⟨by omega, by omega⟩ ?_
               rw [show w40.toInt.toNat = 6 by omega]
               refine g_vret dX6_readLaw_52 rfl ?_
               first
                 | exact ⟨rfl, hfin _ (fun _ => by omega) (fun _ => by omega), hfr9 _⟩
             · -- 43 f
               have hg1 : ¬ z3.toInt = 0 := by omega
               refine g_iconstI dX6_readLaw_46 rfl rfl (fun w46 h46 => ?_)
               refine g_goto (t := 51) dX6_readLaw_47 (by decide) ?_
               refine g_iastI dX6_readLaw_51 rfl (rf_told hR) ⟨by omega, by omega⟩ ?_
               rw [show w40.toInt.toNat = 6 by omega]
               refine g_vret dX6_readLaw_52 rfl ?_
               first
                 | exact ⟨rfl, hfin _ (fun _ => by omega) (fun _ => by omega), hfr9 _⟩)
      · -- 29 f
        first
          | (exfalso
             have h := e22.1
             cases ρ with
             | inl q => have h2 := h.2.1; have h3 := h.1; omega
             | inr y => have h3 : (M22.1 300 21).toInt = 1 := h.1; omega)
          | (obtain ⟨e, rfl⟩ := hD.good (by omega)
             obtain ⟨d1, d2, d3, d4, d5, d6, -⟩ := id hD
             have d8 := tk_rng (t := t) d2
             refine g_aload_n0 dX6_readLaw_32 rfl ?_
             refine g_callVv0 dX6_readLaw_33 rfl vX6_192 hR.1 rfl (r_stepOn hR hH d8.2.2.1 d3) (g_rm (by omega)) (Nat.le_of_ble_eq_true rfl) (fun M33 e33 => ?_)
             have hfr9 : ∀ x : Int32, frP _ (g_u M33 402 6 x) := fun x => frP.tr e33.1.t.p (frP.u (by omega))
             have hfin : ∀ x : Int32, (z3.toInt = 0 → x.toInt = 1) → (¬ z3.toInt = 0 → x.toInt = 0) → RDP t n (pBr (.inr e) (pLaw t n T)) (g_u M33 402 6 x) := fun x h1 h2 => by
               show RDP t n (pLaw t n T e) _
               have hr := RP.set (x := x) (i := 2) (hP.t e33.1.t) (Or.inl rfl)
               have hd := RD.u (i := 402) (k := 6) (x := x) (RD.s e33.1 d1 d8.2.2.1 e33.2) (by decide)
               rw [pLaw]
               first
                 | (have hz := hy
                    rw [pIf_pos hz]
                    rw [h2 (by omega), upT_id (hl2 e rfl)] at hr
                    exact ⟨hd, hr⟩)
                 | (have hz := hy2
                    rw [pIf_neg hn1, pIf_pos hz]
                    rw [h1 (by omega)] at hr
                    exact ⟨hd, hr⟩)
             refine g_aload_n0 dX6_readLaw_36 rfl ?_
             refine g_getr dX6_readLaw_37 rfl fX6_25 hR.1 rfl ?_
             refine g_bipushI dX6_readLaw_40 rfl rfl (fun w40 h40 => ?_)
             refine g_iload_n1 dX6_readLaw_42 rfl ?_
             refine g_if_eqI (t := 50) dX6_readLaw_43 (by decide) rfl (fun c43 => ?_) (fun c43 => ?_)
             · -- 43 t
               have hg0 : z3.toInt = 0 := by omega
               refine g_iconstI dX6_readLaw_50 rfl rfl (fun w50 h50 => ?_)
               refine g_iastI dX6_readLaw_51 rfl (rf_told hR) ⟨by omega, by omega⟩ ?_
               rw [show w40.toInt.toNat = 6 by omega]
               refine g_vret dX6_readLaw_52 rfl ?_
               first
                 | exact ⟨rfl, hfin _ (fun _ => by omega) (fun _ => by omega), hfr9 _⟩
             · -- 43 f
               have hg1 : ¬ z3.toInt = 0 := by omega
               refine g_iconstI dX6_readLaw_46 rfl rfl (fun w46 h46 => ?_)
               refine g_goto (t := 51) dX6_readLaw_47 (by decide) ?_
               refine g_iastI dX6_readLaw_51 rfl (rf_told hR) ⟨by omega, by omega⟩ ?_
               rw [show w40.toInt.toNat = 6 by omega]
               refine g_vret dX6_readLaw_52 rfl ?_
               first
                 | exact ⟨rfl, hfin _ (fun _ => by omega) (fun _ => by omega), hfr9 _⟩)
