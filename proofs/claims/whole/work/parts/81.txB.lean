theorem RD.good {t : Nat → Int} {n : Nat} {ρ : (Int × Int) ⊕ Nat} {M : gM} (h : RD t n ρ M) (h0 : (M.1 300 21).toInt = 0) : ∃ e, ρ = .inr e := by
  cases ρ with
  | inl q => exact absurd (h.1.symm.trans h0) h.2.1
  | inr e => exact ⟨e, rfl⟩
theorem RD.bad {t : Nat → Int} {n : Nat} {ρ : (Int × Int) ⊕ Nat} {M : gM} (h : RD t n ρ M) (h0 : ¬ (M.1 300 21).toInt = 0) : ∃ q, ρ = .inl q := by
  cases ρ with
  | inl q => exact ⟨q, rfl⟩
  | inr e => exact absurd h.1 h0
theorem RD.s {t : Nat → Int} {n e : Nat} {M M' : gM} (hf : frS M M') (h0 : (M.1 300 21).toInt = 0) (he : e ≤ n) (hk : TKM t n e M') : RD t n (.inr e) M' := ⟨by rw [hf.2.2 21 (by omega)]; exact h0, he, hk⟩
def isR (t : Nat → Int) (n : Nat) (ρ : (Int × Int) ⊕ Nat) (w : List Int32) : Prop := match ρ with
  | .inl _ => False
  | .inr e => isW t n e w
def wrR (t : Nat → Int) (n : Nat) (k : Int) (ρ : (Int × Int) ⊕ Nat) : (Int × Int) ⊕ Nat := match ρ with
  | .inl q => .inl q
  | .inr e => .inl (k, (tkB t n e : Int))
def pRho {α : Type} (x : pR α) : (Int × Int) ⊕ Nat := match x with
  | .inl q => .inl q
  | .inr (_, e) => .inr e
set_option maxHeartbeats 1200000 in
theorem r_wrong {Γ : gW} {M : gM} {t : Nat → Int} {n : Nat} {ρ : (Int × Int) ⊕ Nat} (hR : g_Ref Γ) (hD : RD t n ρ M) {k : Int32} (hk : ¬ k.toInt = 0) : Ct Γ yX6_wrong μX6_wrong 0 [.ref 300, .int k] M (g_qv (fun M1 => RD t n (wrR t n k.toInt ρ) M1 ∧ frT M M1 ∧ (∀ q, ρ = .inl q → M1 = M))) := by
  refine g_enter rfl rfl rfl (Nat.le_of_ble_eq_true rfl) ?_
  show G Γ _ _ _ _ 0 [some (.ref 300), some (.int k)] [] M
  refine g_aload_n0 dX6_wrong_0 rfl ?_
  refine g_geti dX6_wrong_1 rfl fX6_174 hR.1 rfl ?_
  refine g_if_eqI (t := 8) dX6_wrong_4 (by decide) rfl (fun c4 => ?_) (fun c4 => ?_)
  · -- 4 t
    obtain ⟨e, rfl⟩ := hD.good (by omega)
    obtain ⟨d1, d2, d3, d4, d5, d6, d7⟩ := id hD
    have d8 := tk_rng (t := t) d2
    refine g_aload_n0 dX6_wrong_8 rfl ?_
    refine g_iload_n1 dX6_wrong_9 rfl ?_
    refine g_put dX6_wrong_10 rfl fX6_174 hR.1 rfl rfl rfl ?_
    refine g_aload_n0 dX6_wrong_13 rfl ?_
    refine g_aload_n0 dX6_wrong_14 rfl ?_
    refine g_geti dX6_wrong_15 rfl fX6_148 hR.1 rfl ?_
    rw [g_u_eq, if_neg (show ¬ (19 : Nat) = 21 by decide)]
    refine g_put dX6_wrong_18 rfl fX6_177 hR.1 rfl rfl rfl ?_
    refine g_vret dX6_wrong_21 rfl ?_
    exact ⟨rfl, ⟨by rw [g_u_eq, if_neg (by decide), g_u_eq, if_pos rfl], hk, by rw [g_u_eq, if_pos rfl]; exact d5⟩, frT.tr (frT.u (by decide)) (frT.u (by decide)), fun q hq => by cases hq⟩
  · -- 4 f
    obtain ⟨q, rfl⟩ := hD.bad (by omega)
    refine g_vret dX6_wrong_7 rfl ?_
    exact ⟨rfl, hD, frT.rf, fun _ _ => rfl⟩
set_option maxHeartbeats 1200000 in
theorem l_is {Γ : gW} {M : gM} {t : Nat → Int} {n : Nat} (hR : g_Ref Γ) (hH : HTx t n M) {c : Nat} {q0 : String × Nat × String × List Int32} (hc : gCs[c]? = some q0) {e : Nat} (he : e ≤ n) (h19 : (M.1 300 19).toInt = (tkB t n e : Int)) (hK : tkK t n e = 1) (hE : tkE t n e - tkB t n e = q0.2.2.2.length) {Q : Option Value → gM → Prop} (hQ : ∀ z : Int32, (z.toInt = 0 ∨ z.toInt = 1) → (z.toInt = 1 ↔ isW t n e q0.2.2.2) → Q (some (.int z)) M) : ∀ (n9 : Nat) (s k : Int32), 7 - k.toInt.toNat = n9 → 0 ≤ k.toInt → k.toInt ≤ q0.2.2.2.length → (s.toInt = 0 ∨ s.toInt = 1) → (s.toInt = 1 → ∀ j, j < k.toInt.toNat → t (tkB t n e + j) = (q0.2.2.2.getD j 0).toInt) → (s.toInt = 0 → ¬ isW t n e q0.2.2.2) → G Γ μX6_is (g_R 4) (0, 0) (g_Z Γ Q) 39 [some (.ref 300), some (.ref (600 + c)), some (.int s), some (.int k)] [] M := by
  intro n9
  induction n9 using Nat.strongRecOn with
  | ind n9 ih =>
    intro s k h9 hk0 hk1 hs hs1 hs0
    obtain ⟨x1, x2, x3, x4⟩ := id hH
    have h6 := (gCs_at hc).1
    have d8 := tk_rng (t := t) he
    refine g_iload_n2 dX6_is_39 rfl ?_
    refine g_if_eqI (t := 82) dX6_is_40 (by decide) rfl (fun c40 => ?_) (fun c40 => ?_)
    · -- 40 t
      have hnw := hs0 c40
      refine g_iload_n2 dX6_is_82 rfl ?_
      refine g_zretI dX6_is_83 rfl (by omega) ?_
      first
        | (have hz := hnw
           exact hQ _ hs ⟨fun h => by omega, fun h => absurd h hz⟩)
        | (have hz := hys
           exact hQ _ hs ⟨fun _ => ⟨hK, hE, fun j hj => hz j (by omega)⟩, fun _ => by omega⟩)
    · -- 40 f
      have hys := hs1 (by omega)
      refine g_iload_n3 dX6_is_43 rfl ?_
      refine g_aload_n1 dX6_is_44 rfl ?_
      refine g_callVSi0 dX6_is_45 rfl jvX6_180 hc (j_length hc) (g_rm (by omega)) (Nat.le_of_ble_eq_true rfl) (fun z45 M45 e45 => ?_)
      obtain ⟨rfl, e45⟩ := e45
      refine g_icmp_geI (t := 82) dX6_is_48 (by decide) rfl (fun c48 => ?_) (fun c48 => ?_)
      · -- 48 t
        refine g_iload_n2 dX6_is_82 rfl ?_
        refine g_zretI dX6_is_83 rfl (by omega) ?_
        first
          | (have hz := hnw
             exact hQ _ hs ⟨fun h => by omega, fun h => absurd h hz⟩)
          | (have hz := hys
             exact hQ _ hs ⟨fun _ => ⟨hK, hE, fun j hj => hz j (by omega)⟩, fun _ => by omega⟩)
      · -- 48 f
        refine g_aload_n1 dX6_is_51 rfl ?_
        refine g_iload_n3 dX6_is_52 rfl ?_
        refine g_callVSi1 dX6_is_53 rfl jvX6_184 hc (j_charAt hc ⟨hk0, by omega⟩) (g_rm (by omega)) (Nat.le_of_ble_eq_true rfl) (fun z53 M53 e53 => ?_)
        obtain ⟨rfl, e53⟩ := e53
        refine g_aload_n0 dX6_is_56 rfl ?_
        refine g_getr dX6_is_57 rfl fX6_57 hR.1 rfl ?_
        refine g_aload_n0 dX6_is_60 rfl ?_
        refine g_geti dX6_is_61 rfl fX6_148 hR.1 rfl ?_
        refine g_iload_n3 dX6_is_64 rfl ?_
        refine g_iaddI dX6_is_65 rfl ⟨by omega, by omega⟩ (fun w65 h65 => ?_)
        refine g_ialdI dX6_is_66 rfl (rf_tape hR) ⟨by omega, by omega⟩ ?_
        have x6 := x4 (tkB t n e + k.toInt.toNat) (by omega)
        rw [show w65.toInt.toNat = tkB t n e + k.toInt.toNat by omega]
        refine g_icmp_neI (t := 74) dX6_is_67 (by decide) rfl (fun c67 => ?_) (fun c67 => ?_)
        · -- 67 t
          have hnw : ¬ isW t n e q0.2.2.2 := fun h => by
            have := h.2.2 k.toInt.toNat (by omega)
            rw [← e53, ← x6] at this
            omega
          refine g_iconstI dX6_is_74 rfl rfl (fun w74 h74 => ?_)
          refine g_istore_n2 dX6_is_75 rfl rfl ?_
          refine g_iincI3 dX6_is_76 rfl rfl rfl ⟨by omega, by omega⟩ (fun w76 h76 => ?_)
          refine g_goto (t := 39) dX6_is_79 (by decide) ?_
          first
            | (have hz := hnw
               exact ih _ (show 7 - w76.toInt.toNat < n9 by omega) _ _ rfl (by omega) (by omega) (by omega) (fun h => by omega) (fun _ => hz))
            | (have hz := hnx
               refine ih _ (show 7 - w76.toInt.toNat < n9 by omega) _ _ rfl (by omega) (by omega) (by omega) (fun _ j hj => ?_) (fun h => by omega)
               by_cases hjk : j = k.toInt.toNat
               · rw [hjk]; exact hz
               · exact hys j (by omega))
        · -- 67 f
          have hnx : t (tkB t n e + k.toInt.toNat) = (q0.2.2.2.getD k.toInt.toNat 0).toInt := by rw [← e53, ← x6]; omega
          refine g_iconstI dX6_is_70 rfl rfl (fun w70 h70 => ?_)
          refine g_goto (t := 75) dX6_is_71 (by decide) ?_
          refine g_istore_n2 dX6_is_75 rfl rfl ?_
          refine g_iincI3 dX6_is_76 rfl rfl rfl ⟨by omega, by omega⟩ (fun w76 h76 => ?_)
          refine g_goto (t := 39) dX6_is_79 (by decide) ?_
          first
            | (have hz := hnw
               exact ih _ (show 7 - w76.toInt.toNat < n9 by omega) _ _ rfl (by omega) (by omega) (by omega) (fun h => by omega) (fun _ => hz))
            | (have hz := hnx
               refine ih _ (show 7 - w76.toInt.toNat < n9 by omega) _ _ rfl (by omega) (by omega) (by omega) (fun _ j hj => ?_) (fun h => by omega)
               by_cases hjk : j = k.toInt.toNat
               · rw [hjk]; exact hz
               · exact hys j (by omega))
set_option maxHeartbeats 1200000 in
theorem r_is {Γ : gW} {M : gM} {t : Nat → Int} {n : Nat} {ρ : (Int × Int) ⊕ Nat} (hR : g_Ref Γ) (hH : HTx t n M) (hD : RD t n ρ M) {c : Nat} {q0 : String × Nat × String × List Int32} (hc : gCs[c]? = some q0)  : Ct Γ yX6_is μX6_is 4 [.ref 300, .ref (600 + c)] M (g_qi (fun z M1 => M1 = M ∧ (z.toInt = 0 ∨ z.toInt = 1) ∧ (z.toInt = 1 ↔ isR t n ρ q0.2.2.2))) := by
  have h6 := (gCs_at hc).1
  have x7 := hH.2.1
  refine g_enter rfl rfl rfl (Nat.le_of_ble_eq_true rfl) ?_
  show G Γ _ _ _ _ 0 [some (.ref 300), some (.ref (600 + c)), none, none] [] M
  refine g_aload_n0 dX6_is_0 rfl ?_
  refine g_geti dX6_is_1 rfl fX6_174 hR.1 rfl ?_
  refine g_if_neI (t := 35) dX6_is_4 (by decide) rfl (fun c4 => ?_) (fun c4 => ?_)
  · -- 4 t
    obtain ⟨q, rfl⟩ := hD.bad (by omega)
    have hnb : ¬ isR t n (.inl q) q0.2.2.2 := fun h => h
    refine g_iconstI dX6_is_35 rfl rfl (fun w35 h35 => ?_)
    refine g_istore_n2 dX6_is_36 rfl rfl ?_
    refine g_iconstI dX6_is_37 rfl rfl (fun w37 h37 => ?_)
    refine g_istore_n3 dX6_is_38 rfl rfl ?_
    first
      | (have hz := hyb
         exact l_is hR hH hc d2 d5 (by omega) hz (fun z h1 h2 => ⟨_, rfl, rfl, h1, h2⟩) _ _ _ rfl (by omega) (by omega) (by omega) (fun _ j hj => by omega) (fun h => by omega))
      | (have hz := hnb
         refine g_iload_n2 dX6_is_39 rfl ?_
         refine g_if_eqI (t := 82) dX6_is_40 (by decide) rfl (fun c40 => ?_) (fun c40 => absurd c40 (by omega))
         refine g_iload_n2 dX6_is_82 rfl ?_
         refine g_zretI dX6_is_83 rfl (by omega) ?_
         exact ⟨_, rfl, rfl, by omega, ⟨fun h => by omega, fun h => absurd h hnb⟩⟩)
  · -- 4 f
    obtain ⟨e, rfl⟩ := hD.good (by omega)
    obtain ⟨d1, d2, d3, d4, d5, d6, d7⟩ := id hD
    have d8 := tk_rng (t := t) d2
    refine g_aload_n0 dX6_is_7 rfl ?_
    refine g_geti dX6_is_8 rfl fX6_151 hR.1 rfl ?_
    refine g_iconstI dX6_is_11 rfl rfl (fun w11 h11 => ?_)
    refine g_icmp_neI (t := 35) dX6_is_12 (by decide) rfl (fun c12 => ?_) (fun c12 => ?_)
    · -- 12 t
      have hnb : ¬ isR t n (.inr e) q0.2.2.2 := fun h => by have := h.1; omega
      refine g_iconstI dX6_is_35 rfl rfl (fun w35 h35 => ?_)
      refine g_istore_n2 dX6_is_36 rfl rfl ?_
      refine g_iconstI dX6_is_37 rfl rfl (fun w37 h37 => ?_)
      refine g_istore_n3 dX6_is_38 rfl rfl ?_
      first
        | (have hz := hyb
           exact l_is hR hH hc d2 d5 (by omega) hz (fun z h1 h2 => ⟨_, rfl, rfl, h1, h2⟩) _ _ _ rfl (by omega) (by omega) (by omega) (fun _ j hj => by omega) (fun h => by omega))
        | (have hz := hnb
           refine g_iload_n2 dX6_is_39 rfl ?_
           refine g_if_eqI (t := 82) dX6_is_40 (by decide) rfl (fun c40 => ?_) (fun c40 => absurd c40 (by omega))
           refine g_iload_n2 dX6_is_82 rfl ?_
           refine g_zretI dX6_is_83 rfl (by omega) ?_
           exact ⟨_, rfl, rfl, by omega, ⟨fun h => by omega, fun h => absurd h hnb⟩⟩)
    · -- 12 f
      refine g_aload_n1 dX6_is_15 rfl ?_
      refine g_callVSi0 dX6_is_16 rfl jvX6_180 hc (j_length hc) (g_rm (by omega)) (Nat.le_of_ble_eq_true rfl) (fun z16 M16 e16 => ?_)
      obtain ⟨rfl, e16⟩ := e16
      refine g_aload_n0 dX6_is_19 rfl ?_
      refine g_geti dX6_is_20 rfl fX6_171 hR.1 rfl ?_
      refine g_aload_n0 dX6_is_23 rfl ?_
      refine g_geti dX6_is_24 rfl fX6_148 hR.1 rfl ?_
      refine g_isubI dX6_is_27 rfl ⟨by omega, by omega⟩ (fun w27 h27 => ?_)
      refine g_icmp_neI (t := 35) dX6_is_28 (by decide) rfl (fun c28 => ?_) (fun c28 => ?_)
      · -- 28 t
        have hnb : ¬ isR t n (.inr e) q0.2.2.2 := fun h => by have := h.2.1; omega
        refine g_iconstI dX6_is_35 rfl rfl (fun w35 h35 => ?_)
        refine g_istore_n2 dX6_is_36 rfl rfl ?_
        refine g_iconstI dX6_is_37 rfl rfl (fun w37 h37 => ?_)
        refine g_istore_n3 dX6_is_38 rfl rfl ?_
        first
          | (have hz := hyb
             exact l_is hR hH hc d2 d5 (by omega) hz (fun z h1 h2 => ⟨_, rfl, rfl, h1, h2⟩) _ _ _ rfl (by omega) (by omega) (by omega) (fun _ j hj => by omega) (fun h => by omega))
          | (have hz := hnb
             refine g_iload_n2 dX6_is_39 rfl ?_
             refine g_if_eqI (t := 82) dX6_is_40 (by decide) rfl (fun c40 => ?_) (fun c40 => absurd c40 (by omega))
             refine g_iload_n2 dX6_is_82 rfl ?_
             refine g_zretI dX6_is_83 rfl (by omega) ?_
             exact ⟨_, rfl, rfl, by omega, ⟨fun h => by omega, fun h => absurd h hnb⟩⟩)
      · -- 28 f
        have hyb : tkE t n e - tkB t n e = q0.2.2.2.length := by omega
        refine g_iconstI dX6_is_31 rfl rfl (fun w31 h31 => ?_)
        refine g_goto (t := 36) dX6_is_32 (by decide) ?_
        refine g_istore_n2 dX6_is_36 rfl rfl ?_
        refine g_iconstI dX6_is_37 rfl rfl (fun w37 h37 => ?_)
        refine g_istore_n3 dX6_is_38 rfl rfl ?_
        first
          | (have hz := hyb
             exact l_is hR hH hc d2 d5 (by omega) hz (fun z h1 h2 => ⟨_, rfl, rfl, h1, h2⟩) _ _ _ rfl (by omega) (by omega) (by omega) (fun _ j hj => by omega) (fun h => by omega))
          | (have hz := hnb
             refine g_iload_n2 dX6_is_39 rfl ?_
             refine g_if_eqI (t := 82) dX6_is_40 (by decide) rfl (fun c40 => ?_) (fun c40 => absurd c40 (by omega))
             refine g_iload_n2 dX6_is_82 rfl ?_
             refine g_zretI dX6_is_83 rfl (by omega) ?_
             exact ⟨_, rfl, rfl, by omega, ⟨fun h => by omega, fun h => absurd h hnb⟩⟩)
set_option maxHeartbeats 1200000 in
theorem r_passes {Γ : gW} {M : gM} {t : Nat → Int} {n : Nat} {ρ : (Int × Int) ⊕ Nat} (hR : g_Ref Γ) (hH : HTx t n M) (hD : RD t n ρ M) {c : Nat} {q0 : String × Nat × String × List Int32} (hc : gCs[c]? = some q0)  : Ct Γ yX6_passes μX6_passes 5 [.ref 300, .ref (600 + c)] M (g_qi (fun z M1 => (∃ e, ρ = .inr e ∧ isW t n e q0.2.2.2 ∧ z.toInt = 1 ∧ RD t n (.inr (tkE t n e)) M1 ∧ frT M M1) ∨ (¬ isR t n ρ q0.2.2.2 ∧ z.toInt = 0 ∧ M1 = M))) := by
  refine g_enter rfl rfl rfl (Nat.le_of_ble_eq_true rfl) ?_
  show G Γ _ _ _ _ 0 [some (.ref 300), some (.ref (600 + c)), none] [] M
  refine g_aload_n0 dX6_passes_0 rfl ?_
  refine g_aload_n1 dX6_passes_1 rfl ?_
  refine g_callVi1 dX6_passes_2 rfl vX6_188 hR.1 rfl (r_is hR hH hD hc) (g_rm (by omega)) (Nat.le_of_ble_eq_true rfl) (fun z2 M2 e2 => ?_)
  obtain ⟨rfl, e2, f2⟩ := e2
  refine g_istore_n2 dX6_passes_5 rfl rfl ?_
  refine g_iload_n2 dX6_passes_6 rfl ?_
  refine g_if_eqI (t := 14) dX6_passes_7 (by decide) rfl (fun c7 => ?_) (fun c7 => ?_)
  · -- 7 t
    have hn : ¬ isR t n ρ q0.2.2.2 := fun h => by have := f2.mpr h; omega
    clear f2 e2
    refine g_iload_n2 dX6_passes_14 rfl ?_
    refine g_zretI dX6_passes_15 rfl (by omega) ?_
    first
      | (have hz := hn
         exact ⟨_, rfl, Or.inr ⟨hz, by omega, rfl⟩⟩)
      | (have hz := hy
         exact ⟨_, rfl, Or.inl ⟨e, rfl, hz, by omega, RD.s e11.1 d1 d8.2.2.1 e11.2, e11.1.t⟩⟩)
  · -- 7 f
    have hy := f2.mp (by omega)
    clear f2
    obtain ⟨e, rfl⟩ : ∃ e, ρ = .inr e := by
      cases ρ with
      | inl q => exact hy.elim
      | inr e => exact ⟨e, rfl⟩
    obtain ⟨d1, d2, d3, d4, d5, d6, d7⟩ := id hD
    have d8 := tk_rng (t := t) d2
    refine g_aload_n0 dX6_passes_10 rfl ?_
    refine g_callVv0 dX6_passes_11 rfl vX6_192 hR.1 rfl (r_stepOn hR hH d8.2.2.1 d3) (g_rm (by omega)) (Nat.le_of_ble_eq_true rfl) (fun M11 e11 => ?_)
    refine g_iload_n2 dX6_passes_14 rfl ?_
    refine g_zretI dX6_passes_15 rfl (by omega) ?_
    first
      | (have hz := hn
         exact ⟨_, rfl, Or.inr ⟨hz, by omega, rfl⟩⟩)
      | (have hz := hy
         exact ⟨_, rfl, Or.inl ⟨e, rfl, hz, by omega, RD.s e11.1 d1 d8.2.2.1 e11.2, e11.1.t⟩⟩)
set_option maxHeartbeats 1200000 in
theorem r_readNumber {Γ : gW} {M : gM} {t : Nat → Int} {n : Nat} {ρ : (Int × Int) ⊕ Nat} (hR : g_Ref Γ) (hH : HTx t n M) (hD : RD t n ρ M) {a b : Int32} : Ct Γ yX6_readNumber μX6_readNumber 2 [.ref 300, .int a, .int b] M (g_qi (fun z M1 => (∃ q, ρ = .inl q ∧ M1 = M ∧ z.toInt = 0) ∨ (∃ e, ρ = .inr e ∧ RD t n (pRho (pNum t n e a.toInt b.toInt)) M1 ∧ frT M M1 ∧ ∀ v e1, pNum t n e a.toInt b.toInt = .inr (v, e1) → z.toInt = v))) := by
  have x7 := hH.2.1
  refine g_enter rfl rfl rfl (Nat.le_of_ble_eq_true rfl) ?_
  show G Γ _ _ _ _ 0 [some (.ref 300), some (.int a), some (.int b), none] [] M
  refine g_aload_n0 dX6_readNumber_0 rfl ?_
  refine g_geti dX6_readNumber_1 rfl fX6_174 hR.1 rfl ?_
  refine g_if_eqI (t := 9) dX6_readNumber_4 (by decide) rfl (fun c4 => ?_) (fun c4 => ?_)
  · -- 4 t
    obtain ⟨e, rfl⟩ := hD.good (by omega)
    obtain ⟨d1, d2, d3, d4, d5, d6, d7⟩ := id hD
    have d8 := tk_rng (t := t) d2
    refine g_aload_n0 dX6_readNumber_9 rfl ?_
    refine g_geti dX6_readNumber_10 rfl fX6_151 hR.1 rfl ?_
    refine g_iconstI dX6_readNumber_13 rfl rfl (fun w13 h13 => ?_)
    refine g_icmp_eqI (t := 25) dX6_readNumber_14 (by decide) rfl (fun c14 => ?_) (fun c14 => ?_)
    · -- 14 t
      have hk2 : tkK t n e = 2 := by omega
      have d9 := d7 hk2
      refine g_aload_n0 dX6_readNumber_25 rfl ?_
      refine g_geti dX6_readNumber_26 rfl fX6_171 hR.1 rfl ?_
      refine g_aload_n0 dX6_readNumber_29 rfl ?_
      refine g_geti dX6_readNumber_30 rfl fX6_148 hR.1 rfl ?_
      refine g_isubI dX6_readNumber_33 rfl ⟨by omega, by omega⟩ (fun w33 h33 => ?_)
      refine g_iconstI dX6_readNumber_34 rfl rfl (fun w34 h34 => ?_)
      refine g_icmp_gtI (t := 54) dX6_readNumber_35 (by decide) rfl (fun c35 => ?_) (fun c35 => ?_)
      · -- 35 t
        have hp : pNum t n e a.toInt b.toInt = .inl (2, (tkB t n e : Int)) := by rw [pNum, if_neg (by omega), if_pos (by omega)]
        refine g_aload_n0 dX6_readNumber_54 rfl ?_
        refine g_iconstI dX6_readNumber_55 rfl rfl (fun w55 h55 => ?_)
        refine g_callVv1 dX6_readNumber_56 rfl vX6_195 hR.1 rfl (r_wrong hR hD (by omega)) (g_rm (by omega)) (Nat.le_of_ble_eq_true rfl) (fun M56 e56 => ?_)
        rw [h55] at e56
        refine g_aload_n0 dX6_readNumber_59 rfl ?_
        refine g_geti dX6_readNumber_60 rfl fX6_161 hR.1 rfl ?_
        refine g_istore_n3 dX6_readNumber_63 rfl rfl ?_
        refine g_aload_n0 dX6_readNumber_64 rfl ?_
        refine g_geti dX6_readNumber_65 rfl fX6_174 hR.1 rfl ?_
        refine g_if_neI (t := 75) dX6_readNumber_68 (by decide) rfl (fun c68 => ?_) (fun c68 => ?_)
        · -- 68 t
          first
            | (exfalso; omega)
            | (refine g_iload_n3 dX6_readNumber_75 rfl ?_
               refine g_iret dX6_readNumber_76 rfl ?_
               first
                 | exact ⟨_, rfl, Or.inr ⟨e, rfl, by rw [hp]; exact e19.1, e19.2.1, fun v e1 h => by rw [hp] at h; cases h⟩⟩
                 | exact ⟨_, rfl, Or.inr ⟨e, rfl, by rw [hp]; exact e56.1, e56.2.1, fun v e1 h => by rw [hp] at h; cases h⟩⟩)
        · -- 68 f
          first
            | (exfalso; have h : (M19.1 300 21).toInt = 1 := e19.1.1; omega)
            | (exfalso; have h : (M56.1 300 21).toInt = 2 := e56.1.1; omega)
            | (refine g_aload_n0 dX6_readNumber_71 rfl ?_
               refine g_callVv0 dX6_readNumber_72 rfl vX6_192 hR.1 rfl (r_stepOn hR hH d8.2.2.1 d3) (g_rm (by omega)) (Nat.le_of_ble_eq_true rfl) (fun M72 e72 => ?_)
               refine g_iload_n3 dX6_readNumber_75 rfl ?_
               refine g_iret dX6_readNumber_76 rfl ?_
               exact ⟨_, rfl, Or.inr ⟨e, rfl, by rw [hp]; exact RD.s e72.1 d1 d8.2.2.1 e72.2, e72.1.t, fun v e1 h => by rw [hp] at h; cases h; exact d10⟩⟩)
      · -- 35 f
        have d10 := d9 (by omega)
        refine g_aload_n0 dX6_readNumber_38 rfl ?_
        refine g_geti dX6_readNumber_39 rfl fX6_161 hR.1 rfl ?_
        refine g_iload_n1 dX6_readNumber_42 rfl ?_
        refine g_icmp_ltI (t := 54) dX6_readNumber_43 (by decide) rfl (fun c43 => ?_) (fun c43 => ?_)
        · -- 43 t
          have hp : pNum t n e a.toInt b.toInt = .inl (2, (tkB t n e : Int)) := by rw [pNum, if_neg (by omega), if_pos (by omega)]
          refine g_aload_n0 dX6_readNumber_54 rfl ?_
          refine g_iconstI dX6_readNumber_55 rfl rfl (fun w55 h55 => ?_)
          refine g_callVv1 dX6_readNumber_56 rfl vX6_195 hR.1 rfl (r_wrong hR hD (by omega)) (g_rm (by omega)) (Nat.le_of_ble_eq_true rfl) (fun M56 e56 => ?_)
          rw [h55] at e56
          refine g_aload_n0 dX6_readNumber_59 rfl ?_
          refine g_geti dX6_readNumber_60 rfl fX6_161 hR.1 rfl ?_
          refine g_istore_n3 dX6_readNumber_63 rfl rfl ?_
          refine g_aload_n0 dX6_readNumber_64 rfl ?_
          refine g_geti dX6_readNumber_65 rfl fX6_174 hR.1 rfl ?_
          refine g_if_neI (t := 75) dX6_readNumber_68 (by decide) rfl (fun c68 => ?_) (fun c68 => ?_)
          · -- 68 t
            first
              | (exfalso; omega)
              | (refine g_iload_n3 dX6_readNumber_75 rfl ?_
                 refine g_iret dX6_readNumber_76 rfl ?_
                 first
                   | exact ⟨_, rfl, Or.inr ⟨e, rfl, by rw [hp]; exact e19.1, e19.2.1, fun v e1 h => by rw [hp] at h; cases h⟩⟩
                   | exact ⟨_, rfl, Or.inr ⟨e, rfl, by rw [hp]; exact e56.1, e56.2.1, fun v e1 h => by rw [hp] at h; cases h⟩⟩)
          · -- 68 f
            first
              | (exfalso; have h : (M19.1 300 21).toInt = 1 := e19.1.1; omega)
              | (exfalso; have h : (M56.1 300 21).toInt = 2 := e56.1.1; omega)
              | (refine g_aload_n0 dX6_readNumber_71 rfl ?_
                 refine g_callVv0 dX6_readNumber_72 rfl vX6_192 hR.1 rfl (r_stepOn hR hH d8.2.2.1 d3) (g_rm (by omega)) (Nat.le_of_ble_eq_true rfl) (fun M72 e72 => ?_)
                 refine g_iload_n3 dX6_readNumber_75 rfl ?_
                 refine g_iret dX6_readNumber_76 rfl ?_
                 exact ⟨_, rfl, Or.inr ⟨e, rfl, by rw [hp]; exact RD.s e72.1 d1 d8.2.2.1 e72.2, e72.1.t, fun v e1 h => by rw [hp] at h; cases h; exact d10⟩⟩)
        · -- 43 f
          refine g_aload_n0 dX6_readNumber_46 rfl ?_
          refine g_geti dX6_readNumber_47 rfl fX6_161 hR.1 rfl ?_
          refine g_iload_n2 dX6_readNumber_50 rfl ?_
          refine g_icmp_leI (t := 59) dX6_readNumber_51 (by decide) rfl (fun c51 => ?_) (fun c51 => ?_)
          · -- 51 t
            have hp : pNum t n e a.toInt b.toInt = .inr (tkV t n e, tkE t n e) := by rw [pNum, if_neg (by omega), if_neg (by omega)]
            refine g_aload_n0 dX6_readNumber_59 rfl ?_
            refine g_geti dX6_readNumber_60 rfl fX6_161 hR.1 rfl ?_
            refine g_istore_n3 dX6_readNumber_63 rfl rfl ?_
            refine g_aload_n0 dX6_readNumber_64 rfl ?_
            refine g_geti dX6_readNumber_65 rfl fX6_174 hR.1 rfl ?_
            refine g_if_neI (t := 75) dX6_readNumber_68 (by decide) rfl (fun c68 => ?_) (fun c68 => ?_)
            · -- 68 t
              first
                | (exfalso; omega)
                | (refine g_iload_n3 dX6_readNumber_75 rfl ?_
                   refine g_iret dX6_readNumber_76 rfl ?_
                   first
                     | exact ⟨_, rfl, Or.inr ⟨e, rfl, by rw [hp]; exact e19.1, e19.2.1, fun v e1 h => by rw [hp] at h; cases h⟩⟩
                     | exact ⟨_, rfl, Or.inr ⟨e, rfl, by rw [hp]; exact e56.1, e56.2.1, fun v e1 h => by rw [hp] at h; cases h⟩⟩)
            · -- 68 f
              first
                | (exfalso; have h : (M19.1 300 21).toInt = 1 := e19.1.1; omega)
                | (exfalso; have h : (M56.1 300 21).toInt = 2 := e56.1.1; omega)
                | (refine g_aload_n0 dX6_readNumber_71 rfl ?_
                   refine g_callVv0 dX6_readNumber_72 rfl vX6_192 hR.1 rfl (r_stepOn hR hH d8.2.2.1 d3) (g_rm (by omega)) (Nat.le_of_ble_eq_true rfl) (fun M72 e72 => ?_)
                   refine g_iload_n3 dX6_readNumber_75 rfl ?_
                   refine g_iret dX6_readNumber_76 rfl ?_
                   exact ⟨_, rfl, Or.inr ⟨e, rfl, by rw [hp]; exact RD.s e72.1 d1 d8.2.2.1 e72.2, e72.1.t, fun v e1 h => by rw [hp] at h; cases h; exact d10⟩⟩)
          · -- 51 f
            have hp : pNum t n e a.toInt b.toInt = .inl (2, (tkB t n e : Int)) := by rw [pNum, if_neg (by omega), if_pos (by omega)]
            refine g_aload_n0 dX6_readNumber_54 rfl ?_
            refine g_iconstI dX6_readNumber_55 rfl rfl (fun w55 h55 => ?_)
            refine g_callVv1 dX6_readNumber_56 rfl vX6_195 hR.1 rfl (r_wrong hR hD (by omega)) (g_rm (by omega)) (Nat.le_of_ble_eq_true rfl) (fun M56 e56 => ?_)
            rw [h55] at e56
            refine g_aload_n0 dX6_readNumber_59 rfl ?_
            refine g_geti dX6_readNumber_60 rfl fX6_161 hR.1 rfl ?_
            refine g_istore_n3 dX6_readNumber_63 rfl rfl ?_
            refine g_aload_n0 dX6_readNumber_64 rfl ?_
            refine g_geti dX6_readNumber_65 rfl fX6_174 hR.1 rfl ?_
            refine g_if_neI (t := 75) dX6_readNumber_68 (by decide) rfl (fun c68 => ?_) (fun c68 => ?_)
            · -- 68 t
              first
                | (exfalso; omega)
                | (refine g_iload_n3 dX6_readNumber_75 rfl ?_
                   refine g_iret dX6_readNumber_76 rfl ?_
                   first
                     | exact ⟨_, rfl, Or.inr ⟨e, rfl, by rw [hp]; exact e19.1, e19.2.1, fun v e1 h => by rw [hp] at h; cases h⟩⟩
                     | exact ⟨_, rfl, Or.inr ⟨e, rfl, by rw [hp]; exact e56.1, e56.2.1, fun v e1 h => by rw [hp] at h; cases h⟩⟩)
            · -- 68 f
              first
                | (exfalso; have h : (M19.1 300 21).toInt = 1 := e19.1.1; omega)
                | (exfalso; have h : (M56.1 300 21).toInt = 2 := e56.1.1; omega)
                | (refine g_aload_n0 dX6_readNumber_71 rfl ?_
                   refine g_callVv0 dX6_readNumber_72 rfl vX6_192 hR.1 rfl (r_stepOn hR hH d8.2.2.1 d3) (g_rm (by omega)) (Nat.le_of_ble_eq_true rfl) (fun M72 e72 => ?_)
                   refine g_iload_n3 dX6_readNumber_75 rfl ?_
                   refine g_iret dX6_readNumber_76 rfl ?_
                   exact ⟨_, rfl, Or.inr ⟨e, rfl, by rw [hp]; exact RD.s e72.1 d1 d8.2.2.1 e72.2, e72.1.t, fun v e1 h => by rw [hp] at h; cases h; exact d10⟩⟩)
    · -- 14 f
      have hp : pNum t n e a.toInt b.toInt = .inl (1, (tkB t n e : Int)) := by rw [pNum, if_pos (by omega)]
      refine g_aload_n0 dX6_readNumber_17 rfl ?_
      refine g_iconstI dX6_readNumber_18 rfl rfl (fun w18 h18 => ?_)
      refine g_callVv1 dX6_readNumber_19 rfl vX6_195 hR.1 rfl (r_wrong hR hD (by omega)) (g_rm (by omega)) (Nat.le_of_ble_eq_true rfl) (fun M19 e19 => ?_)
      rw [h18] at e19
      refine g_goto (t := 59) dX6_readNumber_22 (by decide) ?_
      refine g_aload_n0 dX6_readNumber_59 rfl ?_
      refine g_geti dX6_readNumber_60 rfl fX6_161 hR.1 rfl ?_
      refine g_istore_n3 dX6_readNumber_63 rfl rfl ?_
      refine g_aload_n0 dX6_readNumber_64 rfl ?_
      refine g_geti dX6_readNumber_65 rfl fX6_174 hR.1 rfl ?_
      refine g_if_neI (t := 75) dX6_readNumber_68 (by decide) rfl (fun c68 => ?_) (fun c68 => ?_)
      · -- 68 t
        first
          | (exfalso; omega)
          | (refine g_iload_n3 dX6_readNumber_75 rfl ?_
             refine g_iret dX6_readNumber_76 rfl ?_
             first
               | exact ⟨_, rfl, Or.inr ⟨e, rfl, by rw [hp]; exact e19.1, e19.2.1, fun v e1 h => by rw [hp] at h; cases h⟩⟩
               | exact ⟨_, rfl, Or.inr ⟨e, rfl, by rw [hp]; exact e56.1, e56.2.1, fun v e1 h => by rw [hp] at h; cases h⟩⟩)
      · -- 68 f
        first
          | (exfalso; have h : (M19.1 300 21).toInt = 1 := e19.1.1; omega)
          | (exfalso; have h : (M56.1 300 21).toInt = 2 := e56.1.1; omega)
          | (refine g_aload_n0 dX6_readNumber_71 rfl ?_
             refine g_callVv0 dX6_readNumber_72 rfl vX6_192 hR.1 rfl (r_stepOn hR hH d8.2.2.1 d3) (g_rm (by omega)) (Nat.le_of_ble_eq_true rfl) (fun M72 e72 => ?_)
             refine g_iload_n3 dX6_readNumber_75 rfl ?_
             refine g_iret dX6_readNumber_76 rfl ?_
             exact ⟨_, rfl, Or.inr ⟨e, rfl, by rw [hp]; exact RD.s e72.1 d1 d8.2.2.1 e72.2, e72.1.t, fun v e1 h => by rw [hp] at h; cases h; exact d10⟩⟩)
  · -- 4 f
    obtain ⟨q, rfl⟩ := hD.bad (by omega)
    refine g_iconstI dX6_readNumber_7 rfl rfl (fun w7 h7 => ?_)
    refine g_iret dX6_readNumber_8 rfl ?_
    exact ⟨_, rfl, Or.inl ⟨q, rfl, rfl, h7⟩⟩
set_option maxHeartbeats 1200000 in
theorem r_personNow {Γ : gW} {M : gM} {t : Nat → Int} {n : Nat} {ρ : (Int × Int) ⊕ Nat} (hR : g_Ref Γ) (hH : HTx t n M) (hD : RD t n ρ M) {m : Int} (hm : (M.1 402 4).toInt = m)  : Ct Γ yX6_personNow μX6_personNow 1 [.ref 300] M (g_qi (fun z M1 => (∃ q, ρ = .inl q ∧ M1 = M ∧ z.toInt = 0) ∨ (∃ e, ρ = .inr e ∧ ((∃ q, pPer t n e m = .inl q ∧ RD t n (.inl q) M1 ∧ frT M M1 ∧ z.toInt = 0) ∨ ∃ v e1, pPer t n e m = .inr (v, e1) ∧ M1 = M ∧ z.toInt = v)))) := by
  have x7 := hH.2.1
  refine g_enter rfl rfl rfl (Nat.le_of_ble_eq_true rfl) ?_
  show G Γ _ _ _ _ 0 [some (.ref 300)] [] M
  refine g_aload_n0 dX6_personNow_0 rfl ?_
  refine g_geti dX6_personNow_1 rfl fX6_174 hR.1 rfl ?_
  refine g_if_eqI (t := 9) dX6_personNow_4 (by decide) rfl (fun c4 => ?_) (fun c4 => ?_)
  · -- 4 t
    obtain ⟨e, rfl⟩ := hD.good (by omega)
    obtain ⟨d1, d2, d3, d4, d5, d6, d7⟩ := id hD
    have d8 := tk_rng (t := t) d2
    refine g_aload_n0 dX6_personNow_9 rfl ?_
    refine g_geti dX6_personNow_10 rfl fX6_151 hR.1 rfl ?_
    refine g_iconstI dX6_personNow_13 rfl rfl (fun w13 h13 => ?_)
    refine g_icmp_eqI (t := 25) dX6_personNow_14 (by decide) rfl (fun c14 => ?_) (fun c14 => ?_)
    · -- 14 t
      have hk2 : tkK t n e = 2 := by omega
      have d9 := d7 hk2
      refine g_aload_n0 dX6_personNow_25 rfl ?_
      refine g_geti dX6_personNow_26 rfl fX6_171 hR.1 rfl ?_
      refine g_aload_n0 dX6_personNow_29 rfl ?_
      refine g_geti dX6_personNow_30 rfl fX6_148 hR.1 rfl ?_
      refine g_isubI dX6_personNow_33 rfl ⟨by omega, by omega⟩ (fun w33 h33 => ?_)
      refine g_iconstI dX6_personNow_34 rfl rfl (fun w34 h34 => ?_)
      refine g_icmp_leI (t := 46) dX6_personNow_35 (by decide) rfl (fun c35 => ?_) (fun c35 => ?_)
      · -- 35 t
        have d10 := d9 (by omega)
        refine g_aload_n0 dX6_personNow_46 rfl ?_
        refine g_geti dX6_personNow_47 rfl fX6_161 hR.1 rfl ?_
        refine g_aload_n0 dX6_personNow_50 rfl ?_
        refine g_getr dX6_personNow_51 rfl fX6_25 hR.1 rfl ?_
        refine g_iconstI dX6_personNow_54 rfl rfl (fun w54 h54 => ?_)
        refine g_ialdI dX6_personNow_55 rfl (rf_told hR) ⟨by omega, by omega⟩ ?_
        rw [show w54.toInt.toNat = 4 by omega]
        refine g_icmp_ltI (t := 64) dX6_personNow_56 (by decide) rfl (fun c56 => ?_) (fun c56 => ?_)
        · -- 56 t
          have hp : pPer t n e m = .inr (tkV t n e, tkE t n e) := by rw [pPer, if_neg (by omega), if_neg (by omega), if_neg (by omega)]
          refine g_aload_n0 dX6_personNow_64 rfl ?_
          refine g_geti dX6_personNow_65 rfl fX6_174 hR.1 rfl ?_
          refine g_if_neI (t := 78) dX6_personNow_68 (by decide) rfl (fun c68 => ?_) (fun c68 => ?_)
          · -- 68 t
            first
              | (exfalso; omega)
              | (refine g_iconstI dX6_personNow_78 rfl rfl (fun w78 h78 => ?_)
                 refine g_iret dX6_personNow_79 rfl ?_
                 first
                   | exact ⟨_, rfl, Or.inr ⟨e, rfl, Or.inl ⟨_, hp, e19.1, e19.2.1, h78⟩⟩⟩
                   | exact ⟨_, rfl, Or.inr ⟨e, rfl, Or.inl ⟨_, hp, e40.1, e40.2.1, h78⟩⟩⟩
                   | exact ⟨_, rfl, Or.inr ⟨e, rfl, Or.inl ⟨_, hp, e61.1, e61.2.1, h78⟩⟩⟩)
          · -- 68 f
            first
              | (exfalso; have h : (M19.1 300 21).toInt = 1 := e19.1.1; omega)
              | (exfalso; have h : (M40.1 300 21).toInt = 2 := e40.1.1; omega)
              | (exfalso; have h : (M61.1 300 21).toInt = 3 := e61.1.1; omega)
              | (refine g_aload_n0 dX6_personNow_71 rfl ?_
                 refine g_geti dX6_personNow_72 rfl fX6_161 hR.1 rfl ?_
                 refine g_goto (t := 79) dX6_personNow_75 (by decide) ?_
                 refine g_iret dX6_personNow_79 rfl ?_
                 exact ⟨_, rfl, Or.inr ⟨e, rfl, Or.inr ⟨_, _, hp, rfl, d10⟩⟩⟩)
        · -- 56 f
          have hp : pPer t n e m = .inl (3, (tkB t n e : Int)) := by rw [pPer, if_neg (by omega), if_neg (by omega), if_pos (by omega)]
          refine g_aload_n0 dX6_personNow_59 rfl ?_
          refine g_iconstI dX6_personNow_60 rfl rfl (fun w60 h60 => ?_)
          refine g_callVv1 dX6_personNow_61 rfl vX6_195 hR.1 rfl (r_wrong hR hD (by omega)) (g_rm (by omega)) (Nat.le_of_ble_eq_true rfl) (fun M61 e61 => ?_)
          rw [h60] at e61
          refine g_aload_n0 dX6_personNow_64 rfl ?_
          refine g_geti dX6_personNow_65 rfl fX6_174 hR.1 rfl ?_
          refine g_if_neI (t := 78) dX6_personNow_68 (by decide) rfl (fun c68 => ?_) (fun c68 => ?_)
          · -- 68 t
            first
              | (exfalso; omega)
              | (refine g_iconstI dX6_personNow_78 rfl rfl (fun w78 h78 => ?_)
                 refine g_iret dX6_personNow_79 rfl ?_
                 first
                   | exact ⟨_, rfl, Or.inr ⟨e, rfl, Or.inl ⟨_, hp, e19.1, e19.2.1, h78⟩⟩⟩
                   | exact ⟨_, rfl, Or.inr ⟨e, rfl, Or.inl ⟨_, hp, e40.1, e40.2.1, h78⟩⟩⟩
                   | exact ⟨_, rfl, Or.inr ⟨e, rfl, Or.inl ⟨_, hp, e61.1, e61.2.1, h78⟩⟩⟩)
          · -- 68 f
            first
              | (exfalso; have h : (M19.1 300 21).toInt = 1 := e19.1.1; omega)
              | (exfalso; have h : (M40.1 300 21).toInt = 2 := e40.1.1; omega)
              | (exfalso; have h : (M61.1 300 21).toInt = 3 := e61.1.1; omega)
              | (refine g_aload_n0 dX6_personNow_71 rfl ?_
                 refine g_geti dX6_personNow_72 rfl fX6_161 hR.1 rfl ?_
                 refine g_goto (t := 79) dX6_personNow_75 (by decide) ?_
                 refine g_iret dX6_personNow_79 rfl ?_
                 exact ⟨_, rfl, Or.inr ⟨e, rfl, Or.inr ⟨_, _, hp, rfl, d10⟩⟩⟩)
      · -- 35 f
        have hp : pPer t n e m = .inl (2, (tkB t n e : Int)) := by rw [pPer, if_neg (by omega), if_pos (by omega)]
        refine g_aload_n0 dX6_personNow_38 rfl ?_
        refine g_iconstI dX6_personNow_39 rfl rfl (fun w39 h39 => ?_)
        refine g_callVv1 dX6_personNow_40 rfl vX6_195 hR.1 rfl (r_wrong hR hD (by omega)) (g_rm (by omega)) (Nat.le_of_ble_eq_true rfl) (fun M40 e40 => ?_)
        rw [h39] at e40
        refine g_goto (t := 64) dX6_personNow_43 (by decide) ?_
        refine g_aload_n0 dX6_personNow_64 rfl ?_
        refine g_geti dX6_personNow_65 rfl fX6_174 hR.1 rfl ?_
        refine g_if_neI (t := 78) dX6_personNow_68 (by decide) rfl (fun c68 => ?_) (fun c68 => ?_)
        · -- 68 t
          first
            | (exfalso; omega)
            | (refine g_iconstI dX6_personNow_78 rfl rfl (fun w78 h78 => ?_)
               refine g_iret dX6_personNow_79 rfl ?_
               first
                 | exact ⟨_, rfl, Or.inr ⟨e, rfl, Or.inl ⟨_, hp, e19.1, e19.2.1, h78⟩⟩⟩
                 | exact ⟨_, rfl, Or.inr ⟨e, rfl, Or.inl ⟨_, hp, e40.1, e40.2.1, h78⟩⟩⟩
                 | exact ⟨_, rfl, Or.inr ⟨e, rfl, Or.inl ⟨_, hp, e61.1, e61.2.1, h78⟩⟩⟩)
        · -- 68 f
          first
            | (exfalso; have h : (M19.1 300 21).toInt = 1 := e19.1.1; omega)
            | (exfalso; have h : (M40.1 300 21).toInt = 2 := e40.1.1; omega)
            | (exfalso; have h : (M61.1 300 21).toInt = 3 := e61.1.1; omega)
            | (refine g_aload_n0 dX6_personNow_71 rfl ?_
               refine g_geti dX6_personNow_72 rfl fX6_161 hR.1 rfl ?_
               refine g_goto (t := 79) dX6_personNow_75 (by decide) ?_
               refine g_iret dX6_personNow_79 rfl ?_
               exact ⟨_, rfl, Or.inr ⟨e, rfl, Or.inr ⟨_, _, hp, rfl, d10⟩⟩⟩)
    · -- 14 f
      have hp : pPer t n e m = .inl (1, (tkB t n e : Int)) := by rw [pPer, if_pos (by omega)]
      refine g_aload_n0 dX6_personNow_17 rfl ?_
      refine g_iconstI dX6_personNow_18 rfl rfl (fun w18 h18 => ?_)
      refine g_callVv1 dX6_personNow_19 rfl vX6_195 hR.1 rfl (r_wrong hR hD (by omega)) (g_rm (by omega)) (Nat.le_of_ble_eq_true rfl) (fun M19 e19 => ?_)
      rw [h18] at e19
      refine g_goto (t := 64) dX6_personNow_22 (by decide) ?_
      refine g_aload_n0 dX6_personNow_64 rfl ?_
      refine g_geti dX6_personNow_65 rfl fX6_174 hR.1 rfl ?_
      refine g_if_neI (t := 78) dX6_personNow_68 (by decide) rfl (fun c68 => ?_) (fun c68 => ?_)
      · -- 68 t
        first
          | (exfalso; omega)
          | (refine g_iconstI dX6_personNow_78 rfl rfl (fun w78 h78 => ?_)
             refine g_iret dX6_personNow_79 rfl ?_
             first
               | exact ⟨_, rfl, Or.inr ⟨e, rfl, Or.inl ⟨_, hp, e19.1, e19.2.1, h78⟩⟩⟩
               | exact ⟨_, rfl, Or.inr ⟨e, rfl, Or.inl ⟨_, hp, e40.1, e40.2.1, h78⟩⟩⟩
               | exact ⟨_, rfl, Or.inr ⟨e, rfl, Or.inl ⟨_, hp, e61.1, e61.2.1, h78⟩⟩⟩)
      · -- 68 f
        first
          | (exfalso; have h : (M19.1 300 21).toInt = 1 := e19.1.1; omega)
          | (exfalso; have h : (M40.1 300 21).toInt = 2 := e40.1.1; omega)
          | (exfalso; have h : (M61.1 300 21).toInt = 3 := e61.1.1; omega)
          | (refine g_aload_n0 dX6_personNow_71 rfl ?_
             refine g_geti dX6_personNow_72 rfl fX6_161 hR.1 rfl ?_
             refine g_goto (t := 79) dX6_personNow_75 (by decide) ?_
             refine g_iret dX6_personNow_79 rfl ?_
             exact ⟨_, rfl, Or.inr ⟨e, rfl, Or.inr ⟨_, _, hp, rfl, d10⟩⟩⟩)
  · -- 4 f
    obtain ⟨q, rfl⟩ := hD.bad (by omega)
    refine g_iconstI dX6_personNow_7 rfl rfl (fun w7 h7 => ?_)
    refine g_iret dX6_personNow_8 rfl ?_
    exact ⟨_, rfl, Or.inl ⟨q, rfl, rfl, h7⟩⟩
set_option maxHeartbeats 1200000 in
theorem r_readPerson {Γ : gW} {M : gM} {t : Nat → Int} {n : Nat} {ρ : (Int × Int) ⊕ Nat} (hR : g_Ref Γ) (hH : HTx t n M) (hD : RD t n ρ M) {m : Int} (hm : (M.1 402 4).toInt = m)  : Ct Γ yX6_readPerson μX6_readPerson 2 [.ref 300] M (g_qi (fun z M1 => (∃ q, ρ = .inl q ∧ M1 = M ∧ z.toInt = 0) ∨ (∃ e, ρ = .inr e ∧ RD t n (pRho (pPer t n e m)) M1 ∧ frT M M1 ∧ ∀ v e1, pPer t n e m = .inr (v, e1) → z.toInt = v))) := by
  refine g_enter rfl rfl rfl (Nat.le_of_ble_eq_true rfl) ?_
  show G Γ _ _ _ _ 0 [some (.ref 300), none] [] M
  refine g_aload_n0 dX6_readPerson_0 rfl ?_
  refine g_callVi0 dX6_readPerson_1 rfl vX6_199 hR.1 rfl (r_personNow hR hH hD hm) (g_rm (by omega)) (Nat.le_of_ble_eq_true rfl) (fun z1 M1 e1 => ?_)
  refine g_istore_n1 dX6_readPerson_4 rfl rfl ?_
  refine g_aload_n0 dX6_readPerson_5 rfl ?_
  refine g_geti dX6_readPerson_6 rfl fX6_174 hR.1 rfl ?_
  refine g_if_neI (t := 16) dX6_readPerson_9 (by decide) rfl (fun c9 => ?_) (fun c9 => ?_)
  · -- 9 t
    refine g_iload_n1 dX6_readPerson_16 rfl ?_
    refine g_iret dX6_readPerson_17 rfl ?_
    first
      | exact ⟨_, rfl, Or.inr ⟨e, rfl, by rw [hp]; exact RD.s e13.1 d1 d8.2.2.1 e13.2, e13.1.t, fun v e1 h => by rw [hp] at h; cases h; exact ez⟩⟩
      | (rcases e1 with ⟨q, rfl, rfl, ez⟩ | ⟨e, rfl, ⟨q, hp, hb, hfr, ez⟩ | ⟨v, e2, hp, rfl, ez⟩⟩
         · exact ⟨_, rfl, Or.inl ⟨q, rfl, rfl, ez⟩⟩
         · exact ⟨_, rfl, Or.inr ⟨e, rfl, by rw [hp]; exact hb, hfr, fun v e1 h => by rw [hp] at h; cases h⟩⟩
         · exact absurd hD.1 c9)
  · -- 9 f
    rcases e1 with ⟨q, rfl, rfl, ez⟩ | ⟨e, rfl, ⟨q, hp, hb, hfr, ez⟩ | ⟨v, e2, hp, rfl, ez⟩⟩
    · exact absurd c9 (by have := hD.1; have := hD.2.1; omega)
    · exact absurd c9 (by have := hb.1; have := hb.2.1; omega)
    obtain ⟨d1, d2, d3, d4, d5, d6, d7⟩ := id hD
    have d8 := tk_rng (t := t) d2
    have hp2 : e2 = tkE t n e := by
      rw [pPer] at hp
      split at hp
      · cases hp
      · split at hp
        · cases hp
        · split at hp
          · cases hp
          · cases hp; rfl
    subst hp2
    refine g_aload_n0 dX6_readPerson_12 rfl ?_
    refine g_callVv0 dX6_readPerson_13 rfl vX6_192 hR.1 rfl (r_stepOn hR hH d8.2.2.1 d3) (g_rm (by omega)) (Nat.le_of_ble_eq_true rfl) (fun M13 e13 => ?_)
    refine g_iload_n1 dX6_readPerson_16 rfl ?_
    refine g_iret dX6_readPerson_17 rfl ?_
    first
      | exact ⟨_, rfl, Or.inr ⟨e, rfl, by rw [hp]; exact RD.s e13.1 d1 d8.2.2.1 e13.2, e13.1.t, fun v e1 h => by rw [hp] at h; cases h; exact ez⟩⟩
      | (rcases e1 with ⟨q, rfl, rfl, ez⟩ | ⟨e, rfl, ⟨q, hp, hb, hfr, ez⟩ | ⟨v, e2, hp, rfl, ez⟩⟩
         · exact ⟨_, rfl, Or.inl ⟨q, rfl, rfl, ez⟩⟩
         · exact ⟨_, rfl, Or.inr ⟨e, rfl, by rw [hp]; exact hb, hfr, fun v e1 h => by rw [hp] at h; cases h⟩⟩
         · exact absurd hD.1 c9)
