theorem nar_z {x : Int32} (h : x.toInt = 0 ∨ x.toInt = 1) : vp_nar .boolean x = x := by
  rcases h with h | h
  · have : x = 0 := i_ext h
    subst this; rfl
  · have : x = 1 := i_ext h
    subst this; rfl
/-- v can be made of some of s among the first t things, and at most so much sand -/
def mkS (T : gTw) (s : Nat) (sand : Int) (t v : Nat) : Prop := ∃ u, sub u s ∧ u < 2 ^ t ∧ wtT T u ≤ (v : Int) ∧ (v : Int) - wtT T u ≤ sand
theorem mkS_0 {T : gTw} {s v : Nat} {sand : Int} : mkS T s sand 0 v ↔ (v : Int) ≤ sand := by
  have h0 : wtT T 0 = 0 := wsum_none (fun i _ => Nat.zero_testBit i)
  constructor
  · rintro ⟨u, -, h2, h3, h4⟩
    have : u = 0 := by simp at h2; omega
    subst this; omega
  · intro h
    exact ⟨0, sub_zero s, by simp, by omega, by omega⟩
theorem mkS_no {T : gTw} {s t v : Nat} {sand : Int} (h : ¬ s.testBit t = true) : mkS T s sand (t + 1) v ↔ mkS T s sand t v := by
  constructor
  · rintro ⟨u, h1, h2, h3, h4⟩
    refine ⟨u, h1, Nat.lt_pow_two_of_testBit _ (fun i hi => ?_), h3, h4⟩
    rcases Nat.lt_or_ge t i with h5 | h5
    · exact Nat.testBit_lt_two_pow (Nat.lt_of_lt_of_le h2 (Nat.pow_le_pow_right (by decide) (by omega)))
    · have : i = t := by omega
      subst this
      cases hb : u.testBit i
      · rfl
      · exact absurd (h1 i hb) h
  · rintro ⟨u, h1, h2, h3, h4⟩
    exact ⟨u, h1, Nat.lt_of_lt_of_le h2 (Nat.pow_le_pow_right (by decide) (by omega)), h3, h4⟩
theorem mkS_yes {T : gTw} {s t v : Nat} {sand : Int} (ht : t < 12) (h : s.testBit t = true) : mkS T s sand (t + 1) v ↔ mkS T s sand t v ∨ ∃ u, sub u s ∧ u < 2 ^ t ∧ wtT T u + T 7 t ≤ (v : Int) ∧ (v : Int) - (wtT T u + T 7 t) ≤ sand := by
  have hps : (2 : Nat) ^ (t + 1) = 2 ^ t * 2 := Nat.pow_succ 2 t
  constructor
  · rintro ⟨u, h1, h2, h3, h4⟩
    rcases Nat.lt_or_ge u (2 ^ t) with h5 | h5
    · exact Or.inl ⟨u, h1, h5, h3, h4⟩
    · right
      obtain ⟨y, ey⟩ : ∃ y, u = 2 ^ t + y := ⟨u - 2 ^ t, by omega⟩
      have hy : y < 2 ^ t := by omega
      have hw : wtT T u = wtT T y + T 7 t := by rw [ey]; exact wsum_bit ht hy
      refine ⟨y, fun i hi => ?_, hy, by omega, by omega⟩
      have hit : i < t := by
        rcases Nat.lt_or_ge i t with h6 | h6
        · exact h6
        · rw [Nat.testBit_lt_two_pow (Nat.lt_of_lt_of_le hy (Nat.pow_le_pow_right (by decide) h6))] at hi; cases hi
      refine h1 i ?_
      rw [ey, Nat.testBit_two_pow_add_gt hit]; exact hi
  · rintro (⟨u, h1, h2, h3, h4⟩ | ⟨y, h1, h2, h3, h4⟩)
    · exact ⟨u, h1, by omega, h3, h4⟩
    · have hw : wtT T (2 ^ t + y) = wtT T y + T 7 t := wsum_bit ht h2
      refine ⟨2 ^ t + y, fun i hi => ?_, by omega, by omega, by omega⟩
      rcases Nat.lt_trichotomy i t with h6 | h6 | h6
      · rw [Nat.testBit_two_pow_add_gt h6] at hi; exact h1 i hi
      · subst h6; exact h
      · rw [Nat.testBit_lt_two_pow (Nat.lt_of_lt_of_le (by omega : 2 ^ t + y < 2 ^ (t + 1)) (Nat.pow_le_pow_right (by decide) (by omega)))] at hi; cases hi
theorem mkS_step {T : gTw} {s t v : Nat} {sand : Int} (ht : t < 12) (h : s.testBit t = true) {w : Nat} (hw : T 7 t = (w : Int)) (hv : w ≤ v) : mkS T s sand (t + 1) v ↔ mkS T s sand t v ∨ mkS T s sand t (v - w) := by
  rw [mkS_yes ht h]
  constructor
  · rintro (h1 | ⟨u, h1, h2, h3, h4⟩)
    · exact Or.inl h1
    · exact Or.inr ⟨u, h1, h2, by omega, by omega⟩
  · rintro (h1 | ⟨u, h1, h2, h3, h4⟩)
    · exact Or.inl h1
    · exact Or.inr ⟨u, h1, h2, by omega, by omega⟩
theorem mkS_low {T : gTw} {s t v : Nat} {sand : Int} (ht : t < 12) (h : s.testBit t = true) (hw : (v : Int) < T 7 t) (h0 : ∀ u, 0 ≤ wtT T u) : mkS T s sand (t + 1) v ↔ mkS T s sand t v := by
  rw [mkS_yes ht h]
  constructor
  · rintro (h1 | ⟨u, h1, h2, h3, h4⟩)
    · exact h1
    · have := h0 u; omega
  · exact Or.inl
/-- canMake tells P below n -/
def cmI (M M' : gM) (n : Nat) (P : Nat → Prop) : Prop := (∀ j, j ≠ 446 → M'.1 j = M.1 j) ∧ M'.2 = M.2 ∧ ∀ v, v < n → ((M'.1 446 v).toInt = 0 ∨ (M'.1 446 v).toInt = 1) ∧ ((M'.1 446 v).toInt = 1 ↔ P v)
theorem cm_put {M M' : gM} {n i : Nat} {P P' : Nat → Prop} {x : Int32} (h : cmI M M' n P) (hx : x.toInt = 0 ∨ x.toInt = 1) (hi : x.toInt = 1 ↔ P' i) {n' : Nat} (hn : ∀ v, v < n' → v ≠ i → v < n ∧ (P v ↔ P' v)) : cmI M (g_u M' 446 i x) n' P' := by
  refine ⟨fun j hj => by rw [g_u_ne hj]; exact h.1 j hj, h.2.1, fun v hv => ?_⟩
  rw [g_u_eq]
  by_cases hvi : v = i
  · subst hvi; rw [if_pos rfl]; exact ⟨hx, hi⟩
  · rw [if_neg hvi]
    obtain ⟨a, b⟩ := hn v hv hvi
    have := h.2.2 v a
    exact ⟨this.1, this.2.trans b⟩
theorem cm_congr {M M' : gM} {n : Nat} {P P' : Nat → Prop} (h : cmI M M' n P) (hp : ∀ v, v < n → (P v ↔ P' v)) : cmI M M' n P' := ⟨h.1, h.2.1, fun v hv => ⟨(h.2.2 v hv).1, (h.2.2 v hv).2.trans (hp v hv)⟩⟩
set_option maxHeartbeats 1200000 in
theorem l_tellA {Γ : gW} {M0 : gM} {T : gTw} (hR : g_Ref Γ) (hO : TOK T) (hC : CR T M0) (hW : WR T M0) {s sd : Int32} (hs : 0 ≤ s.toInt) {Q : Option Value → gM → Prop} (hk : ∀ (M : gM) (i : Int32), cmI M0 M 4000 (fun v => (v : Int) ≤ sd.toInt) → G Γ μX6_tellWeights (g_R 0) (0, 0) (g_Z Γ Q) 33 [some (.ref 300), some (.int s), some (.int sd), some (.int i), none] [] M) : ∀ (n9 : Nat) (i : Int32) (M : gM), 4000 - i.toInt.toNat = n9 → 0 ≤ i.toInt → i.toInt ≤ 4000 → cmI M0 M i.toInt.toNat (fun v => (v : Int) ≤ sd.toInt) → G Γ μX6_tellWeights (g_R 0) (0, 0) (g_Z Γ Q) 2 [some (.ref 300), some (.int s), some (.int sd), some (.int i), none] [] M := by
  intro n9
  induction n9 using Nat.strongRecOn with
  | ind n9 ih =>
    intro i M hn hi0 hi1 hcm
    have e4 : (Int32.ofNat 4000).toInt = 4000 := rfl
    refine g_iload_n3 dX6_tellWeights_2 rfl ?_
    refine g_aload_n0 dX6_tellWeights_3 rfl ?_
    refine g_getr dX6_tellWeights_4 rfl fX6_106 hR.1 rfl ?_
    refine g_alen dX6_tellWeights_7 rfl (rf_canMake hR) (by decide) rfl ?_
    refine g_icmp_geI (t := 33) dX6_tellWeights_8 (by decide) rfl (fun c8 => ?_) (fun c8 => ?_)
    · -- 8 t
      exact hk M i (by rw [show 4000 = i.toInt.toNat by omega]; exact hcm)
    · -- 8 f
      refine g_aload_n0 dX6_tellWeights_11 rfl ?_
      refine g_getr dX6_tellWeights_12 rfl fX6_106 hR.1 rfl ?_
      refine g_iload_n3 dX6_tellWeights_15 rfl ?_
      refine g_iload_n3 dX6_tellWeights_16 rfl ?_
      refine g_iload_n2 dX6_tellWeights_17 rfl ?_
      refine g_icmp_gtI (t := 25) dX6_tellWeights_18 (by decide) rfl (fun c18 => ?_) (fun c18 => ?_)
      · -- 18 t
        refine g_iconstI dX6_tellWeights_25 rfl rfl (fun w25 h25 => ?_)
        refine g_zastI dX6_tellWeights_26 rfl (rf_canMake hR) ⟨by omega, by omega⟩ ?_
        refine g_iincI3 dX6_tellWeights_27 rfl rfl rfl ⟨by omega, by omega⟩ (fun w27 h27 => ?_)
        refine g_goto (t := 2) dX6_tellWeights_30 (by decide) ?_
        have ei : ((i.toInt.toNat : Nat) : Int) = i.toInt := by omega
        first
          | (have hz := h21
             rw [nar_z (Or.inr hz)]
             refine ih _ ?_ _ _ rfl (by omega) (by omega) ?_
             · omega
             · rw [h27, show (i.toInt + 1).toNat = i.toInt.toNat + 1 by omega]
               exact cm_put hcm (Or.inr hz) ⟨fun _ => by show ((i.toInt.toNat : Nat) : Int) ≤ sd.toInt; omega, fun _ => hz⟩ (fun v hv hne => ⟨by omega, Iff.rfl⟩))
          | (have hz := h25
             rw [nar_z (Or.inl hz)]
             refine ih _ ?_ _ _ rfl (by omega) (by omega) ?_
             · omega
             · rw [h27, show (i.toInt + 1).toNat = i.toInt.toNat + 1 by omega]
               exact cm_put hcm (Or.inl hz) ⟨fun h => by omega, fun h => by have h2 : ((i.toInt.toNat : Nat) : Int) ≤ sd.toInt := h; omega⟩ (fun v hv hne => ⟨by omega, Iff.rfl⟩))
      · -- 18 f
        refine g_iconstI dX6_tellWeights_21 rfl rfl (fun w21 h21 => ?_)
        refine g_goto (t := 26) dX6_tellWeights_22 (by decide) ?_
        refine g_zastI dX6_tellWeights_26 rfl (rf_canMake hR) ⟨by omega, by omega⟩ ?_
        refine g_iincI3 dX6_tellWeights_27 rfl rfl rfl ⟨by omega, by omega⟩ (fun w27 h27 => ?_)
        refine g_goto (t := 2) dX6_tellWeights_30 (by decide) ?_
        have ei : ((i.toInt.toNat : Nat) : Int) = i.toInt := by omega
        first
          | (have hz := h21
             rw [nar_z (Or.inr hz)]
             refine ih _ ?_ _ _ rfl (by omega) (by omega) ?_
             · omega
             · rw [h27, show (i.toInt + 1).toNat = i.toInt.toNat + 1 by omega]
               exact cm_put hcm (Or.inr hz) ⟨fun _ => by show ((i.toInt.toNat : Nat) : Int) ≤ sd.toInt; omega, fun _ => hz⟩ (fun v hv hne => ⟨by omega, Iff.rfl⟩))
          | (have hz := h25
             rw [nar_z (Or.inl hz)]
             refine ih _ ?_ _ _ rfl (by omega) (by omega) ?_
             · omega
             · rw [h27, show (i.toInt + 1).toNat = i.toInt.toNat + 1 by omega]
               exact cm_put hcm (Or.inl hz) ⟨fun h => by omega, fun h => by have h2 : ((i.toInt.toNat : Nat) : Int) ≤ sd.toInt := h; omega⟩ (fun v hv hne => ⟨by omega, Iff.rfl⟩))
set_option maxHeartbeats 1200000 in
theorem l_tellC {Γ : gW} {M0 : gM} {T : gTw} (hR : g_Ref Γ) (hO : TOK T) (hC : CR T M0) (hW : WR T M0) {s sd : Int32} (hs : 0 ≤ s.toInt) {i : Int32} (hi : 0 ≤ i.toInt ∧ i.toInt < T 0 1) (hbit : s.toInt.toNat.testBit i.toInt.toNat = true) {Q : Option Value → gM → Prop} (hk : ∀ (M : gM) (x : Int32), cmI M0 M 4000 (mkS T s.toInt.toNat sd.toInt (i.toInt.toNat + 1)) → G Γ μX6_tellWeights (g_R 0) (0, 0) (g_Z Γ Q) 106 [some (.ref 300), some (.int s), some (.int sd), some (.int i), some (.int x)] [] M) : ∀ (n9 : Nat) (x : Int32) (M : gM), (x.toInt + 1).toNat = n9 → -1 ≤ x.toInt → x.toInt ≤ 3999 → cmI M0 M 4000 (fun v => if x.toInt < (v : Int) then mkS T s.toInt.toNat sd.toInt (i.toInt.toNat + 1) v else mkS T s.toInt.toNat sd.toInt i.toInt.toNat v) → G Γ μX6_tellWeights (g_R 0) (0, 0) (g_Z Γ Q) 65 [some (.ref 300), some (.int s), some (.int sd), some (.int i), some (.int x)] [] M := by
  intro n9
  induction n9 using Nat.strongRecOn with
  | ind n9 ih =>
    intro x M hn hx0 hx1 hcm
    obtain ⟨o_pe, o_th, o_la, o_wi, o_da, o_we, o_p, o_i⟩ := id hO
    obtain ⟨r_0, r_1, r_2, r_3, r_p, r_i⟩ := id hC
    have ob := (o_i i.toInt.toNat (by omega)).1
    have hw9 := hW i.toInt.toNat (by omega)
    clear o_p o_i r_p r_i o_la o_da o_we
    have m9 := hcm.1 409 (by decide)
    obtain ⟨wn, ewn⟩ : ∃ wn : Nat, T 7 i.toInt.toNat = (wn : Int) := ⟨(T 7 i.toInt.toNat).toNat, by omega⟩
    refine g_iload4 dX6_tellWeights_65 rfl ?_
    refine g_aload_n0 dX6_tellWeights_67 rfl ?_
    refine g_getr dX6_tellWeights_68 rfl fX6_47 hR.1 rfl ?_
    refine g_iload_n3 dX6_tellWeights_71 rfl ?_
    refine g_ialdI dX6_tellWeights_72 rfl (rf_weight hR) ⟨by omega, by omega⟩ ?_
    rw [m9]
    refine g_icmp_ltI (t := 106) dX6_tellWeights_73 (by decide) rfl (fun c73 => ?_) (fun c73 => ?_)
    · -- 73 t
      exact hk M x (cm_congr hcm (fun v hv => by
        show (if x.toInt < (v : Int) then _ else _) ↔ _
        by_cases h : x.toInt < (v : Int)
        · rw [if_pos h]
        · rw [if_neg h]; exact (mkS_low (by omega) hbit (by omega) (fun u => (wtT_rng hO).1)).symm))
    · -- 73 f
      obtain ⟨xn, exn⟩ : ∃ xn : Nat, x.toInt = (xn : Int) := ⟨x.toInt.toNat, by omega⟩
      have ex1 : x.toInt.toNat = xn := by omega
      have c1 := hcm.2.2 xn (by omega)
      have c2 := hcm.2.2 (xn - wn) (by omega)
      have p1 : (M.1 446 xn).toInt = 1 ↔ mkS T s.toInt.toNat sd.toInt i.toInt.toNat xn := by
        have := c1.2
        simp only [if_neg (show ¬ x.toInt < (xn : Int) by omega)] at this
        exact this
      have p2 : (M.1 446 (xn - wn)).toInt = 1 ↔ mkS T s.toInt.toNat sd.toInt i.toInt.toNat (xn - wn) := by
        have := c2.2
        simp only [if_neg (show ¬ x.toInt < ((xn - wn : Nat) : Int) by omega)] at this
        exact this
      have q1 := c1.1
      have q2 := c2.1
      clear c1 c2
      refine g_aload_n0 dX6_tellWeights_76 rfl ?_
      refine g_getr dX6_tellWeights_77 rfl fX6_106 hR.1 rfl ?_
      refine g_iload4 dX6_tellWeights_80 rfl ?_
      refine g_dup2 dX6_tellWeights_82 rfl rfl rfl ?_
      refine g_zaldI dX6_tellWeights_83 rfl (rf_canMake hR) ⟨by omega, by omega⟩ ?_
      rw [ex1]
      refine g_aload_n0 dX6_tellWeights_84 rfl ?_
      refine g_getr dX6_tellWeights_85 rfl fX6_106 hR.1 rfl ?_
      refine g_iload4 dX6_tellWeights_88 rfl ?_
      refine g_aload_n0 dX6_tellWeights_90 rfl ?_
      refine g_getr dX6_tellWeights_91 rfl fX6_47 hR.1 rfl ?_
      refine g_iload_n3 dX6_tellWeights_94 rfl ?_
      refine g_ialdI dX6_tellWeights_95 rfl (rf_weight hR) ⟨by omega, by omega⟩ ?_
      rw [m9]
      refine g_isubI dX6_tellWeights_96 rfl ⟨by omega, by omega⟩ (fun w96 h96 => ?_)
      refine g_zaldI dX6_tellWeights_97 rfl (rf_canMake hR) ⟨by omega, by omega⟩ ?_
      rw [show w96.toInt.toNat = xn - wn by omega]
      refine g_iorB dX6_tellWeights_98 rfl  (fun w98 h98 => ?_)
      have hbz : w98.toInt = 0 ∨ w98.toInt = 1 := by
        rcases q1 with h1 | h1 <;> rcases q2 with h2 | h2
        · rw [bn_lit (n := 0) h1, bn_lit (n := 0) h2] at h98; rw [i_bn (by rw [h98]; decide), h98]; decide
        · rw [bn_lit (n := 0) h1, bn_lit (n := 1) h2] at h98; rw [i_bn (by rw [h98]; decide), h98]; decide
        · rw [bn_lit (n := 1) h1, bn_lit (n := 0) h2] at h98; rw [i_bn (by rw [h98]; decide), h98]; decide
        · rw [bn_lit (n := 1) h1, bn_lit (n := 1) h2] at h98; rw [i_bn (by rw [h98]; decide), h98]; decide
      have hb1 : w98.toInt = 1 ↔ ((M.1 446 xn).toInt = 1 ∨ (M.1 446 (xn - wn)).toInt = 1) := by
        rcases q1 with h1 | h1 <;> rcases q2 with h2 | h2
        · rw [bn_lit (n := 0) h1, bn_lit (n := 0) h2] at h98; rw [i_bn (by rw [h98]; decide), h98, h1, h2]; decide
        · rw [bn_lit (n := 0) h1, bn_lit (n := 1) h2] at h98; rw [i_bn (by rw [h98]; decide), h98, h1, h2]; decide
        · rw [bn_lit (n := 1) h1, bn_lit (n := 0) h2] at h98; rw [i_bn (by rw [h98]; decide), h98, h1, h2]; decide
        · rw [bn_lit (n := 1) h1, bn_lit (n := 1) h2] at h98; rw [i_bn (by rw [h98]; decide), h98, h1, h2]; decide
      refine g_zastI dX6_tellWeights_99 rfl (rf_canMake hR) ⟨by omega, by omega⟩ ?_
      rw [nar_z hbz, ex1]
      refine g_iincI4 dX6_tellWeights_100 rfl rfl rfl ⟨by omega, by omega⟩ (fun w100 h100 => ?_)
      refine g_goto (t := 65) dX6_tellWeights_103 (by decide) ?_
      refine ih _ (by omega) _ _ rfl (by omega) (by omega) ?_
      refine cm_put hcm hbz ?_ (fun v hv hne => ⟨hv, ?_⟩)
      · show _ ↔ if w100.toInt < (xn : Int) then _ else _
        rw [if_pos (by omega), hb1, p1, p2, mkS_step (by omega) hbit ewn (by omega)]
      · show (if x.toInt < (v : Int) then _ else _) ↔ (if w100.toInt < (v : Int) then _ else _)
        by_cases h : x.toInt < (v : Int)
        · rw [if_pos h, if_pos (by omega)]
        · rw [if_neg h, if_neg (by omega)]
