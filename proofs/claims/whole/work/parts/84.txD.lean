set_option maxHeartbeats 1200000 in
theorem l_kinds {Γ : gW} {t : Nat → Int} {n : Nat} (hR : g_Ref Γ) (hKd : g_o Γ 400 (.inr (5, 5))) {M : gM} (hH : HTx t n M) (hKm : ∀ j, j < 5 → (M.1 400 j).toInt = 615 + (j : Int)) {ρ : (Int × Int) ⊕ Nat} (hD : RD t n ρ M) {p : Int32} {Q : Option Value → gM → Prop} (hk : ∀ k i : Int32, (∀ j : Nat, j < 5 → isR t n ρ (kdW j) → k.toInt = (j : Int)) → (k.toInt = -1 ∨ ∃ j : Nat, j < 5 ∧ k.toInt = (j : Int) ∧ isR t n ρ (kdW j)) → G Γ μX6_readOne (g_R 6) (0, 0) (g_Z Γ Q) 98 [some (.ref 300), some (.int p), some (.int k), some (.int i)] [] M) : ∀ (n9 : Nat) (k i : Int32), 5 - i.toInt.toNat = n9 → 0 ≤ i.toInt → i.toInt ≤ 5 → (∀ j : Nat, j < i.toInt.toNat → isR t n ρ (kdW j) → k.toInt = (j : Int)) → (k.toInt = -1 ∨ ∃ j : Nat, j < i.toInt.toNat ∧ k.toInt = (j : Int) ∧ isR t n ρ (kdW j)) → G Γ μX6_readOne (g_R 6) (0, 0) (g_Z Γ Q) 68 [some (.ref 300), some (.int p), some (.int k), some (.int i)] [] M := by
  intro n9
  induction n9 using Nat.strongRecOn with
  | ind n9 ih =>
    intro k i h9 hi0 hi1 hk1 hk2
    have h73 : (Int32.ofNat 5).toInt = 5 := rfl
    refine g_iload_n3 dX6_readOne_68 rfl ?_
    refine g_aload_n0 dX6_readOne_69 rfl ?_
    refine g_getr dX6_readOne_70 rfl fX6_19 hR.1 rfl ?_
    refine g_alen5 dX6_readOne_73 rfl hKd rfl ?_
    refine g_icmp_geI (t := 98) dX6_readOne_74 (by decide) rfl (fun c74 => ?_) (fun c74 => ?_)
    · -- 74 t
      have hend : i.toInt.toNat = 5 := by omega
      rw [hend] at hk1 hk2
      exact hk _ _ hk1 hk2
    · -- 74 f
      obtain ⟨q0, hq, hqe⟩ := kdW_at (i := i.toInt.toNat) (by omega)
      refine g_aload_n0 dX6_readOne_77 rfl ?_
      refine g_aload_n0 dX6_readOne_78 rfl ?_
      refine g_getr dX6_readOne_79 rfl fX6_19 hR.1 rfl ?_
      refine g_iload_n3 dX6_readOne_82 rfl ?_
      refine g_aald dX6_readOne_83 rfl (j := 600 + (15 + i.toInt.toNat)) ⟨hKd, ⟨hi0, by omega⟩, by have := hKm i.toInt.toNat (by omega); omega⟩ ?_
      refine g_callVi1 dX6_readOne_84 rfl vX6_188 hR.1 rfl (r_is hR hH hD hq) (g_rm (by omega)) (Nat.le_of_ble_eq_true rfl) (fun z84 M84 e84 => ?_)
      obtain ⟨rfl, e84, f84⟩ := e84
      rw [hqe] at f84
      refine g_if_eqI (t := 92) dX6_readOne_87 (by decide) rfl (fun c87 => ?_) (fun c87 => ?_)
      · -- 87 t
        have hno : ¬ isR t n ρ (kdW i.toInt.toNat) := fun h => by have := f84.mpr h; omega
        clear f84 e84
        refine g_iincI3 dX6_readOne_92 rfl rfl rfl ⟨by omega, by omega⟩ (fun w92 h92 => ?_)
        refine g_goto (t := 68) dX6_readOne_95 (by decide) ?_
        have ei : w92.toInt.toNat = i.toInt.toNat + 1 := by clear hk1 hk2; omega
        have em : 5 - w92.toInt.toNat < n9 := by clear hk1 hk2; omega
        have ew : 0 ≤ w92.toInt ∧ w92.toInt ≤ 5 := by clear hk1 hk2; omega
        have eii : i.toInt = ((i.toInt.toNat : Nat) : Int) := by clear hk1 hk2; omega
        first
          | (have hz := hno
             refine ih _ em _ _ rfl ew.1 ew.2 (fun j hj hw => ?_) ?_
             · by_cases hji : j = i.toInt.toNat
               · rw [hji] at hw; exact absurd hw hz
               · exact hk1 j (by clear hk1 hk2; omega) hw
             · rcases hk2 with h | ⟨j, a, b, c⟩
               · exact Or.inl h
               · exact Or.inr ⟨j, by clear hk1; omega, b, c⟩)
          | (have hz := hys
             refine ih _ em _ _ rfl ew.1 ew.2 (fun j hj hw => ?_) (Or.inr ⟨i.toInt.toNat, by clear hk1 hk2; omega, eii, hz⟩)
             by_cases hji : j = i.toInt.toNat
             · rw [hji]; exact eii
             · exfalso
               cases ρ with
               | inl q => exact hz
               | inr e =>
                 have h := isW_one hz hw
                 have hj5 : j < 5 := by clear hk1 hk2; omega
                 have hi5 : i.toInt.toNat < 5 := by clear hk1 hk2; omega
                 clear hw hz hk1 hk2 ei eii em ih h9 hk hq hqe
                 generalize i.toInt.toNat = ii at *
                 rcases (show j = 0 ∨ j = 1 ∨ j = 2 ∨ j = 3 ∨ j = 4 by omega) with rfl | rfl | rfl | rfl | rfl <;> rcases (show ii = 0 ∨ ii = 1 ∨ ii = 2 ∨ ii = 3 ∨ ii = 4 by omega) with rfl | rfl | rfl | rfl | rfl <;> first | exact hji rfl | exact absurd h (by decide))
      · -- 87 f
        have hys : isR t n ρ (kdW i.toInt.toNat) := f84.mp (by omega)
        clear f84 e84
        refine g_iload_n3 dX6_readOne_90 rfl ?_
        refine g_istore_n2 dX6_readOne_91 rfl rfl ?_
        refine g_iincI3 dX6_readOne_92 rfl rfl rfl ⟨by omega, by omega⟩ (fun w92 h92 => ?_)
        refine g_goto (t := 68) dX6_readOne_95 (by decide) ?_
        have ei : w92.toInt.toNat = i.toInt.toNat + 1 := by clear hk1 hk2; omega
        have em : 5 - w92.toInt.toNat < n9 := by clear hk1 hk2; omega
        have ew : 0 ≤ w92.toInt ∧ w92.toInt ≤ 5 := by clear hk1 hk2; omega
        have eii : i.toInt = ((i.toInt.toNat : Nat) : Int) := by clear hk1 hk2; omega
        first
          | (have hz := hno
             refine ih _ em _ _ rfl ew.1 ew.2 (fun j hj hw => ?_) ?_
             · by_cases hji : j = i.toInt.toNat
               · rw [hji] at hw; exact absurd hw hz
               · exact hk1 j (by clear hk1 hk2; omega) hw
             · rcases hk2 with h | ⟨j, a, b, c⟩
               · exact Or.inl h
               · exact Or.inr ⟨j, by clear hk1; omega, b, c⟩)
          | (have hz := hys
             refine ih _ em _ _ rfl ew.1 ew.2 (fun j hj hw => ?_) (Or.inr ⟨i.toInt.toNat, by clear hk1 hk2; omega, eii, hz⟩)
             by_cases hji : j = i.toInt.toNat
             · rw [hji]; exact eii
             · exfalso
               cases ρ with
               | inl q => exact hz
               | inr e =>
                 have h := isW_one hz hw
                 have hj5 : j < 5 := by clear hk1 hk2; omega
                 have hi5 : i.toInt.toNat < 5 := by clear hk1 hk2; omega
                 clear hw hz hk1 hk2 ei eii em ih h9 hk hq hqe
                 generalize i.toInt.toNat = ii at *
                 rcases (show j = 0 ∨ j = 1 ∨ j = 2 ∨ j = 3 ∨ j = 4 by omega) with rfl | rfl | rfl | rfl | rfl <;> rcases (show ii = 0 ∨ ii = 1 ∨ ii = 2 ∨ ii = 3 ∨ ii = 4 by omega) with rfl | rfl | rfl | rfl | rfl <;> first | exact hji rfl | exact absurd h (by decide))
set_option maxHeartbeats 1200000 in
theorem l_one3 {Γ : gW} {t : Nat → Int} {n : Nat} {T : gTw} (hR : g_Ref Γ) (hKd : g_o Γ 400 (.inr (5, 5))) {M0 M : gM} (hH : HTx t n M) (hP : RP T M) (hV : PIV T) (hF : frP M0 M) {p : Int32} (hp : p.toInt = T 0 0) (h6 : T 0 0 < 6) {e : Nat} {x3 : pR Int} {k s : Int} (hD : RD t n (pRho x3) M) {g ix kI v3 : Int32} (hix : ix.toInt = 6 + T 0 0) (hv : ∀ v e1, x3 = .inr (v, e1) → g.toInt = v) (hk : (M.1 403 (6 + (T 0 0).toNat)).toInt = k) (hs : (M.1 408 (12 + (T 0 0).toNat)).toInt = s) (heq : pOne t n T e = pBd x3 (fun g e3 => .inr (addPT T k g s, e3))) : G Γ μX6_readOne (g_R 6) (0, 0) (g_Z Γ (g_qv (fun M1 => RDP t n (pOne t n T e) M1 ∧ frP M0 M1))) 169 [some (.ref 300), some (.int p), some (.int kI), some (.int v3)] [.int g, .int ix, .ref 404] M := by
  have b0 := hV.1.1
  refine g_iastI dX6_readOne_169 rfl (rf_kindBy hR) ⟨by omega, by omega⟩ ?_
  have i169 : ix.toInt.toNat = 6 + (T 0 0).toNat := by omega
  rw [i169]
  obtain ⟨M2, hM2⟩ : ∃ M2, M2 = g_u M 404 (6 + (T 0 0).toNat) g := ⟨_, rfl⟩
  refine g_fwd (M1 := M2) ?_ hM2
  have hP2 : RP T M2 := by
    rw [hM2]
    refine RP.ext hV hP (g_u_ne (by decide)) (fun q hq => ⟨by rw [g_u_ne (by decide)], by rw [g_u_eq, if_neg (by omega)], by rw [g_u_ne (by decide)]⟩) (fun q hq => ⟨by rw [g_u_ne (by decide)], by rw [g_u_ne (by decide)]⟩) (fun i hi => ⟨by rw [g_u_ne (by decide)], by rw [g_u_ne (by decide)], by rw [g_u_ne (by decide)], by rw [g_u_ne (by decide)]⟩)
  have hF2 : frP M0 M2 := by rw [hM2]; exact frP.tr hF (frP.u (by omega))
  have hD2 : RD t n (pRho x3) M2 := by rw [hM2]; exact RD.u hD (by decide)
  have k2 : (M2.1 403 (6 + (T 0 0).toNat)).toInt = k := by rw [hM2, g_u_ne (by decide)]; exact hk
  have g2 : (M2.1 404 (6 + (T 0 0).toNat)).toInt = g.toInt := by rw [hM2, g_u_eq, if_pos rfl]
  have s2 : (M2.1 408 (12 + (T 0 0).toNat)).toInt = s := by rw [hM2, g_u_ne (by decide)]; exact hs
  clear hM2
  have hm := hP2.1
  refine g_aload_n0 dX6_readOne_170 rfl ?_
  refine g_getr dX6_readOne_171 rfl fX6_25 hR.1 rfl ?_
  refine g_iconstI dX6_readOne_174 rfl rfl (fun w174 h174 => ?_)
  refine g_dup2 dX6_readOne_175 rfl rfl rfl ?_
  refine g_ialdI dX6_readOne_176 rfl (rf_told hR) ⟨by omega, by omega⟩ ?_
  rw [show w174.toInt.toNat = 4 by omega]
  refine g_iconstI dX6_readOne_177 rfl rfl (fun w177 h177 => ?_)
  refine g_iaddI dX6_readOne_178 rfl ⟨by omega, by omega⟩ (fun w178 h178 => ?_)
  refine g_iastI dX6_readOne_179 rfl (rf_told hR) ⟨by omega, by omega⟩ ?_
  rw [show w174.toInt.toNat = 4 by omega]
  refine g_vret dX6_readOne_180 rfl ?_
  refine ⟨rfl, ?_, frP.tr hF2 (frP.u (by omega))⟩
  rw [heq]
  cases hx : x3 with
  | inl q => rw [hx] at hD2; exact RD.u hD2 (by decide)
  | inr y =>
    obtain ⟨v, e3⟩ := y
    rw [hx] at hD2
    refine ⟨RD.u hD2 (by decide), ?_⟩
    exact RP.one hV hP2 h6 k2 (by rw [g2]; exact hv v e3 hx) s2 (by omega)
set_option maxHeartbeats 1200000 in
theorem l_one2 {Γ : gW} {t : Nat → Int} {n : Nat} {T : gTw} (hR : g_Ref Γ) (hKd : g_o Γ 400 (.inr (5, 5))) {M0 M : gM} (hH : HTx t n M) (hP : RP T M) (hV : PIV T) (hF : frP M0 M) {p : Int32} (hp : p.toInt = T 0 0) (h6 : T 0 0 < 6) (hKm : ∀ j, j < 5 → (M.1 400 j).toInt = 615 + (j : Int)) {e : Nat} {x2 : pR Int} (hD : RD t n (pRho x2) M) (hv : ∀ v e1, x2 = .inr (v, e1) → (M.1 408 (12 + (T 0 0).toNat)).toInt = v) (heq : pOne t n T e = pBd x2 (fun s e2 => if kindW t n e2 = -1 then .inl (1, tkB t n e2) else pBd (if kindW t n e2 = 3 then pNum t n (tkE t n e2) 0 11 else if kindW t n e2 = 4 then pNum t n (tkE t n e2) 0 99 else .inr (0, tkE t n e2)) (fun g e3 => .inr (addPT T (kindW t n e2) g s, e3)))) : G Γ μX6_readOne (g_R 6) (0, 0) (g_Z Γ (g_qv (fun M1 => RDP t n (pOne t n T e) M1 ∧ frP M0 M1))) 64 [some (.ref 300), some (.int p), none, none] [] M := by
  have b0 := hV.1.1
  refine g_iconstI dX6_readOne_64 rfl rfl (fun w64 h64 => ?_)
  refine g_istore_n2 dX6_readOne_65 rfl rfl ?_
  refine g_iconstI dX6_readOne_66 rfl rfl (fun w66 h66 => ?_)
  refine g_istore_n3 dX6_readOne_67 rfl rfl ?_
  refine l_kinds hR hKd hH hKm hD (fun k i hk1 hk2 => ?_) _ _ _ rfl (by omega) (by omega) (fun j hj => by omega) (Or.inl h64)
  refine g_iload_n2 dX6_readOne_98 rfl ?_
  refine g_iconstI dX6_readOne_99 rfl rfl (fun w99 h99 => ?_)
  refine g_icmp_neI (t := 108) dX6_readOne_100 (by decide) rfl (fun c100 => ?_) (fun c100 => ?_)
  · -- 100 t
    obtain ⟨j, hj, hkj, hjw⟩ : ∃ j : Nat, j < 5 ∧ k.toInt = (j : Int) ∧ isR t n (pRho x2) (kdW j) := by
      rcases hk2 with h | h
      · omega
      · exact h
    obtain ⟨⟨s, e2⟩, rfl⟩ : ∃ y, x2 = .inr y := by
      cases x2 with
      | inl q => exact hjw.elim
      | inr y => exact ⟨y, rfl⟩
    have hkw : kindW t n e2 = k.toInt := kindW_of hk1 hk2
    obtain ⟨d1, d2, d3, d4, d5, d6, d7⟩ := id hD
    have d8 := tk_rng (t := t) d2
    have hs := hv s e2 rfl
    have heq2 : pOne t n T e = pBd (if kindW t n e2 = 3 then pNum t n (tkE t n e2) 0 11 else if kindW t n e2 = 4 then pNum t n (tkE t n e2) 0 99 else .inr (0, tkE t n e2)) (fun g e3 => .inr (addPT T (kindW t n e2) g s, e3)) := by
      rw [heq]
      show (if kindW t n e2 = -1 then _ else _) = _
      rw [if_neg (by omega)]
    refine g_aload_n0 dX6_readOne_108 rfl ?_
    refine g_geti dX6_readOne_109 rfl fX6_174 hR.1 rfl ?_
    refine g_if_eqI (t := 116) dX6_readOne_112 (by decide) rfl (fun c112 => ?_) (fun c112 => ?_)
    · -- 112 t
      first
        | (exfalso
           have hz := hnk
           have h := e105.1
           cases x2 with
           | inl q => have h2 := h.2.1; have h3 := h.1; omega
           | inr y => have h3 : (M105.1 300 21).toInt = 1 := h.1; omega)
        | (refine g_aload_n0 dX6_readOne_116 rfl ?_
           refine g_callVv0 dX6_readOne_117 rfl vX6_192 hR.1 rfl (r_stepOn hR hH d8.2.2.1 d3) (g_rm (by omega)) (Nat.le_of_ble_eq_true rfl) (fun M117 e117 => ?_)
           refine g_aload_n0 dX6_readOne_120 rfl ?_
           refine g_getr dX6_readOne_121 rfl fX6_29 hR.1 rfl ?_
           refine g_bipushI dX6_readOne_124 rfl rfl (fun w124 h124 => ?_)
           refine g_iload_n1 dX6_readOne_126 rfl ?_
           refine g_iaddI dX6_readOne_127 rfl ⟨by omega, by omega⟩ (fun w127 h127 => ?_)
           refine g_iload_n2 dX6_readOne_128 rfl ?_
           refine g_iastI dX6_readOne_129 rfl (rf_kind hR) ⟨by omega, by omega⟩ ?_
           rw [show w127.toInt.toNat = 6 + (T 0 0).toNat by omega]
           obtain ⟨M3, hM3⟩ : ∃ M3, M3 = g_u M117 403 (6 + (T 0 0).toNat) k := ⟨_, rfl⟩
           refine g_fwd (M1 := M3) ?_ hM3
           have hP2 := hP.t e117.1.t
           have hP3 : RP T M3 := by
             rw [hM3]
             refine RP.ext hV hP2 (g_u_ne (by decide)) (fun q hq => ⟨by rw [g_u_eq, if_neg (by omega)], by rw [g_u_ne (by decide)], by rw [g_u_ne (by decide)]⟩) (fun q hq => ⟨by rw [g_u_ne (by decide)], by rw [g_u_ne (by decide)]⟩) (fun i hi => ⟨by rw [g_u_ne (by decide)], by rw [g_u_ne (by decide)], by rw [g_u_ne (by decide)], by rw [g_u_ne (by decide)]⟩)
           have hf3 : frP M M3 := by rw [hM3]; exact frP.tr e117.1.t.p (frP.u (by omega))
           have hF3 := frP.tr hF hf3
           have hH3 := hH.p hf3
           have hD3 : RD t n (.inr (tkE t n e2)) M3 := by rw [hM3]; exact RD.u (RD.s e117.1 d1 d8.2.2.1 e117.2) (by decide)
           have k3 : (M3.1 403 (6 + (T 0 0).toNat)).toInt = kindW t n e2 := by rw [hM3, g_u_eq, if_pos rfl, hkw]
           have s3 : (M3.1 408 (12 + (T 0 0).toNat)).toInt = s := by rw [hM3, g_u_ne (by decide), e117.1.1 408 (by decide)]; exact hs
           clear hM3
           refine g_aload_n0 dX6_readOne_130 rfl ?_
           refine g_getr dX6_readOne_131 rfl fX6_32 hR.1 rfl ?_
           refine g_bipushI dX6_readOne_134 rfl rfl (fun w134 h134 => ?_)
           refine g_iload_n1 dX6_readOne_136 rfl ?_
           refine g_iaddI dX6_readOne_137 rfl ⟨by omega, by omega⟩ (fun w137 h137 => ?_)
           refine g_iload_n2 dX6_readOne_138 rfl ?_
           refine g_iconstI dX6_readOne_139 rfl rfl (fun w139 h139 => ?_)
           refine g_icmp_neI (t := 153) dX6_readOne_140 (by decide) rfl (fun c140 => ?_) (fun c140 => ?_)
           · -- 140 t
             refine g_iload_n2 dX6_readOne_153 rfl ?_
             refine g_iconstI dX6_readOne_154 rfl rfl (fun w154 h154 => ?_)
             refine g_icmp_neI (t := 168) dX6_readOne_155 (by decide) rfl (fun c155 => ?_) (fun c155 => ?_)
             · -- 155 t
               refine g_iconstI dX6_readOne_168 rfl rfl (fun w168 h168 => ?_)
               first
                 | (have hz := e147
                    rcases hz with ⟨q, hq, -⟩ | ⟨e9, hq, hD9, hf9, hv9⟩
                    · cases hq
                    · cases hq
                      rw [h145, h144] at hD9 hv9
                      exact l_one3 hR hKd (hH3.t hf9) (hP3.t hf9) hV (frP.tr hF3 hf9.p) hp h6 (x3 := (if kindW t n e2 = 3 then pNum t n (tkE t n e2) 0 11 else if kindW t n e2 = 4 then pNum t n (tkE t n e2) 0 99 else .inr (0, tkE t n e2))) (k := kindW t n e2) (s := s) (by rw [if_pos (by omega)]; exact hD9) (by omega) (fun v e1 h => hv9 v e1 (by rw [if_pos (by omega)] at h; exact h)) (by rw [hf9.1 403 (by decide)]; exact k3) (by rw [hf9.1 408 (by decide)]; exact s3) heq2)
                 | (have hz := e162
                    rcases hz with ⟨q, hq, -⟩ | ⟨e9, hq, hD9, hf9, hv9⟩
                    · cases hq
                    · cases hq
                      rw [h160, h159] at hD9 hv9
                      exact l_one3 hR hKd (hH3.t hf9) (hP3.t hf9) hV (frP.tr hF3 hf9.p) hp h6 (x3 := (if kindW t n e2 = 3 then pNum t n (tkE t n e2) 0 11 else if kindW t n e2 = 4 then pNum t n (tkE t n e2) 0 99 else .inr (0, tkE t n e2))) (k := kindW t n e2) (s := s) (by rw [if_neg (by omega), if_pos (by omega)]; exact hD9) (by omega) (fun v e1 h => hv9 v e1 (by rw [if_neg (by omega), if_pos (by omega)] at h; exact h)) (by rw [hf9.1 403 (by decide)]; exact k3) (by rw [hf9.1 408 (by decide)]; exact s3) heq2)
                 | exact l_one3 hR hKd hH3 hP3 hV hF3 hp h6 (x3 := (if kindW t n e2 = 3 then pNum t n (tkE t n e2) 0 11 else if kindW t n e2 = 4 then pNum t n (tkE t n e2) 0 99 else .inr (0, tkE t n e2))) (k := kindW t n e2) (s := s) (by rw [if_neg (by omega), if_neg (by omega)]; exact hD3) (by omega) (fun v e1 h => by rw [if_neg (by omega), if_neg (by omega)] at h; cases h; exact h168) k3 s3 heq2
             · -- 155 f
               refine g_aload_n0 dX6_readOne_158 rfl ?_
               refine g_iconstI dX6_readOne_159 rfl rfl (fun w159 h159 => ?_)
               refine g_bipushI dX6_readOne_160 rfl rfl (fun w160 h160 => ?_)
               refine g_callVi2 dX6_readOne_162 rfl vX6_207 hR.1 rfl (r_readNumber hR hH3 hD3) (g_rm (by omega)) (Nat.le_of_ble_eq_true rfl) (fun z162 M162 e162 => ?_)
               refine g_goto (t := 169) dX6_readOne_165 (by decide) ?_
               first
                 | (have hz := e147
                    rcases hz with ⟨q, hq, -⟩ | ⟨e9, hq, hD9, hf9, hv9⟩
                    · cases hq
                    · cases hq
                      rw [h145, h144] at hD9 hv9
                      exact l_one3 hR hKd (hH3.t hf9) (hP3.t hf9) hV (frP.tr hF3 hf9.p) hp h6 (x3 := (if kindW t n e2 = 3 then pNum t n (tkE t n e2) 0 11 else if kindW t n e2 = 4 then pNum t n (tkE t n e2) 0 99 else .inr (0, tkE t n e2))) (k := kindW t n e2) (s := s) (by rw [if_pos (by omega)]; exact hD9) (by omega) (fun v e1 h => hv9 v e1 (by rw [if_pos (by omega)] at h; exact h)) (by rw [hf9.1 403 (by decide)]; exact k3) (by rw [hf9.1 408 (by decide)]; exact s3) heq2)
                 | (have hz := e162
                    rcases hz with ⟨q, hq, -⟩ | ⟨e9, hq, hD9, hf9, hv9⟩
                    · cases hq
                    · cases hq
                      rw [h160, h159] at hD9 hv9
                      exact l_one3 hR hKd (hH3.t hf9) (hP3.t hf9) hV (frP.tr hF3 hf9.p) hp h6 (x3 := (if kindW t n e2 = 3 then pNum t n (tkE t n e2) 0 11 else if kindW t n e2 = 4 then pNum t n (tkE t n e2) 0 99 else .inr (0, tkE t n e2))) (k := kindW t n e2) (s := s) (by rw [if_neg (by omega), if_pos (by omega)]; exact hD9) (by omega) (fun v e1 h => hv9 v e1 (by rw [if_neg (by omega), if_pos (by omega)] at h; exact h)) (by rw [hf9.1 403 (by decide)]; exact k3) (by rw [hf9.1 408 (by decide)]; exact s3) heq2)
                 | exact l_one3 hR hKd hH3 hP3 hV hF3 hp h6 (x3 := (if kindW t n e2 = 3 then pNum t n (tkE t n e2) 0 11 else if kindW t n e2 = 4 then pNum t n (tkE t n e2) 0 99 else .inr (0, tkE t n e2))) (k := kindW t n e2) (s := s) (by rw [if_neg (by omega), if_neg (by omega)]; exact hD3) (by omega) (fun v e1 h => by rw [if_neg (by omega), if_neg (by omega)] at h; cases h; exact h168) k3 s3 heq2
           · -- 140 f
             refine g_aload_n0 dX6_readOne_143 rfl ?_
             refine g_iconstI dX6_readOne_144 rfl rfl (fun w144 h144 => ?_)
             refine g_bipushI dX6_readOne_145 rfl rfl (fun w145 h145 => ?_)
             refine g_callVi2 dX6_readOne_147 rfl vX6_207 hR.1 rfl (r_readNumber hR hH3 hD3) (g_rm (by omega)) (Nat.le_of_ble_eq_true rfl) (fun z147 M147 e147 => ?_)
             refine g_goto (t := 169) dX6_readOne_150 (by decide) ?_
             first
               | (have hz := e147
                  rcases hz with ⟨q, hq, -⟩ | ⟨e9, hq, hD9, hf9, hv9⟩
                  · cases hq
                  · cases hq
                    rw [h145, h144] at hD9 hv9
                    exact l_one3 hR hKd (hH3.t hf9) (hP3.t hf9) hV (frP.tr hF3 hf9.p) hp h6 (x3 := (if kindW t n e2 = 3 then pNum t n (tkE t n e2) 0 11 else if kindW t n e2 = 4 then pNum t n (tkE t n e2) 0 99 else .inr (0, tkE t n e2))) (k := kindW t n e2) (s := s) (by rw [if_pos (by omega)]; exact hD9) (by omega) (fun v e1 h => hv9 v e1 (by rw [if_pos (by omega)] at h; exact h)) (by rw [hf9.1 403 (by decide)]; exact k3) (by rw [hf9.1 408 (by decide)]; exact s3) heq2)
               | (have hz := e162
                  rcases hz with ⟨q, hq, -⟩ | ⟨e9, hq, hD9, hf9, hv9⟩
                  · cases hq
                  · cases hq
                    rw [h160, h159] at hD9 hv9
                    exact l_one3 hR hKd (hH3.t hf9) (hP3.t hf9) hV (frP.tr hF3 hf9.p) hp h6 (x3 := (if kindW t n e2 = 3 then pNum t n (tkE t n e2) 0 11 else if kindW t n e2 = 4 then pNum t n (tkE t n e2) 0 99 else .inr (0, tkE t n e2))) (k := kindW t n e2) (s := s) (by rw [if_neg (by omega), if_pos (by omega)]; exact hD9) (by omega) (fun v e1 h => hv9 v e1 (by rw [if_neg (by omega), if_pos (by omega)] at h; exact h)) (by rw [hf9.1 403 (by decide)]; exact k3) (by rw [hf9.1 408 (by decide)]; exact s3) heq2)
               | exact l_one3 hR hKd hH3 hP3 hV hF3 hp h6 (x3 := (if kindW t n e2 = 3 then pNum t n (tkE t n e2) 0 11 else if kindW t n e2 = 4 then pNum t n (tkE t n e2) 0 99 else .inr (0, tkE t n e2))) (k := kindW t n e2) (s := s) (by rw [if_neg (by omega), if_neg (by omega)]; exact hD3) (by omega) (fun v e1 h => by rw [if_neg (by omega), if_neg (by omega)] at h; cases h; exact h168) k3 s3 heq2)
    · -- 112 f
      first
        | (exfalso; have hz := d1; omega)
        | (refine g_vret dX6_readOne_115 rfl ?_
           refine ⟨rfl, ?_, frP.tr hF e105.2.1.p⟩
           have h := e105.1
           rw [heq]
           cases hx : x2 with
           | inl q => rw [hx] at h; exact h
           | inr y =>
             obtain ⟨s, e2⟩ := y
             rw [hx] at h
             show RDP t n (if kindW t n e2 = -1 then _ else _) M105
             rw [if_pos (hnk s e2 hx)]
             exact h)
  · -- 100 f
    have hnk : ∀ s e2, x2 = .inr (s, e2) → kindW t n e2 = -1 := fun s e2 h => by
      subst h
      rw [kindW_of hk1 hk2, c100]; exact h99
    have hbad : ¬ (1 : Int) = 0 := by decide
    refine g_aload_n0 dX6_readOne_103 rfl ?_
    refine g_iconstI dX6_readOne_104 rfl rfl (fun w104 h104 => ?_)
    refine g_callVv1 dX6_readOne_105 rfl vX6_195 hR.1 rfl (r_wrong hR hD (by omega)) (g_rm (by omega)) (Nat.le_of_ble_eq_true rfl) (fun M105 e105 => ?_)
    rw [h104] at e105
    refine g_aload_n0 dX6_readOne_108 rfl ?_
    refine g_geti dX6_readOne_109 rfl fX6_174 hR.1 rfl ?_
    refine g_if_eqI (t := 116) dX6_readOne_112 (by decide) rfl (fun c112 => ?_) (fun c112 => ?_)
    · -- 112 t
      first
        | (exfalso
           have hz := hnk
           have h := e105.1
           cases x2 with
           | inl q => have h2 := h.2.1; have h3 := h.1; omega
           | inr y => have h3 : (M105.1 300 21).toInt = 1 := h.1; omega)
        | (refine g_aload_n0 dX6_readOne_116 rfl ?_
           refine g_callVv0 dX6_readOne_117 rfl vX6_192 hR.1 rfl (r_stepOn hR hH d8.2.2.1 d3) (g_rm (by omega)) (Nat.le_of_ble_eq_true rfl) (fun M117 e117 => ?_)
           refine g_aload_n0 dX6_readOne_120 rfl ?_
           refine g_getr dX6_readOne_121 rfl fX6_29 hR.1 rfl ?_
           refine g_bipushI dX6_readOne_124 rfl rfl (fun w124 h124 => ?_)
           refine g_iload_n1 dX6_readOne_126 rfl ?_
           refine g_iaddI dX6_readOne_127 rfl ⟨by omega, by omega⟩ (fun w127 h127 => ?_)
           refine g_iload_n2 dX6_readOne_128 rfl ?_
           refine g_iastI dX6_readOne_129 rfl (rf_kind hR) ⟨by omega, by omega⟩ ?_
           rw [show w127.toInt.toNat = 6 + (T 0 0).toNat by omega]
           obtain ⟨M3, hM3⟩ : ∃ M3, M3 = g_u M117 403 (6 + (T 0 0).toNat) k := ⟨_, rfl⟩
           refine g_fwd (M1 := M3) ?_ hM3
           have hP2 := hP.t e117.1.t
           have hP3 : RP T M3 := by
             rw [hM3]
             refine RP.ext hV hP2 (g_u_ne (by decide)) (fun q hq => ⟨by rw [g_u_eq, if_neg (by omega)], by rw [g_u_ne (by decide)], by rw [g_u_ne (by decide)]⟩) (fun q hq => ⟨by rw [g_u_ne (by decide)], by rw [g_u_ne (by decide)]⟩) (fun i hi => ⟨by rw [g_u_ne (by decide)], by rw [g_u_ne (by decide)], by rw [g_u_ne (by decide)], by rw [g_u_ne (by decide)]⟩)
           have hf3 : frP M M3 := by rw [hM3]; exact frP.tr e117.1.t.p (frP.u (by omega))
           have hF3 := frP.tr hF hf3
           have hH3 := hH.p hf3
           have hD3 : RD t n (.inr (tkE t n e2)) M3 := by rw [hM3]; exact RD.u (RD.s e117.1 d1 d8.2.2.1 e117.2) (by decide)
           have k3 : (M3.1 403 (6 + (T 0 0).toNat)).toInt = kindW t n e2 := by rw [hM3, g_u_eq, if_pos rfl, hkw]
           have s3 : (M3.1 408 (12 + (T 0 0).toNat)).toInt = s := by rw [hM3, g_u_ne (by decide), e117.1.1 408 (by decide)]; exact hs
           clear hM3
           refine g_aload_n0 dX6_readOne_130 rfl ?_
           refine g_getr dX6_readOne_131 rfl fX6_32 hR.1 rfl ?_
           refine g_bipushI dX6_readOne_134 rfl rfl (fun w134 h134 => ?_)
           refine g_iload_n1 dX6_readOne_136 rfl ?_
           refine g_iaddI dX6_readOne_137 rfl ⟨by omega, by omega⟩ (fun w137 h137 => ?_)
           refine g_iload_n2 dX6_readOne_138 rfl ?_
           refine g_iconstI dX6_readOne_139 rfl rfl (fun w139 h139 => ?_)
           refine g_icmp_neI (t := 153) dX6_readOne_140 (by decide) rfl (fun c140 => ?_) (fun c140 => ?_)
           · -- 140 t
             refine g_iload_n2 dX6_readOne_153 rfl ?_
             refine g_iconstI dX6_readOne_154 rfl rfl (fun w154 h154 => ?_)
             refine g_icmp_neI (t := 168) dX6_readOne_155 (by decide) rfl (fun c155 => ?_) (fun c155 => ?_)
             · -- 155 t
               refine g_iconstI dX6_readOne_168 rfl rfl (fun w168 h168 => ?_)
               first
                 | (have hz := e147
                    rcases hz with ⟨q, hq, -⟩ | ⟨e9, hq, hD9, hf9, hv9⟩
                    · cases hq
                    · cases hq
                      rw [h145, h144] at hD9 hv9
                      exact l_one3 hR hKd (hH3.t hf9) (hP3.t hf9) hV (frP.tr hF3 hf9.p) hp h6 (x3 := (if kindW t n e2 = 3 then pNum t n (tkE t n e2) 0 11 else if kindW t n e2 = 4 then pNum t n (tkE t n e2) 0 99 else .inr (0, tkE t n e2))) (k := kindW t n e2) (s := s) (by rw [if_pos (by omega)]; exact hD9) (by omega) (fun v e1 h => hv9 v e1 (by rw [if_pos (by omega)] at h; exact h)) (by rw [hf9.1 403 (by decide)]; exact k3) (by rw [hf9.1 408 (by decide)]; exact s3) heq2)
                 | (have hz := e162
                    rcases hz with ⟨q, hq, -⟩ | ⟨e9, hq, hD9, hf9, hv9⟩
                    · cases hq
                    · cases hq
                      rw [h160, h159] at hD9 hv9
                      exact l_one3 hR hKd (hH3.t hf9) (hP3.t hf9) hV (frP.tr hF3 hf9.p) hp h6 (x3 := (if kindW t n e2 = 3 then pNum t n (tkE t n e2) 0 11 else if kindW t n e2 = 4 then pNum t n (tkE t n e2) 0 99 else .inr (0, tkE t n e2))) (k := kindW t n e2) (s := s) (by rw [if_neg (by omega), if_pos (by omega)]; exact hD9) (by omega) (fun v e1 h => hv9 v e1 (by rw [if_neg (by omega), if_pos (by omega)] at h; exact h)) (by rw [hf9.1 403 (by decide)]; exact k3) (by rw [hf9.1 408 (by decide)]; exact s3) heq2)
                 | exact l_one3 hR hKd hH3 hP3 hV hF3 hp h6 (x3 := (if kindW t n e2 = 3 then pNum t n (tkE t n e2) 0 11 else if kindW t n e2 = 4 then pNum t n (tkE t n e2) 0 99 else .inr (0, tkE t n e2))) (k := kindW t n e2) (s := s) (by rw [if_neg (by omega), if_neg (by omega)]; exact hD3) (by omega) (fun v e1 h => by rw [if_neg (by omega), if_neg (by omega)] at h; cases h; exact h168) k3 s3 heq2
             · -- 155 f
               refine g_aload_n0 dX6_readOne_158 rfl ?_
               refine g_iconstI dX6_readOne_159 rfl rfl (fun w159 h159 => ?_)
               refine g_bipushI dX6_readOne_160 rfl rfl (fun w160 h160 => ?_)
               refine g_callVi2 dX6_readOne_162 rfl vX6_207 hR.1 rfl (r_readNumber hR hH3 hD3) (g_rm (by omega)) (Nat.le_of_ble_eq_true rfl) (fun z162 M162 e162 => ?_)
               refine g_goto (t := 169) dX6_readOne_165 (by decide) ?_
               first
                 | (have hz := e147
                    rcases hz with ⟨q, hq, -⟩ | ⟨e9, hq, hD9, hf9, hv9⟩
                    · cases hq
                    · cases hq
                      rw [h145, h144] at hD9 hv9
                      exact l_one3 hR hKd (hH3.t hf9) (hP3.t hf9) hV (frP.tr hF3 hf9.p) hp h6 (x3 := (if kindW t n e2 = 3 then pNum t n (tkE t n e2) 0 11 else if kindW t n e2 = 4 then pNum t n (tkE t n e2) 0 99 else .inr (0, tkE t n e2))) (k := kindW t n e2) (s := s) (by rw [if_pos (by omega)]; exact hD9) (by omega) (fun v e1 h => hv9 v e1 (by rw [if_pos (by omega)] at h; exact h)) (by rw [hf9.1 403 (by decide)]; exact k3) (by rw [hf9.1 408 (by decide)]; exact s3) heq2)
                 | (have hz := e162
                    rcases hz with ⟨q, hq, -⟩ | ⟨e9, hq, hD9, hf9, hv9⟩
                    · cases hq
                    · cases hq
                      rw [h160, h159] at hD9 hv9
                      exact l_one3 hR hKd (hH3.t hf9) (hP3.t hf9) hV (frP.tr hF3 hf9.p) hp h6 (x3 := (if kindW t n e2 = 3 then pNum t n (tkE t n e2) 0 11 else if kindW t n e2 = 4 then pNum t n (tkE t n e2) 0 99 else .inr (0, tkE t n e2))) (k := kindW t n e2) (s := s) (by rw [if_neg (by omega), if_pos (by omega)]; exact hD9) (by omega) (fun v e1 h => hv9 v e1 (by rw [if_neg (by omega), if_pos (by omega)] at h; exact h)) (by rw [hf9.1 403 (by decide)]; exact k3) (by rw [hf9.1 408 (by decide)]; exact s3) heq2)
                 | exact l_one3 hR hKd hH3 hP3 hV hF3 hp h6 (x3 := (if kindW t n e2 = 3 then pNum t n (tkE t n e2) 0 11 else if kindW t n e2 = 4 then pNum t n (tkE t n e2) 0 99 else .inr (0, tkE t n e2))) (k := kindW t n e2) (s := s) (by rw [if_neg (by omega), if_neg (by omega)]; exact hD3) (by omega) (fun v e1 h => by rw [if_neg (by omega), if_neg (by omega)] at h; cases h; exact h168) k3 s3 heq2
           · -- 140 f
             refine g_aload_n0 dX6_readOne_143 rfl ?_
             refine g_iconstI dX6_readOne_144 rfl rfl (fun w144 h144 => ?_)
             refine g_bipushI dX6_readOne_145 rfl rfl (fun w145 h145 => ?_)
             refine g_callVi2 dX6_readOne_147 rfl vX6_207 hR.1 rfl (r_readNumber hR hH3 hD3) (g_rm (by omega)) (Nat.le_of_ble_eq_true rfl) (fun z147 M147 e147 => ?_)
             refine g_goto (t := 169) dX6_readOne_150 (by decide) ?_
             first
               | (have hz := e147
                  rcases hz with ⟨q, hq, -⟩ | ⟨e9, hq, hD9, hf9, hv9⟩
                  · cases hq
                  · cases hq
                    rw [h145, h144] at hD9 hv9
                    exact l_one3 hR hKd (hH3.t hf9) (hP3.t hf9) hV (frP.tr hF3 hf9.p) hp h6 (x3 := (if kindW t n e2 = 3 then pNum t n (tkE t n e2) 0 11 else if kindW t n e2 = 4 then pNum t n (tkE t n e2) 0 99 else .inr (0, tkE t n e2))) (k := kindW t n e2) (s := s) (by rw [if_pos (by omega)]; exact hD9) (by omega) (fun v e1 h => hv9 v e1 (by rw [if_pos (by omega)] at h; exact h)) (by rw [hf9.1 403 (by decide)]; exact k3) (by rw [hf9.1 408 (by decide)]; exact s3) heq2)
               | (have hz := e162
                  rcases hz with ⟨q, hq, -⟩ | ⟨e9, hq, hD9, hf9, hv9⟩
                  · cases hq
                  · cases hq
                    rw [h160, h159] at hD9 hv9
                    exact l_one3 hR hKd (hH3.t hf9) (hP3.t hf9) hV (frP.tr hF3 hf9.p) hp h6 (x3 := (if kindW t n e2 = 3 then pNum t n (tkE t n e2) 0 11 else if kindW t n e2 = 4 then pNum t n (tkE t n e2) 0 99 else .inr (0, tkE t n e2))) (k := kindW t n e2) (s := s) (by rw [if_neg (by omega), if_pos (by omega)]; exact hD9) (by omega) (fun v e1 h => hv9 v e1 (by rw [if_neg (by omega), if_pos (by omega)] at h; exact h)) (by rw [hf9.1 403 (by decide)]; exact k3) (by rw [hf9.1 408 (by decide)]; exact s3) heq2)
               | exact l_one3 hR hKd hH3 hP3 hV hF3 hp h6 (x3 := (if kindW t n e2 = 3 then pNum t n (tkE t n e2) 0 11 else if kindW t n e2 = 4 then pNum t n (tkE t n e2) 0 99 else .inr (0, tkE t n e2))) (k := kindW t n e2) (s := s) (by rw [if_neg (by omega), if_neg (by omega)]; exact hD3) (by omega) (fun v e1 h => by rw [if_neg (by omega), if_neg (by omega)] at h; cases h; exact h168) k3 s3 heq2)
    · -- 112 f
      first
        | (exfalso; have hz := d1; omega)
        | (refine g_vret dX6_readOne_115 rfl ?_
           refine ⟨rfl, ?_, frP.tr hF e105.2.1.p⟩
           have h := e105.1
           rw [heq]
           cases hx : x2 with
           | inl q => rw [hx] at h; exact h
           | inr y =>
             obtain ⟨s, e2⟩ := y
             rw [hx] at h
             show RDP t n (if kindW t n e2 = -1 then _ else _) M105
             rw [if_pos (hnk s e2 hx)]
             exact h)
set_option maxHeartbeats 1200000 in
theorem l_one1 {Γ : gW} {t : Nat → Int} {n : Nat} {T : gTw} (hR : g_Ref Γ) (hKd : g_o Γ 400 (.inr (5, 5))) {M M9 : gM} (hH : HTx t n M) (hKm : ∀ j, j < 5 → (M.1 400 j).toInt = 615 + (j : Int)) (hV : PIV T) {p : Int32} (hp : p.toInt = T 0 0) (h6 : T 0 0 < 6) {e : Nat} {x2 : pR Int} (hD9 : RD t n (pRho x2) M9) (hP9 : RP T M9) (hF9 : frP M M9) {zz w42 : Int32} (hw : w42.toInt = 12 + T 0 0) (hv9 : ∀ v e1, x2 = .inr (v, e1) → zz.toInt = v) (heq : pOne t n T e = pBd x2 (fun s e2 => if kindW t n e2 = -1 then .inl (1, tkB t n e2) else pBd (if kindW t n e2 = 3 then pNum t n (tkE t n e2) 0 11 else if kindW t n e2 = 4 then pNum t n (tkE t n e2) 0 99 else .inr (0, tkE t n e2)) (fun g e3 => .inr (addPT T (kindW t n e2) g s, e3)))) : G Γ μX6_readOne (g_R 6) (0, 0) (g_Z Γ (g_qv (fun M1 => RDP t n (pOne t n T e) M1 ∧ frP M M1))) 63 [some (.ref 300), some (.int p), none, none] [.int zz, .int w42, .ref 408] M9 := by
  have b0 := hV.1.1
  have b1 := hV.1.2.1
  refine g_iastI dX6_readOne_63 rfl (rf_read hR) ⟨by omega, by omega⟩ ?_
  have i63 : w42.toInt.toNat = 12 + (T 0 0).toNat := by omega
  rw [i63]
  obtain ⟨M3, hM3⟩ : ∃ M3, M3 = g_u M9 408 (12 + (T 0 0).toNat) zz := ⟨_, rfl⟩
  refine g_fwd (M1 := M3) ?_ hM3
  have hP3 : RP T M3 := by
    rw [hM3]
    refine RP.ext hV hP9 (g_u_ne (by decide)) (fun q hq => ⟨by rw [g_u_ne (by decide)], by rw [g_u_ne (by decide)], by rw [g_u_eq, if_neg (by omega)]⟩) (fun q hq => ⟨by rw [g_u_eq, if_neg (by omega)], by rw [g_u_eq, if_neg (by omega)]⟩) (fun i hi => ⟨by rw [g_u_ne (by decide)], by rw [g_u_ne (by decide)], by rw [g_u_ne (by decide)], by rw [g_u_eq, if_neg (by omega)]⟩)
  have hf3 : frP M M3 := by rw [hM3]; exact frP.tr hF9 (frP.u (by omega))
  have hD3 : RD t n (pRho x2) M3 := by rw [hM3]; exact RD.u hD9 (by decide)
  refine l_one2 hR hKd (hH.p hf3) hP3 hV hf3 hp h6 (fun j hj => ?_) hD3 (fun v e1 h => ?_) heq
  · rw [hf3.1 400 (by decide) (by decide) (by decide) (by decide) (by decide) (by decide) (by decide) (by decide)]; exact hKm j hj
  · rw [hM3, g_u_eq, if_pos rfl]; exact hv9 v e1 h
set_option maxHeartbeats 1200000 in
theorem r_readOne {Γ : gW} {M : gM} {t : Nat → Int} {n : Nat} {T : gTw} {e : Nat} (hR : g_Ref Γ) (hKd : g_o Γ 400 (.inr (5, 5))) (hH : HTx t n M) (hD : RD t n (.inr e) M) (hP : RP T M) (hV : PIV T) (hKm : ∀ j, j < 5 → (M.1 400 j).toInt = 615 + (j : Int))  : Ct Γ yX6_readOne μX6_readOne 6 [.ref 300] M (g_qv (fun M1 => RDP t n (pOne t n T e) M1 ∧ frP M M1)) := by
  have b0 := hV.1.1
  have hp0 := hP.1
  obtain ⟨d1, d2, d3, d4, d5, d6, d7⟩ := id hD
  have d8 := tk_rng (t := t) d2
  refine g_enter rfl rfl rfl (Nat.le_of_ble_eq_true rfl) ?_
  show G Γ _ _ _ _ 0 [some (.ref 300), none, none, none] [] M
  refine g_aload_n0 dX6_readOne_0 rfl ?_
  refine g_getr dX6_readOne_1 rfl fX6_25 hR.1 rfl ?_
  refine g_iconstI dX6_readOne_4 rfl rfl (fun w4 h4 => ?_)
  refine g_ialdI dX6_readOne_5 rfl (rf_told hR) ⟨by omega, by omega⟩ ?_
  rw [show w4.toInt.toNat = 4 by omega]
  refine g_bipushI dX6_readOne_6 rfl rfl (fun w6 h6 => ?_)
  refine g_icmp_neI (t := 16) dX6_readOne_8 (by decide) rfl (fun c8 => ?_) (fun c8 => ?_)
  · -- 8 t
    refine g_aload_n0 dX6_readOne_16 rfl ?_
    refine g_geti dX6_readOne_17 rfl fX6_174 hR.1 rfl ?_
    refine g_if_eqI (t := 24) dX6_readOne_20 (by decide) rfl (fun c20 => ?_) (fun c20 => ?_)
    · -- 20 t
      first
        | (exfalso; have hz : (M13.1 300 21).toInt = 2 := e13.1.1; omega)
        | (refine g_aload_n0 dX6_readOne_24 rfl ?_
           refine g_callVv0 dX6_readOne_25 rfl vX6_192 hR.1 rfl (r_stepOn hR hH d8.2.2.1 d3) (g_rm (by omega)) (Nat.le_of_ble_eq_true rfl) (fun M25 e25 => ?_)
           have hH2 := hH.s e25.1
           have hD2 := RD.s e25.1 d1 d8.2.2.1 e25.2
           have hP2 := hP.t e25.1.t
           have hp2 := hP2.1
           refine g_aload_n0 dX6_readOne_28 rfl ?_
           refine g_getr dX6_readOne_29 rfl fX6_25 hR.1 rfl ?_
           refine g_iconstI dX6_readOne_32 rfl rfl (fun w32 h32 => ?_)
           refine g_ialdI dX6_readOne_33 rfl (rf_told hR) ⟨by omega, by omega⟩ ?_
           rw [show w32.toInt.toNat = 4 by omega]
           refine g_istore_n1 dX6_readOne_34 rfl rfl ?_
           refine g_aload_n0 dX6_readOne_35 rfl ?_
           refine g_getr dX6_readOne_36 rfl fX6_44 hR.1 rfl ?_
           refine g_bipushI dX6_readOne_39 rfl rfl (fun w39 h39 => ?_)
           refine g_iload_n1 dX6_readOne_41 rfl ?_
           refine g_iaddI dX6_readOne_42 rfl ⟨by omega, by omega⟩ (fun w42 h42 => ?_)
           refine g_aload_n0 dX6_readOne_43 rfl ?_
           refine g_ldcS (c := 23) dX6_readOne_44 rfl rfl ?_
           refine g_callVi1 dX6_readOne_46 rfl vX6_204 hR.1 rfl (r_passes (c := 23) hR hH2 hD2 rfl) (g_rm (by omega)) (Nat.le_of_ble_eq_true rfl) (fun z46 M46 e46 => ?_)
           refine g_if_eqI (t := 62) dX6_readOne_49 (by decide) rfl (fun c49 => ?_) (fun c49 => ?_)
           · -- 49 t
             replace e46 : ¬ isW t n (tkE t n e) w_sand ∧ M46 = M25 := by
               rcases e46 with ⟨e9, h1, h2, h3, h4, h5⟩ | ⟨h1, h2, h3⟩
               · omega
               · exact ⟨h1, h3⟩
             obtain ⟨hnw, rfl⟩ := e46
             refine g_iconstI dX6_readOne_62 rfl rfl (fun w62 h62 => ?_)
             first
               | (have hz := hnw
                  exact l_one1 hR hKd hH hKm hV hp2 (by omega) (x2 := (pIf t n (tkE t n e) w_sand (pNum t n (tkE t n (tkE t n e)) 0 99) (.inr (0, tkE t n e)))) (by rw [pIf_neg hz]; exact hD2) hP2 e25.1.t.p (by omega) (fun v e1 h => by rw [pIf_neg hz] at h; cases h; exact h62) (by rw [pOne, if_neg (by omega)]))
               | (have hz := hyw
                  rcases e56 with ⟨q, hq, -⟩ | ⟨e9, hq, hD9, hf9, hv9⟩
                  · cases hq
                  · cases hq
                    rw [h53, h54] at hD9 hv9
                    exact l_one1 hR hKd hH hKm hV (by rw [hp2]) (by omega) (x2 := (pIf t n (tkE t n e) w_sand (pNum t n (tkE t n (tkE t n e)) 0 99) (.inr (0, tkE t n e)))) (by rw [pIf_pos hz]; exact hD9) ((hP2.t hf4).t hf9) (frP.tr e25.1.t.p (frP.tr hf4.p hf9.p)) (by omega) (fun v e1 h => hv9 v e1 (by rw [pIf_pos hz] at h; exact h)) (by rw [pOne, if_neg (by omega)]))
           · -- 49 f
             obtain ⟨hyw, hD4, hf4⟩ : isW t n (tkE t n e) w_sand ∧ RD t n (.inr (tkE t n (tkE t n e))) M46 ∧ frT M25 M46 := by
               rcases e46 with ⟨e9, h1, h2, h3, h4, h5⟩ | ⟨h1, h2, h3⟩
               · cases h1; exact ⟨h2, h4, h5⟩
               · omega
             clear e46
             refine g_aload_n0 dX6_readOne_52 rfl ?_
             refine g_iconstI dX6_readOne_53 rfl rfl (fun w53 h53 => ?_)
             refine g_bipushI dX6_readOne_54 rfl rfl (fun w54 h54 => ?_)
             refine g_callVi2 dX6_readOne_56 rfl vX6_207 hR.1 rfl (r_readNumber hR (hH2.t hf4) hD4) (g_rm (by omega)) (Nat.le_of_ble_eq_true rfl) (fun z56 M56 e56 => ?_)
             refine g_goto (t := 63) dX6_readOne_59 (by decide) ?_
             first
               | (have hz := hnw
                  exact l_one1 hR hKd hH hKm hV hp2 (by omega) (x2 := (pIf t n (tkE t n e) w_sand (pNum t n (tkE t n (tkE t n e)) 0 99) (.inr (0, tkE t n e)))) (by rw [pIf_neg hz]; exact hD2) hP2 e25.1.t.p (by omega) (fun v e1 h => by rw [pIf_neg hz] at h; cases h; exact h62) (by rw [pOne, if_neg (by omega)]))
               | (have hz := hyw
                  rcases e56 with ⟨q, hq, -⟩ | ⟨e9, hq, hD9, hf9, hv9⟩
                  · cases hq
                  · cases hq
                    rw [h53, h54] at hD9 hv9
                    exact l_one1 hR hKd hH hKm hV (by rw [hp2]) (by omega) (x2 := (pIf t n (tkE t n e) w_sand (pNum t n (tkE t n (tkE t n e)) 0 99) (.inr (0, tkE t n e)))) (by rw [pIf_pos hz]; exact hD9) ((hP2.t hf4).t hf9) (frP.tr e25.1.t.p (frP.tr hf4.p hf9.p)) (by omega) (fun v e1 h => hv9 v e1 (by rw [pIf_pos hz] at h; exact h)) (by rw [pOne, if_neg (by omega)])))
    · -- 20 f
      first
        | (have hz := e13
           refine g_vret dX6_readOne_23 rfl ⟨rfl, ?_, hz.2.1.p⟩
           rw [pOne, if_pos (by omega)]
           exact hz.1)
        | (exfalso; omega)
  · -- 8 f
    refine g_aload_n0 dX6_readOne_11 rfl ?_
    refine g_iconstI dX6_readOne_12 rfl rfl (fun w12 h12 => ?_)
    refine g_callVv1 dX6_readOne_13 rfl vX6_195 hR.1 rfl (r_wrong hR hD (by omega)) (g_rm (by omega)) (Nat.le_of_ble_eq_true rfl) (fun M13 e13 => ?_)
    rw [h12] at e13
    refine g_aload_n0 dX6_readOne_16 rfl ?_
    refine g_geti dX6_readOne_17 rfl fX6_174 hR.1 rfl ?_
    refine g_if_eqI (t := 24) dX6_readOne_20 (by decide) rfl (fun c20 => ?_) (fun c20 => ?_)
    · -- 20 t
      first
        | (exfalso; have hz : (M13.1 300 21).toInt = 2 := e13.1.1; omega)
        | (refine g_aload_n0 dX6_readOne_24 rfl ?_
           refine g_callVv0 dX6_readOne_25 rfl vX6_192 hR.1 rfl (r_stepOn hR hH d8.2.2.1 d3) (g_rm (by omega)) (Nat.le_of_ble_eq_true rfl) (fun M25 e25 => ?_)
           have hH2 := hH.s e25.1
           have hD2 := RD.s e25.1 d1 d8.2.2.1 e25.2
           have hP2 := hP.t e25.1.t
           have hp2 := hP2.1
           refine g_aload_n0 dX6_readOne_28 rfl ?_
           refine g_getr dX6_readOne_29 rfl fX6_25 hR.1 rfl ?_
           refine g_iconstI dX6_readOne_32 rfl rfl (fun w32 h32 => ?_)
           refine g_ialdI dX6_readOne_33 rfl (rf_told hR) ⟨by omega, by omega⟩ ?_
           rw [show w32.toInt.toNat = 4 by omega]
           refine g_istore_n1 dX6_readOne_34 rfl rfl ?_
           refine g_aload_n0 dX6_readOne_35 rfl ?_
           refine g_getr dX6_readOne_36 rfl fX6_44 hR.1 rfl ?_
           refine g_bipushI dX6_readOne_39 rfl rfl (fun w39 h39 => ?_)
           refine g_iload_n1 dX6_readOne_41 rfl ?_
           refine g_iaddI dX6_readOne_42 rfl ⟨by omega, by omega⟩ (fun w42 h42 => ?_)
           refine g_aload_n0 dX6_readOne_43 rfl ?_
           refine g_ldcS (c := 23) dX6_readOne_44 rfl rfl ?_
           refine g_callVi1 dX6_readOne_46 rfl vX6_204 hR.1 rfl (r_passes (c := 23) hR hH2 hD2 rfl) (g_rm (by omega)) (Nat.le_of_ble_eq_true rfl) (fun z46 M46 e46 => ?_)
           refine g_if_eqI (t := 62) dX6_readOne_49 (by decide) rfl (fun c49 => ?_) (fun c49 => ?_)
           · -- 49 t
             replace e46 : ¬ isW t n (tkE t n e) w_sand ∧ M46 = M25 := by
               rcases e46 with ⟨e9, h1, h2, h3, h4, h5⟩ | ⟨h1, h2, h3⟩
               · omega
               · exact ⟨h1, h3⟩
             obtain ⟨hnw, rfl⟩ := e46
             refine g_iconstI dX6_readOne_62 rfl rfl (fun w62 h62 => ?_)
             first
               | (have hz := hnw
                  exact l_one1 hR hKd hH hKm hV hp2 (by omega) (x2 := (pIf t n (tkE t n e) w_sand (pNum t n (tkE t n (tkE t n e)) 0 99) (.inr (0, tkE t n e)))) (by rw [pIf_neg hz]; exact hD2) hP2 e25.1.t.p (by omega) (fun v e1 h => by rw [pIf_neg hz] at h; cases h; exact h62) (by rw [pOne, if_neg (by omega)]))
               | (have hz := hyw
                  rcases e56 with ⟨q, hq, -⟩ | ⟨e9, hq, hD9, hf9, hv9⟩
                  · cases hq
                  · cases hq
                    rw [h53, h54] at hD9 hv9
                    exact l_one1 hR hKd hH hKm hV (by rw [hp2]) (by omega) (x2 := (pIf t n (tkE t n e) w_sand (pNum t n (tkE t n (tkE t n e)) 0 99) (.inr (0, tkE t n e)))) (by rw [pIf_pos hz]; exact hD9) ((hP2.t hf4).t hf9) (frP.tr e25.1.t.p (frP.tr hf4.p hf9.p)) (by omega) (fun v e1 h => hv9 v e1 (by rw [pIf_pos hz] at h; exact h)) (by rw [pOne, if_neg (by omega)]))
           · -- 49 f
             obtain ⟨hyw, hD4, hf4⟩ : isW t n (tkE t n e) w_sand ∧ RD t n (.inr (tkE t n (tkE t n e))) M46 ∧ frT M25 M46 := by
               rcases e46 with ⟨e9, h1, h2, h3, h4, h5⟩ | ⟨h1, h2, h3⟩
               · cases h1; exact ⟨h2, h4, h5⟩
               · omega
             clear e46
             refine g_aload_n0 dX6_readOne_52 rfl ?_
             refine g_iconstI dX6_readOne_53 rfl rfl (fun w53 h53 => ?_)
             refine g_bipushI dX6_readOne_54 rfl rfl (fun w54 h54 => ?_)
             refine g_callVi2 dX6_readOne_56 rfl vX6_207 hR.1 rfl (r_readNumber hR (hH2.t hf4) hD4) (g_rm (by omega)) (Nat.le_of_ble_eq_true rfl) (fun z56 M56 e56 => ?_)
             refine g_goto (t := 63) dX6_readOne_59 (by decide) ?_
             first
               | (have hz := hnw
                  exact l_one1 hR hKd hH hKm hV hp2 (by omega) (x2 := (pIf t n (tkE t n e) w_sand (pNum t n (tkE t n (tkE t n e)) 0 99) (.inr (0, tkE t n e)))) (by rw [pIf_neg hz]; exact hD2) hP2 e25.1.t.p (by omega) (fun v e1 h => by rw [pIf_neg hz] at h; cases h; exact h62) (by rw [pOne, if_neg (by omega)]))
               | (have hz := hyw
                  rcases e56 with ⟨q, hq, -⟩ | ⟨e9, hq, hD9, hf9, hv9⟩
                  · cases hq
                  · cases hq
                    rw [h53, h54] at hD9 hv9
                    exact l_one1 hR hKd hH hKm hV (by rw [hp2]) (by omega) (x2 := (pIf t n (tkE t n e) w_sand (pNum t n (tkE t n (tkE t n e)) 0 99) (.inr (0, tkE t n e)))) (by rw [pIf_pos hz]; exact hD9) ((hP2.t hf4).t hf9) (frP.tr e25.1.t.p (frP.tr hf4.p hf9.p)) (by omega) (fun v e1 h => hv9 v e1 (by rw [pIf_pos hz] at h; exact h)) (by rw [pOne, if_neg (by omega)])))
    · -- 20 f
      first
        | (have hz := e13
           refine g_vret dX6_readOne_23 rfl ⟨rfl, ?_, hz.2.1.p⟩
           rw [pOne, if_pos (by omega)]
           exact hz.1)
        | (exfalso; omega)
