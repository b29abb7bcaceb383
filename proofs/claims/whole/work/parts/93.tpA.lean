/-! the class's Tape: the object 230, its text 231, its town 160 -/
def g_Tape (Γ : gW) : Prop := g_o Γ 230 (.inl (2, [some (some 160), some (some 231), none, none, none, none, none, none, none, none, none, none, none])) ∧ g_o Γ 231 (.inr (0, 700)) ∧ g_Town Γ 160
def sgn8 (x : Int) : Int := if x < 128 then x else x - 256
def HTc (t : Nat → Int) (n : Nat) (M : gM) : Prop := (M.1 230 3).toInt = (n : Int) ∧ n ≤ 700 ∧ (∀ k, k < 700 → 0 ≤ t k ∧ t k ≤ 255) ∧ ∀ k, k < 700 → (M.1 231 k).toInt = sgn8 (t k)
def TKc (t : Nat → Int) (n e : Nat) (M : gM) : Prop := (M.1 230 9).toInt = (tkE t n e : Int) ∧ (M.1 230 7).toInt = tkK t n e ∧ (M.1 230 8).toInt = (tkB t n e : Int) ∧ (tkK t n e = 2 → (M.1 230 10).toInt = ((tkE t n e - tkB t n e : Nat) : Int) ∧ (tkE t n e - tkB t n e ≤ 4 → (M.1 230 11).toInt = tkV t n e))
def ERc (q : Int × Int) (M : gM) : Prop := (M.1 230 6).toInt = q.1 ∧ (M.1 230 8).toInt = q.2
/-- only the token's fields move -/
def frK (M M' : gM) : Prop := (∀ j, j ≠ 230 → M'.1 j = M.1 j) ∧ M'.2 = M.2 ∧ ∀ k, ¬ (6 ≤ k ∧ k ≤ 12) → M'.1 230 k = M.1 230 k
theorem frK.rf {M : gM} : frK M M := ⟨fun _ _ => rfl, rfl, fun _ _ => rfl⟩
theorem frK.tr {M M1 M2 : gM} (h : frK M M1) (h2 : frK M1 M2) : frK M M2 := ⟨fun j a => by rw [h2.1 j a, h.1 j a], by rw [h2.2.1, h.2.1], fun k a => by rw [h2.2.2 k a, h.2.2 k a]⟩
theorem frK.u {M : gM} {k : Nat} {x : Int32} (h : 6 ≤ k ∧ k ≤ 12) : frK M (g_u M 230 k x) := ⟨fun j a => by rw [g_u_ne a], rfl, fun i a => by rw [g_u_eq, if_neg (show ¬ i = k by omega)]⟩
theorem HTc.k {t : Nat → Int} {n : Nat} {M M' : gM} (h : HTc t n M) (hf : frK M M') : HTc t n M' := by
  obtain ⟨a, b, c, d⟩ := h
  exact ⟨by rw [hf.2.2 3 (by omega)]; exact a, b, c, fun k hk => by rw [hf.1 231 (by decide)]; exact d k hk⟩
theorem sgn8_eq {x c : Int} (h : 0 ≤ x ∧ x ≤ 255) (hc : 0 ≤ c ∧ c < 128) : sgn8 x = c ↔ x = c := by rw [sgn8]; split <;> omega
theorem sgn8_in {x a b : Int} (h : 0 ≤ x ∧ x ≤ 255) (ha : 0 ≤ a ∧ b < 128) : (a ≤ sgn8 x ∧ sgn8 x ≤ b) ↔ (a ≤ x ∧ x ≤ b) := by rw [sgn8]; split <;> omega
set_option maxHeartbeats 1200000 in
theorem c_isLetter {Γ : gW} {M : gM} {t : Nat → Int} {n : Nat} (hA : g_Tape Γ) (hH : HTc t n M) {k : Int32} (hk : 0 ≤ k.toInt ∧ k.toInt < 700) : Ct Γ yX2_isLetter μX2_isLetter 0 [.ref 230, .int k] M (g_qi (fun z M1 => M1 = M ∧ (z.toInt = 0 ∨ z.toInt = 1) ∧ (z.toInt = 1 ↔ ltB (t k.toInt.toNat) = true))) := by
  obtain ⟨x1, x2, x3, x4⟩ := id hH
  have x5 := x3 k.toInt.toNat (by omega)
  have x6 := x4 k.toInt.toNat (by omega)
  have x7 := sgn8_in (a := 97) (b := 122) x5 (by decide)
  rw [← x6] at x7
  refine g_enter rfl rfl rfl (Nat.le_of_ble_eq_true rfl) ?_
  show G Γ _ _ _ _ 0 [some (.ref 230), some (.int k)] [] M
  refine g_aload_n0 dX2_isLetter_0 rfl ?_
  refine g_getr dX2_isLetter_1 rfl fX2_18 hA.1 rfl ?_
  refine g_iload_n1 dX2_isLetter_4 rfl ?_
  refine g_baldI dX2_isLetter_5 rfl hA.2.1 ⟨by omega, by omega⟩ ?_
  refine g_bipushI dX2_isLetter_6 rfl rfl (fun w6 h6 => ?_)
  refine g_icmp_ltI (t := 26) dX2_isLetter_8 (by decide) rfl (fun c8 => ?_) (fun c8 => ?_)
  · -- 8 t
    refine g_iconstI dX2_isLetter_26 rfl rfl (fun w26 h26 => ?_)
    refine g_zretI dX2_isLetter_27 rfl (by omega) ?_
    first
      | exact ⟨_, rfl, rfl, by omega, ⟨fun _ => decide_eq_true (x7.mp (by omega)), fun _ => by omega⟩⟩
      | exact ⟨_, rfl, rfl, by omega, ⟨fun h => by omega, fun h => by have := x7.mpr (of_decide_eq_true h); omega⟩⟩
  · -- 8 f
    refine g_aload_n0 dX2_isLetter_11 rfl ?_
    refine g_getr dX2_isLetter_12 rfl fX2_18 hA.1 rfl ?_
    refine g_iload_n1 dX2_isLetter_15 rfl ?_
    refine g_baldI dX2_isLetter_16 rfl hA.2.1 ⟨by omega, by omega⟩ ?_
    refine g_bipushI dX2_isLetter_17 rfl rfl (fun w17 h17 => ?_)
    refine g_icmp_gtI (t := 26) dX2_isLetter_19 (by decide) rfl (fun c19 => ?_) (fun c19 => ?_)
    · -- 19 t
      refine g_iconstI dX2_isLetter_26 rfl rfl (fun w26 h26 => ?_)
      refine g_zretI dX2_isLetter_27 rfl (by omega) ?_
      first
        | exact ⟨_, rfl, rfl, by omega, ⟨fun _ => decide_eq_true (x7.mp (by omega)), fun _ => by omega⟩⟩
        | exact ⟨_, rfl, rfl, by omega, ⟨fun h => by omega, fun h => by have := x7.mpr (of_decide_eq_true h); omega⟩⟩
    · -- 19 f
      refine g_iconstI dX2_isLetter_22 rfl rfl (fun w22 h22 => ?_)
      refine g_goto (t := 27) dX2_isLetter_23 (by decide) ?_
      refine g_zretI dX2_isLetter_27 rfl (by omega) ?_
      first
        | exact ⟨_, rfl, rfl, by omega, ⟨fun _ => decide_eq_true (x7.mp (by omega)), fun _ => by omega⟩⟩
        | exact ⟨_, rfl, rfl, by omega, ⟨fun h => by omega, fun h => by have := x7.mpr (of_decide_eq_true h); omega⟩⟩
set_option maxHeartbeats 1200000 in
theorem c_isDigit {Γ : gW} {M : gM} {t : Nat → Int} {n : Nat} (hA : g_Tape Γ) (hH : HTc t n M) {k : Int32} (hk : 0 ≤ k.toInt ∧ k.toInt < 700) : Ct Γ yX2_isDigit μX2_isDigit 0 [.ref 230, .int k] M (g_qi (fun z M1 => M1 = M ∧ (z.toInt = 0 ∨ z.toInt = 1) ∧ (z.toInt = 1 ↔ dgB (t k.toInt.toNat) = true))) := by
  obtain ⟨x1, x2, x3, x4⟩ := id hH
  have x5 := x3 k.toInt.toNat (by omega)
  have x6 := x4 k.toInt.toNat (by omega)
  have x7 := sgn8_in (a := 48) (b := 57) x5 (by decide)
  rw [← x6] at x7
  refine g_enter rfl rfl rfl (Nat.le_of_ble_eq_true rfl) ?_
  show G Γ _ _ _ _ 0 [some (.ref 230), some (.int k)] [] M
  refine g_aload_n0 dX2_isDigit_0 rfl ?_
  refine g_getr dX2_isDigit_1 rfl fX2_18 hA.1 rfl ?_
  refine g_iload_n1 dX2_isDigit_4 rfl ?_
  refine g_baldI dX2_isDigit_5 rfl hA.2.1 ⟨by omega, by omega⟩ ?_
  refine g_bipushI dX2_isDigit_6 rfl rfl (fun w6 h6 => ?_)
  refine g_icmp_ltI (t := 26) dX2_isDigit_8 (by decide) rfl (fun c8 => ?_) (fun c8 => ?_)
  · -- 8 t
    refine g_iconstI dX2_isDigit_26 rfl rfl (fun w26 h26 => ?_)
    refine g_zretI dX2_isDigit_27 rfl (by omega) ?_
    first
      | exact ⟨_, rfl, rfl, by omega, ⟨fun _ => decide_eq_true (x7.mp (by omega)), fun _ => by omega⟩⟩
      | exact ⟨_, rfl, rfl, by omega, ⟨fun h => by omega, fun h => by have := x7.mpr (of_decide_eq_true h); omega⟩⟩
  · -- 8 f
    refine g_aload_n0 dX2_isDigit_11 rfl ?_
    refine g_getr dX2_isDigit_12 rfl fX2_18 hA.1 rfl ?_
    refine g_iload_n1 dX2_isDigit_15 rfl ?_
    refine g_baldI dX2_isDigit_16 rfl hA.2.1 ⟨by omega, by omega⟩ ?_
    refine g_bipushI dX2_isDigit_17 rfl rfl (fun w17 h17 => ?_)
    refine g_icmp_gtI (t := 26) dX2_isDigit_19 (by decide) rfl (fun c19 => ?_) (fun c19 => ?_)
    · -- 19 t
      refine g_iconstI dX2_isDigit_26 rfl rfl (fun w26 h26 => ?_)
      refine g_zretI dX2_isDigit_27 rfl (by omega) ?_
      first
        | exact ⟨_, rfl, rfl, by omega, ⟨fun _ => decide_eq_true (x7.mp (by omega)), fun _ => by omega⟩⟩
        | exact ⟨_, rfl, rfl, by omega, ⟨fun h => by omega, fun h => by have := x7.mpr (of_decide_eq_true h); omega⟩⟩
    · -- 19 f
      refine g_iconstI dX2_isDigit_22 rfl rfl (fun w22 h22 => ?_)
      refine g_goto (t := 27) dX2_isDigit_23 (by decide) ?_
      refine g_zretI dX2_isDigit_27 rfl (by omega) ?_
      first
        | exact ⟨_, rfl, rfl, by omega, ⟨fun _ => decide_eq_true (x7.mp (by omega)), fun _ => by omega⟩⟩
        | exact ⟨_, rfl, rfl, by omega, ⟨fun h => by omega, fun h => by have := x7.mpr (of_decide_eq_true h); omega⟩⟩
set_option maxHeartbeats 1200000 in
theorem l_sw {Γ : gW} {M : gM} {t : Nat → Int} {n : Nat} (hA : g_Tape Γ) (hH : HTc t n M) {fr : Int32} {b : Nat} {Q : Option Value → gM → Prop} (hQ : ∀ (x y : Int32), x.toInt = 1 → y.toInt = (runT ltB t n b : Int) → Q none (g_u (g_u M 230 7 x) 230 9 y)) : ∀ (n9 : Nat) (a : Int32), n - a.toInt.toNat = n9 → 0 ≤ a.toInt → a.toInt ≤ n → runT ltB t n b = runT ltB t n a.toInt.toNat → G Γ μX2_stepWord (g_R 1) (0, 0) (g_Z Γ Q) 2 [some (.ref 230), some (.int fr), some (.int a)] [] M := by
  intro n9
  induction n9 using Nat.strongRecOn with
  | ind n9 ih =>
    intro a h9 ha0 ha1 hrun
    obtain ⟨x1, x2, x3, x4⟩ := id hH
    refine g_iload_n2 dX2_stepWord_2 rfl ?_
    refine g_aload_n0 dX2_stepWord_3 rfl ?_
    refine g_geti dX2_stepWord_4 rfl fX2_26 hA.1 rfl ?_
    refine g_icmp_geI (t := 24) dX2_stepWord_7 (by decide) rfl (fun c7 => ?_) (fun c7 => ?_)
    · -- 7 t
      have hns : ¬ (a.toInt.toNat < n ∧ ltB (t a.toInt.toNat) = true) := fun h => by omega
      refine g_aload_n0 dX2_stepWord_24 rfl ?_
      refine g_iconstI dX2_stepWord_25 rfl rfl (fun w25 h25 => ?_)
      refine g_put dX2_stepWord_26 rfl fX2_39 hA.1 rfl rfl rfl ?_
      refine g_aload_n0 dX2_stepWord_29 rfl ?_
      refine g_iload_n2 dX2_stepWord_30 rfl ?_
      refine g_put dX2_stepWord_31 rfl fX2_45 hA.1 rfl rfl rfl ?_
      refine g_vret dX2_stepWord_34 rfl ?_
      exact hQ _ _ h25 (by rw [hrun, runT_stop hns]; omega)
    · -- 7 f
      refine g_aload_n0 dX2_stepWord_10 rfl ?_
      refine g_iload_n2 dX2_stepWord_11 rfl ?_
      refine g_callVi1 dX2_stepWord_12 rfl vX2_182 hA.1 rfl (c_isLetter hA hH (by omega)) (g_rm (by omega)) (Nat.le_of_ble_eq_true rfl) (fun z12 M12 e12 => ?_)
      obtain ⟨rfl, e12, f12⟩ := e12
      refine g_if_eqI (t := 24) dX2_stepWord_15 (by decide) rfl (fun c15 => ?_) (fun c15 => ?_)
      · -- 15 t
        have hns : ¬ (a.toInt.toNat < n ∧ ltB (t a.toInt.toNat) = true) := fun h => by have := f12.mpr h.2; omega
        clear f12 e12
        refine g_aload_n0 dX2_stepWord_24 rfl ?_
        refine g_iconstI dX2_stepWord_25 rfl rfl (fun w25 h25 => ?_)
        refine g_put dX2_stepWord_26 rfl fX2_39 hA.1 rfl rfl rfl ?_
        refine g_aload_n0 dX2_stepWord_29 rfl ?_
        refine g_iload_n2 dX2_stepWord_30 rfl ?_
        refine g_put dX2_stepWord_31 rfl fX2_45 hA.1 rfl rfl rfl ?_
        refine g_vret dX2_stepWord_34 rfl ?_
        exact hQ _ _ h25 (by rw [hrun, runT_stop hns]; omega)
      · -- 15 f
        have hsp := f12.mp (by omega)
        clear f12 e12
        refine g_iincI2 dX2_stepWord_18 rfl rfl rfl ⟨by omega, by omega⟩ (fun w18 h18 => ?_)
        refine g_goto (t := 2) dX2_stepWord_21 (by decide) ?_
        refine ih _ (by omega) _ rfl (by omega) (by omega) ?_
        rw [hrun, show w18.toInt.toNat = a.toInt.toNat + 1 by omega]
        exact runT_step (by omega) hsp
set_option maxHeartbeats 1200000 in
theorem c_stepWord {Γ : gW} {M : gM} {t : Nat → Int} {n : Nat} (hA : g_Tape Γ) (hH : HTc t n M) {b : Nat} {fr : Int32} (hb : fr.toInt = (b : Int)) (hbn : b ≤ n) : Ct Γ yX2_stepWord μX2_stepWord 1 [.ref 230, .int fr] M (g_qv (fun M1 => ∃ x y : Int32, x.toInt = 1 ∧ y.toInt = (runT ltB t n b : Int) ∧ M1 = g_u (g_u M 230 7 x) 230 9 y)) := by
  refine g_enter rfl rfl rfl (Nat.le_of_ble_eq_true rfl) ?_
  show G Γ _ _ _ _ 0 [some (.ref 230), some (.int fr), none] [] M
  refine g_iload_n1 dX2_stepWord_0 rfl ?_
  refine g_istore_n2 dX2_stepWord_1 rfl rfl ?_
  exact l_sw hA hH (fun x y h1 h2 => ⟨rfl, x, y, h1, h2, rfl⟩) _ _ rfl (by omega) (by omega) (by rw [show fr.toInt.toNat = b by omega])
set_option maxHeartbeats 1200000 in
theorem l_sn {Γ : gW} {t : Nat → Int} {n : Nat} (hA : g_Tape Γ) {M0 : gM} (hH0 : HTc t n M0) {fr : Int32} {b : Nat} (hfr : fr.toInt = (b : Int)) {Q : Option Value → gM → Prop} (hk : ∀ (M : gM) (a : Int32), (∀ j, j ≠ 230 → M.1 j = M0.1 j) → M.2 = M0.2 → (∀ k, k ≠ 11 → M.1 230 k = M0.1 230 k) → a.toInt = (runT dgB t n b : Int) → (M.1 230 11).toInt = dvl t b (if (runT dgB t n b) - b ≤ 4 then (runT dgB t n b) - b else 4) → G Γ μX2_stepNumber (g_R 1) (0, 0) (g_Z Γ Q) 57 [some (.ref 230), some (.int fr), some (.int a)] [] M) : ∀ (n9 : Nat) (a : Int32) (M : gM), n - a.toInt.toNat = n9 → (b : Int) ≤ a.toInt → a.toInt ≤ n → (∀ j, j ≠ 230 → M.1 j = M0.1 j) → M.2 = M0.2 → (∀ k, k ≠ 11 → M.1 230 k = M0.1 230 k) → runT dgB t n b = runT dgB t n a.toInt.toNat → (M.1 230 11).toInt = dvl t b (if a.toInt.toNat - b ≤ 4 then a.toInt.toNat - b else 4) → G Γ μX2_stepNumber (g_R 1) (0, 0) (g_Z Γ Q) 7 [some (.ref 230), some (.int fr), some (.int a)] [] M := by
  intro n9
  induction n9 using Nat.strongRecOn with
  | ind n9 ih =>
    intro a M h9 ha0 ha1 g1 g2 g3 hrun hnum
    have hH : HTc t n M := by
      obtain ⟨y1, y2, y3, y4⟩ := hH0
      exact ⟨by rw [g3 3 (by decide)]; exact y1, y2, y3, fun k hk => by rw [g1 231 (by decide)]; exact y4 k hk⟩
    obtain ⟨x1, x2, x3, x4⟩ := id hH
    have hall : ∀ j, b ≤ j → j < a.toInt.toNat → 48 ≤ t j ∧ t j ≤ 57 := fun j q1 q2 => by
      have q3 := runT_rng (P := dgB) (t := t) (n := n) (i := a.toInt.toNat) (by omega)
      exact of_decide_eq_true (runT_all (P := dgB) (t := t) (n := n) (i := b) q1 (by rw [hrun]; omega))
    have hvr : 0 ≤ (M.1 230 11).toInt ∧ (M.1 230 11).toInt ≤ 9999 := by
      rw [hnum]
      have hm := dvl_rng (t := t) (b := b) (if a.toInt.toNat - b ≤ 4 then a.toInt.toNat - b else 4) (fun j hj => hall (b + j) (by omega) (by split at hj <;> omega))
      have h4 : (if a.toInt.toNat - b ≤ 4 then a.toInt.toNat - b else 4) ≤ 4 := by split <;> omega
      generalize (if a.toInt.toNat - b ≤ 4 then a.toInt.toNat - b else 4) = m at *
      have h5 : (10 : Int) ^ m ≤ 10000 := by
        rcases (show m = 0 ∨ m = 1 ∨ m = 2 ∨ m = 3 ∨ m = 4 by omega) with q | q | q | q | q <;> rw [q] <;> decide
      omega
    have hv3 : a.toInt.toNat - b < 4 → (M.1 230 11).toInt ≤ 999 := fun h => by
      have hm := dvl_rng (t := t) (b := b) (a.toInt.toNat - b) (fun j hj => hall (b + j) (by omega) (by omega))
      rw [if_pos (by omega)] at hnum
      have h5 : (10 : Int) ^ (a.toInt.toNat - b) ≤ 1000 := by
        rcases (show a.toInt.toNat - b = 0 ∨ a.toInt.toNat - b = 1 ∨ a.toInt.toNat - b = 2 ∨ a.toInt.toNat - b = 3 by omega) with q | q | q | q <;> rw [q] <;> decide
      omega
    refine g_iload_n2 dX2_stepNumber_7 rfl ?_
    refine g_aload_n0 dX2_stepNumber_8 rfl ?_
    refine g_geti dX2_stepNumber_9 rfl fX2_26 hA.1 rfl ?_
    refine g_icmp_geI (t := 57) dX2_stepNumber_12 (by decide) rfl (fun c12 => ?_) (fun c12 => ?_)
    · -- 12 t
      have hns : ¬ (a.toInt.toNat < n ∧ dgB (t a.toInt.toNat) = true) := fun h => by omega
      refine hk _ a g1 g2 g3 ?_ ?_
      · rw [hrun, runT_stop hns]; omega
      · rw [hrun, runT_stop hns]; exact hnum
    · -- 12 f
      refine g_aload_n0 dX2_stepNumber_15 rfl ?_
      refine g_iload_n2 dX2_stepNumber_16 rfl ?_
      refine g_callVi1 dX2_stepNumber_17 rfl vX2_189 hA.1 rfl (c_isDigit hA hH (by omega)) (g_rm (by omega)) (Nat.le_of_ble_eq_true rfl) (fun z17 M17 e17 => ?_)
      obtain ⟨rfl, e17, f17⟩ := e17
      refine g_if_eqI (t := 57) dX2_stepNumber_20 (by decide) rfl (fun c20 => ?_) (fun c20 => ?_)
      · -- 20 t
        have hns : ¬ (a.toInt.toNat < n ∧ dgB (t a.toInt.toNat) = true) := fun h => by have := f17.mpr h.2; omega
        clear f17 e17
        refine hk _ a g1 g2 g3 ?_ ?_
        · rw [hrun, runT_stop hns]; omega
        · rw [hrun, runT_stop hns]; exact hnum
      · -- 20 f
        have hsp := f17.mp (by omega)
        clear f17 e17
        have hdg := of_decide_eq_true hsp
        have x6 := x4 a.toInt.toNat (by omega)
        rw [sgn8, if_pos (by omega)] at x6
        refine g_iload_n2 dX2_stepNumber_23 rfl ?_
        refine g_iload_n1 dX2_stepNumber_24 rfl ?_
        refine g_isubI dX2_stepNumber_25 rfl ⟨by omega, by omega⟩ (fun w25 h25 => ?_)
        refine g_iconstI dX2_stepNumber_26 rfl rfl (fun w26 h26 => ?_)
        refine g_icmp_geI (t := 51) dX2_stepNumber_27 (by decide) rfl (fun c27 => ?_) (fun c27 => ?_)
        · -- 27 t
          have hbig : ¬ a.toInt.toNat - b < 4 := by omega
          refine g_iincI2 dX2_stepNumber_51 rfl rfl rfl ⟨by omega, by omega⟩ (fun w51 h51 => ?_)
          refine g_goto (t := 7) dX2_stepNumber_54 (by decide) ?_
          clear hv3
          have e1 : w51.toInt.toNat = a.toInt.toNat + 1 := by omega
          first
            | (have hz := hbig
               refine ih _ (show n - w51.toInt.toNat < n9 by omega) w51 _ rfl (by omega) (by omega) g1 g2 g3 (by rw [hrun, e1]; exact runT_step (by omega) hsp) ?_
               rw [hnum, e1]
               congr 1
               split <;> split <;> omega)
            | (have hz := hsm
               obtain ⟨M', hM'⟩ : ∃ M', M' = g_u M17 230 11 w47 := ⟨_, rfl⟩
               refine g_fwd (M1 := M') ?_ hM'
               refine ih _ (show n - w51.toInt.toNat < n9 by omega) w51 M' rfl (by omega) (by omega) (fun j hj => by rw [hM', g_u_ne hj]; exact g1 j hj) (by rw [hM']; exact g2) (fun k hk => by rw [hM', g_u_eq, if_neg hk]; exact g3 k hk) (by rw [hrun, e1]; exact runT_step (by omega) hsp) ?_
               rw [if_pos (by omega)] at hnum
               rw [hM', g_u_eq, if_pos rfl, e1, if_pos (by omega), show a.toInt.toNat + 1 - b = (a.toInt.toNat - b) + 1 by omega, dvl, show b + (a.toInt.toNat - b) = a.toInt.toNat by omega]
               omega)
        · -- 27 f
          have hsm : a.toInt.toNat - b < 4 := by omega
          have hv9 := hv3 hsm
          refine g_aload_n0 dX2_stepNumber_30 rfl ?_
          refine g_aload_n0 dX2_stepNumber_31 rfl ?_
          refine g_geti dX2_stepNumber_32 rfl fX2_51 hA.1 rfl ?_
          refine g_bipushI dX2_stepNumber_35 rfl rfl (fun w35 h35 => ?_)
          refine g_imulI dX2_stepNumber_37 rfl ⟨by rw [h35]; omega, by rw [h35]; omega⟩ (fun w37 h37 => ?_)
          rw [h35] at h37
          refine g_aload_n0 dX2_stepNumber_38 rfl ?_
          refine g_getr dX2_stepNumber_39 rfl fX2_18 hA.1 rfl ?_
          refine g_iload_n2 dX2_stepNumber_42 rfl ?_
          refine g_baldI dX2_stepNumber_43 rfl hA.2.1 ⟨by omega, by omega⟩ ?_
          refine g_iaddI dX2_stepNumber_44 rfl ⟨by omega, by omega⟩ (fun w44 h44 => ?_)
          refine g_bipushI dX2_stepNumber_45 rfl rfl (fun w45 h45 => ?_)
          refine g_isubI dX2_stepNumber_47 rfl ⟨by omega, by omega⟩ (fun w47 h47 => ?_)
          refine g_put dX2_stepNumber_48 rfl fX2_51 hA.1 rfl rfl rfl ?_
          refine g_iincI2 dX2_stepNumber_51 rfl rfl rfl ⟨by omega, by omega⟩ (fun w51 h51 => ?_)
          refine g_goto (t := 7) dX2_stepNumber_54 (by decide) ?_
          clear hv3
          have e1 : w51.toInt.toNat = a.toInt.toNat + 1 := by omega
          first
            | (have hz := hbig
               refine ih _ (show n - w51.toInt.toNat < n9 by omega) w51 _ rfl (by omega) (by omega) g1 g2 g3 (by rw [hrun, e1]; exact runT_step (by omega) hsp) ?_
               rw [hnum, e1]
               congr 1
               split <;> split <;> omega)
            | (have hz := hsm
               obtain ⟨M', hM'⟩ : ∃ M', M' = g_u M17 230 11 w47 := ⟨_, rfl⟩
               refine g_fwd (M1 := M') ?_ hM'
               refine ih _ (show n - w51.toInt.toNat < n9 by omega) w51 M' rfl (by omega) (by omega) (fun j hj => by rw [hM', g_u_ne hj]; exact g1 j hj) (by rw [hM']; exact g2) (fun k hk => by rw [hM', g_u_eq, if_neg hk]; exact g3 k hk) (by rw [hrun, e1]; exact runT_step (by omega) hsp) ?_
               rw [if_pos (by omega)] at hnum
               rw [hM', g_u_eq, if_pos rfl, e1, if_pos (by omega), show a.toInt.toNat + 1 - b = (a.toInt.toNat - b) + 1 by omega, dvl, show b + (a.toInt.toNat - b) = a.toInt.toNat by omega]
               omega)
set_option maxHeartbeats 1200000 in
theorem c_stepNumber {Γ : gW} {M : gM} {t : Nat → Int} {n : Nat} (hA : g_Tape Γ) (hH : HTc t n M) {b : Nat} {fr : Int32} (hb : fr.toInt = (b : Int)) (hbn : b ≤ n) : Ct Γ yX2_stepNumber μX2_stepNumber 1 [.ref 230, .int fr] M (g_qv (fun M1 => frK M M1 ∧ M1.1 230 12 = M.1 230 12 ∧ (M1.1 230 9).toInt = (runT dgB t n b : Int) ∧ (M1.1 230 7).toInt = 2 ∧ M1.1 230 8 = M.1 230 8 ∧ (M1.1 230 10).toInt = ((runT dgB t n b - b : Nat) : Int) ∧ (runT dgB t n b - b ≤ 4 → (M1.1 230 11).toInt = dvl t b (runT dgB t n b - b)))) := by
  have hrr := runT_rng (P := dgB) (t := t) hbn
  have x2 := hH.2.1
  refine g_enter rfl rfl rfl (Nat.le_of_ble_eq_true rfl) ?_
  show G Γ _ _ _ _ 0 [some (.ref 230), some (.int fr), none] [] M
  refine g_iload_n1 dX2_stepNumber_0 rfl ?_
  refine g_istore_n2 dX2_stepNumber_1 rfl rfl ?_
  refine g_aload_n0 dX2_stepNumber_2 rfl ?_
  refine g_iconst (v := 0) dX2_stepNumber_3 rfl rfl ?_
  refine g_put dX2_stepNumber_4 rfl fX2_51 hA.1 rfl rfl rfl ?_
  refine l_sn (M0 := g_u M 230 11 0) hA (hH.k (frK.u (by decide))) hb (fun M9 a9 q1 q2 q3 q4 q5 => ?_) _ _ _ rfl (by omega) (by omega) (fun _ _ => rfl) rfl (fun _ _ => rfl) (by rw [show fr.toInt.toNat = b by omega]) ?_
  rotate_left
  · rw [show fr.toInt.toNat - b = 0 by omega, if_pos (by decide)]; rfl
  refine g_aload_n0 dX2_stepNumber_57 rfl ?_
  refine g_iconstI dX2_stepNumber_58 rfl rfl (fun w58 h58 => ?_)
  refine g_put dX2_stepNumber_59 rfl fX2_39 hA.1 rfl rfl rfl ?_
  refine g_aload_n0 dX2_stepNumber_62 rfl ?_
  refine g_iload_n2 dX2_stepNumber_63 rfl ?_
  refine g_iload_n1 dX2_stepNumber_64 rfl ?_
  refine g_isubI dX2_stepNumber_65 rfl ⟨by omega, by omega⟩ (fun w65 h65 => ?_)
  refine g_put dX2_stepNumber_66 rfl fX2_48 hA.1 rfl rfl rfl ?_
  refine g_aload_n0 dX2_stepNumber_69 rfl ?_
  refine g_iload_n2 dX2_stepNumber_70 rfl ?_
  refine g_put dX2_stepNumber_71 rfl fX2_45 hA.1 rfl rfl rfl ?_
  refine g_vret dX2_stepNumber_74 rfl ?_
  refine ⟨rfl, ⟨fun j hj => by rw [g_u_ne hj, g_u_ne hj, g_u_ne hj]; rw [q1 j hj, g_u_ne hj], q2, fun k hk => ?_⟩, ?_, ?_, ?_, ?_, ?_, ?_⟩
  · rw [g_u_eq, if_neg (by omega), g_u_eq, if_neg (by omega), g_u_eq, if_neg (by omega), q3 k (by omega), g_u_eq, if_neg (by omega)]
  · rw [g_u_eq, if_neg (by decide), g_u_eq, if_neg (by decide), g_u_eq, if_neg (by decide), q3 12 (by decide), g_u_eq, if_neg (by decide)]
  · rw [g_u_eq, if_pos rfl]; exact q4
  · rw [g_u_eq, if_neg (by decide), g_u_eq, if_neg (by decide), g_u_eq, if_pos rfl]; exact h58
  · rw [g_u_eq, if_neg (by decide), g_u_eq, if_neg (by decide), g_u_eq, if_neg (by decide), q3 8 (by decide), g_u_eq, if_neg (by decide)]
  · rw [g_u_eq, if_neg (by decide), g_u_eq, if_pos rfl]; omega
  · intro h4
    rw [g_u_eq, if_neg (by decide), g_u_eq, if_neg (by decide), g_u_eq, if_neg (by decide), q5, if_pos h4]
