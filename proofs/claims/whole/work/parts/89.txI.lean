theorem ln_or {sn ru z : Int32} {a b : Nat} (ha : a < 4) (hb : b < 4) (hs : sn.toInt = (a : Int)) (hr : ru.toInt = (b : Int)) (hz : bn z = bn sn ||| bn ru) : z.toInt = ((a ||| b : Nat) : Int) := by
  rw [bn_lit hs, bn_lit hr] at hz
  have : a ||| b < 4 := Nat.or_lt_two_pow (n := 2) ha hb
  rw [i_bn (by omega), hz]
theorem ln_and {sn ru z : Int32} {a b : Nat} (ha : a < 4) (hb : b < 4) (hs : sn.toInt = (a : Int)) (hr : ru.toInt = (b : Int)) (hz : bn z = bn sn &&& bn ru) : z.toInt = ((a &&& b : Nat) : Int) := by
  rw [bn_lit hs, bn_lit hr] at hz
  have : a &&& b < 4 := Nat.lt_of_le_of_lt Nat.and_le_right hb
  rw [i_bn (by omega), hz]
/-- what is told: law 1, within 2 -/
def TD (sn : Int32) (sl sw : Int) : Prop := (sl = 0 ∨ sl = 1) ∧ (sw = 0 ∨ sw = 1) ∧ sn.toInt = sl + 2 * sw
theorem TD.and1 {sn ru z : Int32} {sl sw : Int} (h : TD sn sl sw) (hr : ru.toInt = 1) (hz : bn z = bn sn &&& bn ru) : z.toInt = sl := by
  obtain ⟨h1 | h1, h2 | h2, h3⟩ := h <;> rw [h1, h2] at h3 <;> rw [h1]
  · exact ln_and (a := 0) (b := 1) (by decide) (by decide) h3 hr hz
  · exact ln_and (a := 2) (b := 1) (by decide) (by decide) h3 hr hz
  · exact ln_and (a := 1) (b := 1) (by decide) (by decide) h3 hr hz
  · exact ln_and (a := 3) (b := 1) (by decide) (by decide) h3 hr hz
theorem TD.and2 {sn ru z : Int32} {sl sw : Int} (h : TD sn sl sw) (hr : ru.toInt = 2) (hz : bn z = bn sn &&& bn ru) : z.toInt = 2 * sw := by
  obtain ⟨h1 | h1, h2 | h2, h3⟩ := h <;> rw [h1, h2] at h3 <;> rw [h2]
  · exact ln_and (a := 0) (b := 2) (by decide) (by decide) h3 hr hz
  · exact ln_and (a := 2) (b := 2) (by decide) (by decide) h3 hr hz
  · exact ln_and (a := 1) (b := 2) (by decide) (by decide) h3 hr hz
  · exact ln_and (a := 3) (b := 2) (by decide) (by decide) h3 hr hz
theorem TD.and0 {sn ru z : Int32} {sl sw : Int} (h : TD sn sl sw) (hr : ru.toInt = 0) (hz : bn z = bn sn &&& bn ru) : z.toInt = 0 := by
  obtain ⟨h1 | h1, h2 | h2, h3⟩ := h <;> rw [h1, h2] at h3
  · exact ln_and (a := 0) (b := 0) (by decide) (by decide) h3 hr hz
  · exact ln_and (a := 2) (b := 0) (by decide) (by decide) h3 hr hz
  · exact ln_and (a := 1) (b := 0) (by decide) (by decide) h3 hr hz
  · exact ln_and (a := 3) (b := 0) (by decide) (by decide) h3 hr hz
theorem TD.or0 {sn ru z : Int32} {sl sw : Int} (h : TD sn sl sw) (hr : ru.toInt = 0) (hz : bn z = bn sn ||| bn ru) : z.toInt = sl + 2 * sw := by
  obtain ⟨h1 | h1, h2 | h2, h3⟩ := h <;> rw [h1, h2] at h3 ⊢
  · exact ln_or (a := 0) (b := 0) (by decide) (by decide) h3 hr hz
  · exact ln_or (a := 2) (b := 0) (by decide) (by decide) h3 hr hz
  · exact ln_or (a := 1) (b := 0) (by decide) (by decide) h3 hr hz
  · exact ln_or (a := 3) (b := 0) (by decide) (by decide) h3 hr hz
theorem TD.or1 {sn ru z : Int32} {sl sw : Int} (h : TD sn sl sw) (hr : ru.toInt = 1) (hz : bn z = bn sn ||| bn ru) : z.toInt = 1 + 2 * sw := by
  obtain ⟨h1 | h1, h2 | h2, h3⟩ := h <;> rw [h1, h2] at h3 <;> rw [h2]
  · exact ln_or (a := 0) (b := 1) (by decide) (by decide) h3 hr hz
  · exact ln_or (a := 2) (b := 1) (by decide) (by decide) h3 hr hz
  · exact ln_or (a := 1) (b := 1) (by decide) (by decide) h3 hr hz
  · exact ln_or (a := 3) (b := 1) (by decide) (by decide) h3 hr hz
theorem TD.or2 {sn ru z : Int32} {sl sw : Int} (h : TD sn sl sw) (hr : ru.toInt = 2) (hz : bn z = bn sn ||| bn ru) : z.toInt = sl + 2 * 1 := by
  obtain ⟨h1 | h1, h2 | h2, h3⟩ := h <;> rw [h1, h2] at h3 <;> rw [h1]
  · exact ln_or (a := 0) (b := 2) (by decide) (by decide) h3 hr hz
  · exact ln_or (a := 2) (b := 2) (by decide) (by decide) h3 hr hz
  · exact ln_or (a := 1) (b := 2) (by decide) (by decide) h3 hr hz
  · exact ln_or (a := 3) (b := 2) (by decide) (by decide) h3 hr hz
theorem ln_good {t : Nat → Int} {n e : Nat} {T : gTw} {sl sw : Int} {sn ru z : Int32} {M : gM} (hTD : TD sn sl sw) (hz : bn z = bn sn ||| bn ru) (h0 : ¬ isW t n e w_law → ¬ isW t n e w_within → ru.toInt = 0) (h1 : isW t n e w_law → ru.toInt = 1 ∧ sl = 0) (h2 : isW t n e w_within → ru.toInt = 2 ∧ sw = 0) (h : RDP t n (pBd (pMid t n T (.inr e)) (fun T1 e1 => pStop t n T1 e1)) M) : RDL t n (pLine t n T sl sw e) z.toInt M := by
  rw [pLine]
  replace h : RDP t n (pBd (pIf t n e w_person (pOne t n T e) (pIf t n e w_thing (pThg t n T e) (pIf t n e w_owes (pOwe t n T (tkE t n e)) (pIf t n e w_law (pLaw t n T (tkE t n e)) (pIf t n e w_within (pBd (pNum t n (tkE t n e) 0 9) (fun v e1 => .inr (upT T 0 3 v, e1))) (.inl (1, tkB t n e))))))) (fun T1 e1 => pStop t n T1 e1)) M := h
  have hdec : ∀ v : List Int32, v ≠ w_law → v ≠ w_within → isW t n e v → ru.toInt = 0 := fun v a b hv => h0 (fun q => a (isW_one hv q)) (fun q => b (isW_one hv q))
  by_cases c1 : isW t n e w_person
  · rw [pIf_pos c1] at h ⊢
    exact RDL.of h (TD.or0 hTD (hdec _ (by decide) (by decide) c1) hz)
  rw [pIf_neg c1] at h ⊢
  by_cases c2 : isW t n e w_thing
  · rw [pIf_pos c2] at h ⊢
    exact RDL.of h (TD.or0 hTD (hdec _ (by decide) (by decide) c2) hz)
  rw [pIf_neg c2] at h ⊢
  by_cases c3 : isW t n e w_owes
  · rw [pIf_pos c3] at h ⊢
    exact RDL.of h (TD.or0 hTD (hdec _ (by decide) (by decide) c3) hz)
  rw [pIf_neg c3] at h ⊢
  by_cases c4 : isW t n e w_law
  · rw [pIf_pos c4] at h ⊢
    rw [if_neg (by have := (h1 c4).2; omega)]
    exact RDL.of h (TD.or1 hTD (h1 c4).1 hz)
  rw [pIf_neg c4] at h ⊢
  by_cases c5 : isW t n e w_within
  · rw [pIf_pos c5] at h ⊢
    rw [if_neg (by have := (h2 c5).2; omega)]
    have := RDL.of h (TD.or2 hTD (h2 c5).1 hz)
    cases hx : pNum t n (tkE t n e) 0 9 with
    | inl q => rw [hx] at this; exact this
    | inr y => obtain ⟨v, e1⟩ := y; rw [hx] at this; exact this
  rw [pIf_neg c5] at h ⊢
  exact h
theorem ln_bad {t : Nat → Int} {n e : Nat} {T : gTw} {sl sw z : Int} {M : gM} (hb : (isW t n e w_law ∧ sl = 1) ∨ (isW t n e w_within ∧ sw = 1)) (h : RD t n (.inl (5, (tkB t n e : Int))) M) : RDL t n (pLine t n T sl sw e) z M := by
  rw [pLine]
  rcases hb with ⟨hw, hs⟩ | ⟨hw, hs⟩
  · rw [pIf_neg (fun q => absurd (isW_one q hw) (by decide)), pIf_neg (fun q => absurd (isW_one q hw) (by decide)), pIf_neg (fun q => absurd (isW_one q hw) (by decide)), pIf_pos hw, if_pos hs]; exact h
  · rw [pIf_neg (fun q => absurd (isW_one q hw) (by decide)), pIf_neg (fun q => absurd (isW_one q hw) (by decide)), pIf_neg (fun q => absurd (isW_one q hw) (by decide)), pIf_neg (fun q => absurd (isW_one q hw) (by decide)), pIf_pos hw, if_pos hs]; exact h
set_option maxHeartbeats 1200000 in
theorem l_line0 {Γ : gW} {M : gM} {t : Nat → Int} {n : Nat} {T : gTw} {e : Nat} (hR : g_Ref Γ) (hKd : g_o Γ 400 (.inr (5, 5))) (hH : HTx t n M) (hD : RD t n (.inr e) M) (hP : RP T M) (hV : PIV T) (hKm : ∀ j, j < 5 → (M.1 400 j).toInt = 615 + (j : Int)) {sl sw : Int} {sn ru : Int32} (hTD : TD sn sl sw) (hl : ¬ sl = 1 → T 0 2 = 0) (h0 : ¬ isW t n e w_law → ¬ isW t n e w_within → ru.toInt = 0) (h1 : isW t n e w_law → ru.toInt = 1 ∧ sl = 0) (h2 : isW t n e w_within → ru.toInt = 2 ∧ sw = 0) : G Γ μX6_readLine (g_R 7) (0, 0) (g_Z Γ (g_qi (fun z M1 => RDL t n (pLine t n T sl sw e) z.toInt M1 ∧ frP M M1))) 39 [some (.ref 300), some (.int sn), some (.int ru)] [] M := by
  refine l_line1 (ρ := .inr e) hR hKd hH hD hP hV hKm (fun e9 q h => by cases q; exact (h1 h).1) (fun e9 q h => by cases q; exact (h2 h).1) (fun e9 q h => ?_) (fun e9 q h => ?_) (fun e9 q h => by cases q; exact hl (by rw [(h1 h).2]; decide)) (fun M1 hX hf => ?_)
  · cases q
    by_cases c : isW t n e w_law
    · exact c
    · by_cases c2 : isW t n e w_within
      · have := (h2 c2).1; omega
      · have := h0 c c2; omega
  · cases q
    by_cases c2 : isW t n e w_within
    · exact c2
    · by_cases c : isW t n e w_law
      · have := (h1 c).1; omega
      · have := h0 c c2; omega
  · exact l_line2 hR (hH.p hf) hX (fun M2 z q1 q2 q3 => ⟨_, rfl, ln_good hTD q3 h0 h1 h2 q1, frP.tr hf q2⟩)
set_option maxHeartbeats 1200000 in
theorem l_line9 {Γ : gW} {M : gM} {t : Nat → Int} {n : Nat} {T : gTw} {e : Nat} (hR : g_Ref Γ) (hKd : g_o Γ 400 (.inr (5, 5))) (hH : HTx t n M) (hP : RP T M) (hV : PIV T) (hKm : ∀ j, j < 5 → (M.1 400 j).toInt = 615 + (j : Int)) {sl sw : Int} {sn ru : Int32} {M0 : gM} (hf0 : frP M0 M) (hD : RD t n (.inl (5, (tkB t n e : Int))) M) (hb : (isW t n e w_law ∧ sl = 1) ∨ (isW t n e w_within ∧ sw = 1)) : G Γ μX6_readLine (g_R 7) (0, 0) (g_Z Γ (g_qi (fun z M1 => RDL t n (pLine t n T sl sw e) z.toInt M1 ∧ frP M0 M1))) 39 [some (.ref 300), some (.int sn), some (.int ru)] [] M := by
  refine l_line1 (ρ := .inl (5, (tkB t n e : Int))) hR hKd hH hD hP hV hKm (fun e9 q h => by cases q) (fun e9 q h => by cases q) (fun e9 q h => by cases q) (fun e9 q h => by cases q) (fun e9 q h => by cases q) (fun M1 hX hf => ?_)
  exact l_line2 hR (hH.p hf) hX (fun M2 z q1 q2 q3 => ⟨_, rfl, ln_bad hb q1, frP.tr hf0 (frP.tr hf q2)⟩)
set_option maxHeartbeats 1200000 in
theorem r_readLine {Γ : gW} {M : gM} {t : Nat → Int} {n : Nat} {T : gTw} {e : Nat} (hR : g_Ref Γ) (hKd : g_o Γ 400 (.inr (5, 5))) (hH : HTx t n M) (hD : RD t n (.inr e) M) (hP : RP T M) (hV : PIV T) (hKm : ∀ j, j < 5 → (M.1 400 j).toInt = 615 + (j : Int)) {sl sw : Int} {sn : Int32} (hTD : TD sn sl sw) (hl : ¬ sl = 1 → T 0 2 = 0) : Ct Γ yX6_readLine μX6_readLine 7 [.ref 300, .int sn] M (g_qi (fun z M1 => RDL t n (pLine t n T sl sw e) z.toInt M1 ∧ frP M M1)) := by
  have x7 := hH.2.1
  refine g_enter rfl rfl rfl (Nat.le_of_ble_eq_true rfl) ?_
  show G Γ _ _ _ _ 0 [some (.ref 300), some (.int sn), none] [] M
  refine g_aload_n0 dX6_readLine_0 rfl ?_
  refine g_ldcS (c := 20) dX6_readLine_1 rfl rfl ?_
  refine g_callVi1 dX6_readLine_3 rfl vX6_188 hR.1 rfl (r_is (c := 20) hR hH hD rfl) (g_rm (by omega)) (Nat.le_of_ble_eq_true rfl) (fun z3 M3 e3 => ?_)
  obtain ⟨rfl, e3, f3⟩ := e3
  replace f3 : z3.toInt = 1 ↔ isW t n e w_law := f3
  refine g_if_eqI (t := 13) dX6_readLine_6 (by decide) rfl (fun c6 => ?_) (fun c6 => ?_)
  · -- 6 t
    have n1 : ¬ isW t n e w_law := fun h => by have := f3.mpr h; omega
    clear f3 e3
    refine g_aload_n0 dX6_readLine_13 rfl ?_
    refine g_ldcS (c := 21) dX6_readLine_14 rfl rfl ?_
    refine g_callVi1 dX6_readLine_16 rfl vX6_188 hR.1 rfl (r_is (c := 21) hR hH hD rfl) (g_rm (by omega)) (Nat.le_of_ble_eq_true rfl) (fun z16 M16 e16 => ?_)
    obtain ⟨rfl, e16, f16⟩ := e16
    replace f16 : z16.toInt = 1 ↔ isW t n e w_within := f16
    refine g_if_eqI (t := 26) dX6_readLine_19 (by decide) rfl (fun c19 => ?_) (fun c19 => ?_)
    · -- 19 t
      have n2 : ¬ isW t n e w_within := fun h => by have := f16.mpr h; omega
      clear f16 e16
      refine g_iconstI dX6_readLine_26 rfl rfl (fun w26 h26 => ?_)
      refine g_istore_n2 dX6_readLine_27 rfl rfl ?_
      refine g_iload_n1 dX6_readLine_28 rfl ?_
      refine g_iload_n2 dX6_readLine_29 rfl ?_
      refine g_iandB dX6_readLine_30 rfl  (fun w30 h30 => ?_)
      refine g_if_eqI (t := 39) dX6_readLine_31 (by decide) rfl (fun c31 => ?_) (fun c31 => ?_)
      · -- 31 t
        first
          | (have hz := e36
             refine l_line9 hR hKd (hH.t hz.2.1) (hP.t hz.2.1) hV (fun j hj => by rw [hz.2.1.1 400 (by decide)]; exact hKm j hj) hz.2.1.p hz.1 ?_
             first
               | exact Or.inl ⟨y1, by have h := TD.and1 hTD h9 h30; have := hTD.1; omega⟩
               | exact Or.inr ⟨y2, by have h := TD.and2 hTD h22 h30; have := hTD.2.1; omega⟩
               | (exfalso; have h := TD.and0 hTD h26 h30; omega))
          | (refine l_line0 hR hKd hH hD hP hV hKm hTD hl ?_ ?_ ?_
             all_goals first
               | exact fun a _ => absurd y1 a
               | exact fun _ => ⟨h9, by have h := TD.and1 hTD h9 h30; omega⟩
               | exact fun a => absurd (isW_one a y1) (by decide)
               | exact fun _ a => absurd y2 a
               | exact fun a => absurd a n1
               | exact fun _ => ⟨h22, by have h := TD.and2 hTD h22 h30; omega⟩
               | exact fun _ _ => h26
               | exact fun a => absurd a n2)
      · -- 31 f
        refine g_aload_n0 dX6_readLine_34 rfl ?_
        refine g_iconstI dX6_readLine_35 rfl rfl (fun w35 h35 => ?_)
        refine g_callVv1 dX6_readLine_36 rfl vX6_195 hR.1 rfl (r_wrong hR hD (by omega)) (g_rm (by omega)) (Nat.le_of_ble_eq_true rfl) (fun M36 e36 => ?_)
        rw [h35] at e36
        first
          | (have hz := e36
             refine l_line9 hR hKd (hH.t hz.2.1) (hP.t hz.2.1) hV (fun j hj => by rw [hz.2.1.1 400 (by decide)]; exact hKm j hj) hz.2.1.p hz.1 ?_
             first
               | exact Or.inl ⟨y1, by have h := TD.and1 hTD h9 h30; have := hTD.1; omega⟩
               | exact Or.inr ⟨y2, by have h := TD.and2 hTD h22 h30; have := hTD.2.1; omega⟩
               | (exfalso; have h := TD.and0 hTD h26 h30; omega))
          | (refine l_line0 hR hKd hH hD hP hV hKm hTD hl ?_ ?_ ?_
             all_goals first
               | exact fun a _ => absurd y1 a
               | exact fun _ => ⟨h9, by have h := TD.and1 hTD h9 h30; omega⟩
               | exact fun a => absurd (isW_one a y1) (by decide)
               | exact fun _ a => absurd y2 a
               | exact fun a => absurd a n1
               | exact fun _ => ⟨h22, by have h := TD.and2 hTD h22 h30; omega⟩
               | exact fun _ _ => h26
               | exact fun a => absurd a n2)
    · -- 19 f
      have y2 := f16.mp (by omega)
      clear f16 e16
      refine g_iconstI dX6_readLine_22 rfl rfl (fun w22 h22 => ?_)
      refine g_goto (t := 27) dX6_readLine_23 (by decide) ?_
      refine g_istore_n2 dX6_readLine_27 rfl rfl ?_
      refine g_iload_n1 dX6_readLine_28 rfl ?_
      refine g_iload_n2 dX6_readLine_29 rfl ?_
      refine g_iandB dX6_readLine_30 rfl  (fun w30 h30 => ?_)
      refine g_if_eqI (t := 39) dX6_readLine_31 (by decide) rfl (fun c31 => ?_) (fun c31 => ?_)
      · -- 31 t
        first
          | (have hz := e36
             refine l_line9 hR hKd (hH.t hz.2.1) (hP.t hz.2.1) hV (fun j hj => by rw [hz.2.1.1 400 (by decide)]; exact hKm j hj) hz.2.1.p hz.1 ?_
             first
               | exact Or.inl ⟨y1, by have h := TD.and1 hTD h9 h30; have := hTD.1; omega⟩
               | exact Or.inr ⟨y2, by have h := TD.and2 hTD h22 h30; have := hTD.2.1; omega⟩
               | (exfalso; have h := TD.and0 hTD h26 h30; omega))
          | (refine l_line0 hR hKd hH hD hP hV hKm hTD hl ?_ ?_ ?_
             all_goals first
               | exact fun a _ => absurd y1 a
               | exact fun _ => ⟨h9, by have h := TD.and1 hTD h9 h30; omega⟩
               | exact fun a => absurd (isW_one a y1) (by decide)
               | exact fun _ a => absurd y2 a
               | exact fun a => absurd a n1
               | exact fun _ => ⟨h22, by have h := TD.and2 hTD h22 h30; omega⟩
               | exact fun _ _ => h26
               | exact fun a => absurd a n2)
      · -- 31 f
        refine g_aload_n0 dX6_readLine_34 rfl ?_
        refine g_iconstI dX6_readLine_35 rfl rfl (fun w35 h35 => ?_)
        refine g_callVv1 dX6_readLine_36 rfl vX6_195 hR.1 rfl (r_wrong hR hD (by omega)) (g_rm (by omega)) (Nat.le_of_ble_eq_true rfl) (fun M36 e36 => ?_)
        rw [h35] at e36
        first
          | (have hz := e36
             refine l_line9 hR hKd (hH.t hz.2.1) (hP.t hz.2.1) hV (fun j hj => by rw [hz.2.1.1 400 (by decide)]; exact hKm j hj) hz.2.1.p hz.1 ?_
             first
               | exact Or.inl ⟨y1, by have h := TD.and1 hTD h9 h30; have := hTD.1; omega⟩
               | exact Or.inr ⟨y2, by have h := TD.and2 hTD h22 h30; have := hTD.2.1; omega⟩
               | (exfalso; have h := TD.and0 hTD h26 h30; omega))
          | (refine l_line0 hR hKd hH hD hP hV hKm hTD hl ?_ ?_ ?_
             all_goals first
               | exact fun a _ => absurd y1 a
               | exact fun _ => ⟨h9, by have h := TD.and1 hTD h9 h30; omega⟩
               | exact fun a => absurd (isW_one a y1) (by decide)
               | exact fun _ a => absurd y2 a
               | exact fun a => absurd a n1
               | exact fun _ => ⟨h22, by have h := TD.and2 hTD h22 h30; omega⟩
               | exact fun _ _ => h26
               | exact fun a => absurd a n2)
  · -- 6 f
    have y1 := f3.mp (by omega)
    clear f3 e3
    refine g_iconstI dX6_readLine_9 rfl rfl (fun w9 h9 => ?_)
    refine g_goto (t := 27) dX6_readLine_10 (by decide) ?_
    refine g_istore_n2 dX6_readLine_27 rfl rfl ?_
    refine g_iload_n1 dX6_readLine_28 rfl ?_
    refine g_iload_n2 dX6_readLine_29 rfl ?_
    refine g_iandB dX6_readLine_30 rfl  (fun w30 h30 => ?_)
    refine g_if_eqI (t := 39) dX6_readLine_31 (by decide) rfl (fun c31 => ?_) (fun c31 => ?_)
    · -- 31 t
      first
        | (have hz := e36
           refine l_line9 hR hKd (hH.t hz.2.1) (hP.t hz.2.1) hV (fun j hj => by rw [hz.2.1.1 400 (by decide)]; exact hKm j hj) hz.2.1.p hz.1 ?_
           first
             | exact Or.inl ⟨y1, by have h := TD.and1 hTD h9 h30; have := hTD.1; omega⟩
             | exact Or.inr ⟨y2, by have h := TD.and2 hTD h22 h30; have := hTD.2.1; omega⟩
             | (exfalso; have h := TD.and0 hTD h26 h30; omega))
        | (refine l_line0 hR hKd hH hD hP hV hKm hTD hl ?_ ?_ ?_
           all_goals first
             | exact fun a _ => absurd y1 a
             | exact fun _ => ⟨h9, by have h := TD.and1 hTD h9 h30; omega⟩
             | exact fun a => absurd (isW_one a y1) (by decide)
             | exact fun _ a => absurd y2 a
             | exact fun a => absurd a n1
             | exact fun _ => ⟨h22, by have h := TD.and2 hTD h22 h30; omega⟩
             | exact fun _ _ => h26
             | exact fun a => absurd a n2)
    · -- 31 f
      refine g_aload_n0 dX6_readLine_34 rfl ?_
      refine g_iconstI dX6_readLine_35 rfl rfl (fun w35 h35 => ?_)
      refine g_callVv1 dX6_readLine_36 rfl vX6_195 hR.1 rfl (r_wrong hR hD (by omega)) (g_rm (by omega)) (Nat.le_of_ble_eq_true rfl) (fun M36 e36 => ?_)
      rw [h35] at e36
      first
        | (have hz := e36
           refine l_line9 hR hKd (hH.t hz.2.1) (hP.t hz.2.1) hV (fun j hj => by rw [hz.2.1.1 400 (by decide)]; exact hKm j hj) hz.2.1.p hz.1 ?_
           first
             | exact Or.inl ⟨y1, by have h := TD.and1 hTD h9 h30; have := hTD.1; omega⟩
             | exact Or.inr ⟨y2, by have h := TD.and2 hTD h22 h30; have := hTD.2.1; omega⟩
             | (exfalso; have h := TD.and0 hTD h26 h30; omega))
        | (refine l_line0 hR hKd hH hD hP hV hKm hTD hl ?_ ?_ ?_
           all_goals first
             | exact fun a _ => absurd y1 a
             | exact fun _ => ⟨h9, by have h := TD.and1 hTD h9 h30; omega⟩
             | exact fun a => absurd (isW_one a y1) (by decide)
             | exact fun _ a => absurd y2 a
             | exact fun a => absurd a n1
             | exact fun _ => ⟨h22, by have h := TD.and2 hTD h22 h30; omega⟩
             | exact fun _ _ => h26
             | exact fun a => absurd a n2)
