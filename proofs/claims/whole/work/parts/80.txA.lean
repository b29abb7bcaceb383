/-! the reference reads -/
theorem jcX6_164 : Cond.constant RX6 164 100000 ∈ g_UW := g_uwR (ws := [Cond.constant RX6 164 100000]) [1288] (by decide +kernel) (by decide +kernel) _ List.mem_cons_self
theorem g_aald {Γ : gW} {μ : gY} {R : Room} {kn : Nat × Nat} {Z : gZ} {pc q : Nat} {lv : List (Option Value)} {st : List Value} {M : gM} {i n : Nat} {x : Int32} {j : Nat} (hd : decode μ.1 pc = .ok (.aaload, 1)) (hq : pc + 1 = q) (ha : g_o Γ i (.inr (5, n)) ∧ (0 ≤ x.toInt ∧ x.toInt < n) ∧ (M.1 i x.toInt.toNat).toInt = (j : Int)) (k : G Γ μ R kn Z q lv (.ref j :: st) M) : G Γ μ R kn Z pc lv (.int x :: .ref i :: st) M := by
  subst hq
  obtain ⟨ho, h, hj⟩ := ha
  intro p l e s m args below meth c H locs A ls F X
  obtain ⟨q0, h1, h2⟩ := g_ws_at (M := M) ho.1
  rw [show g_E Γ M i = .inl (Γ.2.1 5, n, .inr (.inr (.inr (.inr (fun j => if (M.1 i j).toInt < 0 then none else some (Γ.2.2.1 (M.1 i j).toInt.toNat)))))) by simp [g_E, ho.2]] at h2
  refine va_aldq F.1 F.2.1 F.2.2.2.2.2.2.2.1 X.1 q0 5 h2 rfl (i_in h) hd ?_
  have := k p l e s m args below meth c H locs A ls F X
  have e : (if (M.1 i x.toNatClampNeg).toInt < 0 then none else some (Γ.2.2.1 (M.1 i x.toNatClampNeg).toInt.toNat)) = some (Γ.2.2.1 j) := by
    have hx : x.toNatClampNeg = x.toInt.toNat := rfl
    rw [hx, hj, if_neg (by omega)]; rfl
  rw [e]
  exact this
theorem g_alen5 {Γ : gW} {μ : gY} {R : Room} {kn : Nat × Nat} {Z : gZ} {pc q : Nat} {lv : List (Option Value)} {st : List Value} {M : gM} {i n : Nat} {v : Int32} (hd : decode μ.1 pc = .ok (.arraylength, 1)) (hq : pc + 1 = q) (ho : g_o Γ i (.inr (5, n))) (hv : Int32.ofNat n = v) (k : G Γ μ R kn Z q lv (.int v :: st) M) : G Γ μ R kn Z pc lv (.ref i :: st) M := by
  subst hq
  intro p l e s m args below meth c H locs A ls F X
  obtain ⟨q0, h1, h2⟩ := g_ws_at (M := M) ho.1
  rw [show g_E Γ M i = .inl (Γ.2.1 5, n, .inr (.inr (.inr (.inr (fun j => if (M.1 i j).toInt < 0 then none else some (Γ.2.2.1 (M.1 i j).toInt.toNat)))))) by simp [g_E, ho.2]] at h2
  exact va_alen F.1 F.2.1 F.2.2.2.2.2.2.2.1 X.1 q0 5 h2 rfl hv hd (k p l e s m args below meth c H locs A ls F X)
def HTx (t : Nat → Int) (n : Nat) (M : gM) : Prop := (M.1 300 16).toInt = (n : Int) ∧ n ≤ 700 ∧ (∀ k, k < 700 → 0 ≤ t k ∧ t k ≤ 255) ∧ ∀ k, k < 700 → (M.1 413 k).toInt = t k
def TKM (t : Nat → Int) (n e : Nat) (M : gM) : Prop := (M.1 300 15).toInt = (tkE t n e : Int) ∧ (M.1 300 17).toInt = tkK t n e ∧ (M.1 300 19).toInt = (tkB t n e : Int) ∧ (M.1 300 20).toInt = (tkE t n e : Int) ∧ (tkK t n e = 2 → tkE t n e - tkB t n e ≤ 4 → (M.1 300 18).toInt = tkV t n e)
def RD (t : Nat → Int) (n : Nat) (ρ : (Int × Int) ⊕ Nat) (M : gM) : Prop := match ρ with
  | .inl q => (M.1 300 21).toInt = q.1 ∧ ¬ q.1 = 0 ∧ (M.1 300 22).toInt = q.2
  | .inr e => (M.1 300 21).toInt = 0 ∧ e ≤ n ∧ TKM t n e M
def frS (M M' : gM) : Prop := (∀ j, j ≠ 300 → M'.1 j = M.1 j) ∧ M'.2 = M.2 ∧ ∀ k, ¬ (15 ≤ k ∧ k ≤ 20 ∧ k ≠ 16) → M'.1 300 k = M.1 300 k
theorem frS.rf {M : gM} : frS M M := ⟨fun _ _ => rfl, rfl, fun _ _ => rfl⟩
theorem frS.tr {M M1 M2 : gM} (h : frS M M1) (h2 : frS M1 M2) : frS M M2 := ⟨fun j a => by rw [h2.1 j a, h.1 j a], by rw [h2.2.1, h.2.1], fun k a => by rw [h2.2.2 k a, h.2.2 k a]⟩
theorem frS.u {M : gM} {k : Nat} {x : Int32} (h : 15 ≤ k ∧ k ≤ 20 ∧ k ≠ 16) : frS M (g_u M 300 k x) := ⟨fun j a => by rw [g_u_ne a], rfl, fun i a => by rw [g_u_eq, if_neg (show ¬ i = k by omega)]⟩
def frT (M M' : gM) : Prop := (∀ j, j ≠ 300 → M'.1 j = M.1 j) ∧ M'.2 = M.2 ∧ ∀ k, ¬ (15 ≤ k ∧ k ≤ 22 ∧ k ≠ 16) → M'.1 300 k = M.1 300 k
theorem frT.rf {M : gM} : frT M M := ⟨fun _ _ => rfl, rfl, fun _ _ => rfl⟩
theorem frT.tr {M M1 M2 : gM} (h : frT M M1) (h2 : frT M1 M2) : frT M M2 := ⟨fun j a => by rw [h2.1 j a, h.1 j a], by rw [h2.2.1, h.2.1], fun k a => by rw [h2.2.2 k a, h.2.2 k a]⟩
theorem frT.u {M : gM} {k : Nat} {x : Int32} (h : 15 ≤ k ∧ k ≤ 22 ∧ k ≠ 16) : frT M (g_u M 300 k x) := ⟨fun j a => by rw [g_u_ne a], rfl, fun i a => by rw [g_u_eq, if_neg (show ¬ i = k by omega)]⟩
theorem frS.t {M M' : gM} (h : frS M M') : frT M M' := ⟨h.1, h.2.1, fun k a => h.2.2 k (fun b => a ⟨b.1, by omega, b.2.2⟩)⟩
theorem HTx.t {t : Nat → Int} {n : Nat} {M M' : gM} (h : HTx t n M) (hf : frT M M') : HTx t n M' := by
  obtain ⟨a, b, c, d⟩ := h
  exact ⟨by rw [hf.2.2 16 (by omega)]; exact a, b, c, fun k hk => by rw [hf.1 413 (by decide)]; exact d k hk⟩
theorem HTx.s {t : Nat → Int} {n : Nat} {M M' : gM} (h : HTx t n M) (hf : frS M M') : HTx t n M' := h.t hf.t
set_option maxHeartbeats 1200000 in
theorem r_byteAt {Γ : gW} {M : gM} {t : Nat → Int} {n : Nat} (hR : g_Ref Γ) (hH : HTx t n M) {k : Int32} (hk : 0 ≤ k.toInt) : Ct Γ yX6_byteAt μX6_byteAt 0 [.ref 300, .int k] M (g_qi (fun z M1 => M1 = M ∧ z.toInt = if k.toInt.toNat < n then t k.toInt.toNat else -1)) := by
  obtain ⟨x1, x2, x3, x4⟩ := id hH
  refine g_enter rfl rfl rfl (Nat.le_of_ble_eq_true rfl) ?_
  show G Γ _ _ _ _ 0 [some (.ref 300), some (.int k)] [] M
  refine g_iload_n1 dX6_byteAt_0 rfl ?_
  refine g_aload_n0 dX6_byteAt_1 rfl ?_
  refine g_geti dX6_byteAt_2 rfl fX6_138 hR.1 rfl ?_
  refine g_icmp_geI (t := 17) dX6_byteAt_5 (by decide) rfl (fun c5 => ?_) (fun c5 => ?_)
  · -- 5 t
    refine g_iconstI dX6_byteAt_17 rfl rfl (fun w17 h17 => ?_)
    refine g_iret dX6_byteAt_18 rfl ?_
    first
      | (refine ⟨_, rfl, rfl, ?_⟩; rw [if_pos (by omega)]; exact x4 _ (by omega))
      | (refine ⟨_, rfl, rfl, ?_⟩; rw [if_neg (by omega)]; exact h17)
  · -- 5 f
    refine g_aload_n0 dX6_byteAt_8 rfl ?_
    refine g_getr dX6_byteAt_9 rfl fX6_57 hR.1 rfl ?_
    refine g_iload_n1 dX6_byteAt_12 rfl ?_
    refine g_ialdI dX6_byteAt_13 rfl (rf_tape hR) ⟨by omega, by omega⟩ ?_
    refine g_goto (t := 18) dX6_byteAt_14 (by decide) ?_
    refine g_iret dX6_byteAt_18 rfl ?_
    first
      | (refine ⟨_, rfl, rfl, ?_⟩; rw [if_pos (by omega)]; exact x4 _ (by omega))
      | (refine ⟨_, rfl, rfl, ?_⟩; rw [if_neg (by omega)]; exact h17)
set_option maxHeartbeats 1200000 in
theorem r_isLetter {Γ : gW} {M : gM} {c : Int32} : Ct Γ yX6_isLetter μX6_isLetter 0 [.int c] M (g_qi (fun z M1 => M1 = M ∧ (z.toInt = 0 ∨ z.toInt = 1) ∧ (z.toInt = 1 ↔ ltB c.toInt = true))) := by
  refine g_enter rfl rfl rfl (Nat.le_of_ble_eq_true rfl) ?_
  show G Γ _ _ _ _ 0 [some (.int c)] [] M
  refine g_iload_n0 dX6_isLetter_0 rfl ?_
  refine g_bipushI dX6_isLetter_1 rfl rfl (fun w1 h1 => ?_)
  refine g_icmp_ltI (t := 16) dX6_isLetter_3 (by decide) rfl (fun c3 => ?_) (fun c3 => ?_)
  · -- 3 t
    refine g_iconstI dX6_isLetter_16 rfl rfl (fun w16 h16 => ?_)
    refine g_zretI dX6_isLetter_17 rfl (by omega) ?_
    first
      | exact ⟨_, rfl, rfl, by omega, ⟨fun _ => decide_eq_true (by omega), fun _ => by omega⟩⟩
      | exact ⟨_, rfl, rfl, by omega, ⟨fun h => by omega, fun h => by have := of_decide_eq_true h; omega⟩⟩
  · -- 3 f
    refine g_iload_n0 dX6_isLetter_6 rfl ?_
    refine g_bipushI dX6_isLetter_7 rfl rfl (fun w7 h7 => ?_)
    refine g_icmp_gtI (t := 16) dX6_isLetter_9 (by decide) rfl (fun c9 => ?_) (fun c9 => ?_)
    · -- 9 t
      refine g_iconstI dX6_isLetter_16 rfl rfl (fun w16 h16 => ?_)
      refine g_zretI dX6_isLetter_17 rfl (by omega) ?_
      first
        | exact ⟨_, rfl, rfl, by omega, ⟨fun _ => decide_eq_true (by omega), fun _ => by omega⟩⟩
        | exact ⟨_, rfl, rfl, by omega, ⟨fun h => by omega, fun h => by have := of_decide_eq_true h; omega⟩⟩
    · -- 9 f
      refine g_iconstI dX6_isLetter_12 rfl rfl (fun w12 h12 => ?_)
      refine g_goto (t := 17) dX6_isLetter_13 (by decide) ?_
      refine g_zretI dX6_isLetter_17 rfl (by omega) ?_
      first
        | exact ⟨_, rfl, rfl, by omega, ⟨fun _ => decide_eq_true (by omega), fun _ => by omega⟩⟩
        | exact ⟨_, rfl, rfl, by omega, ⟨fun h => by omega, fun h => by have := of_decide_eq_true h; omega⟩⟩
set_option maxHeartbeats 1200000 in
theorem r_isDigit {Γ : gW} {M : gM} {c : Int32} : Ct Γ yX6_isDigit μX6_isDigit 0 [.int c] M (g_qi (fun z M1 => M1 = M ∧ (z.toInt = 0 ∨ z.toInt = 1) ∧ (z.toInt = 1 ↔ dgB c.toInt = true))) := by
  refine g_enter rfl rfl rfl (Nat.le_of_ble_eq_true rfl) ?_
  show G Γ _ _ _ _ 0 [some (.int c)] [] M
  refine g_iload_n0 dX6_isDigit_0 rfl ?_
  refine g_bipushI dX6_isDigit_1 rfl rfl (fun w1 h1 => ?_)
  refine g_icmp_ltI (t := 16) dX6_isDigit_3 (by decide) rfl (fun c3 => ?_) (fun c3 => ?_)
  · -- 3 t
    refine g_iconstI dX6_isDigit_16 rfl rfl (fun w16 h16 => ?_)
    refine g_zretI dX6_isDigit_17 rfl (by omega) ?_
    first
      | exact ⟨_, rfl, rfl, by omega, ⟨fun _ => decide_eq_true (by omega), fun _ => by omega⟩⟩
      | exact ⟨_, rfl, rfl, by omega, ⟨fun h => by omega, fun h => by have := of_decide_eq_true h; omega⟩⟩
  · -- 3 f
    refine g_iload_n0 dX6_isDigit_6 rfl ?_
    refine g_bipushI dX6_isDigit_7 rfl rfl (fun w7 h7 => ?_)
    refine g_icmp_gtI (t := 16) dX6_isDigit_9 (by decide) rfl (fun c9 => ?_) (fun c9 => ?_)
    · -- 9 t
      refine g_iconstI dX6_isDigit_16 rfl rfl (fun w16 h16 => ?_)
      refine g_zretI dX6_isDigit_17 rfl (by omega) ?_
      first
        | exact ⟨_, rfl, rfl, by omega, ⟨fun _ => decide_eq_true (by omega), fun _ => by omega⟩⟩
        | exact ⟨_, rfl, rfl, by omega, ⟨fun h => by omega, fun h => by have := of_decide_eq_true h; omega⟩⟩
    · -- 9 f
      refine g_iconstI dX6_isDigit_12 rfl rfl (fun w12 h12 => ?_)
      refine g_goto (t := 17) dX6_isDigit_13 (by decide) ?_
      refine g_zretI dX6_isDigit_17 rfl (by omega) ?_
      first
        | exact ⟨_, rfl, rfl, by omega, ⟨fun _ => decide_eq_true (by omega), fun _ => by omega⟩⟩
        | exact ⟨_, rfl, rfl, by omega, ⟨fun h => by omega, fun h => by have := of_decide_eq_true h; omega⟩⟩
set_option maxHeartbeats 1200000 in
theorem l_st1 {Γ : gW} {M0 : gM} {t : Nat → Int} {n : Nat} (hR : g_Ref Γ) (hH0 : HTx t n M0) {e : Nat} (he : e ≤ n) {Q : Option Value → gM → Prop} (hk : ∀ M : gM, frS M0 M → (M.1 300 15).toInt = (tkB t n e : Int) → G Γ μX6_stepOn (g_R 1) (0, 0) (g_Z Γ Q) 39 [some (.ref 300), none] [] M) : ∀ (n9 : Nat) (a : Nat) (M : gM), n - a = n9 → e ≤ a → a ≤ n → frS M0 M → (M.1 300 15).toInt = (a : Int) → runT spB t n e = runT spB t n a → G Γ μX6_stepOn (g_R 1) (0, 0) (g_Z Γ Q) 0 [some (.ref 300), none] [] M := by
  intro n9
  induction n9 using Nat.strongRecOn with
  | ind n9 ih =>
    intro a M h9 ha0 ha1 hfr hat hrun
    have hH := hH0.s hfr
    obtain ⟨x1, x2, x3, -⟩ := id hH
    have x5 := x3 a
    have ea : (M.1 300 15).toInt.toNat = a := by omega
    refine g_aload_n0 dX6_stepOn_0 rfl ?_
    refine g_aload_n0 dX6_stepOn_1 rfl ?_
    refine g_geti dX6_stepOn_2 rfl fX6_141 hR.1 rfl ?_
    refine g_callVi1 dX6_stepOn_5 rfl vX6_144 hR.1 rfl (r_byteAt hR hH (by omega)) (g_rm (by omega)) (Nat.le_of_ble_eq_true rfl) (fun z5 M5 e5 => ?_)
    obtain ⟨rfl, e5⟩ := e5
    rw [ea] at e5
    refine g_bipushI dX6_stepOn_8 rfl rfl (fun w8 h8 => ?_)
    refine g_icmp_eqI (t := 26) dX6_stepOn_10 (by decide) rfl (fun c10 => ?_) (fun c10 => ?_)
    · -- 10 t
      have hsp : a < n ∧ spB (t a) = true := by
        by_cases q : a < n
        · rw [if_pos q] at e5; exact ⟨q, decide_eq_true (by omega)⟩
        · rw [if_neg q] at e5; omega
      refine g_aload_n0 dX6_stepOn_26 rfl ?_
      refine g_dup dX6_stepOn_27 rfl rfl ?_
      refine g_geti dX6_stepOn_28 rfl fX6_141 hR.1 rfl ?_
      refine g_iconstI dX6_stepOn_31 rfl rfl (fun w31 h31 => ?_)
      refine g_iaddI dX6_stepOn_32 rfl ⟨by omega, by omega⟩ (fun w32 h32 => ?_)
      refine g_put dX6_stepOn_33 rfl fX6_141 hR.1 rfl rfl rfl ?_
      refine g_goto (t := 0) dX6_stepOn_36 (by decide) ?_
      refine ih _ (show n - (a + 1) < n9 by omega) (a + 1) _ rfl (by omega) (by omega) (frS.tr hfr (frS.u (by decide))) ?_ ?_
      · rw [g_u_eq, if_pos rfl]; omega
      · rw [hrun]; exact runT_step hsp.1 hsp.2
    · -- 10 f
      refine g_aload_n0 dX6_stepOn_13 rfl ?_
      refine g_aload_n0 dX6_stepOn_14 rfl ?_
      refine g_geti dX6_stepOn_15 rfl fX6_141 hR.1 rfl ?_
      refine g_callVi1 dX6_stepOn_18 rfl vX6_144 hR.1 rfl (r_byteAt hR hH (by omega)) (g_rm (by omega)) (Nat.le_of_ble_eq_true rfl) (fun z18 M18 e18 => ?_)
      obtain ⟨rfl, e18⟩ := e18
      rw [ea] at e18
      refine g_bipushI dX6_stepOn_21 rfl rfl (fun w21 h21 => ?_)
      refine g_icmp_neI (t := 39) dX6_stepOn_23 (by decide) rfl (fun c23 => ?_) (fun c23 => ?_)
      · -- 23 t
        have hns : ¬ (a < n ∧ spB (t a) = true) := fun h => by
          rw [if_pos h.1] at e5 e18
          have := of_decide_eq_true h.2
          omega
        refine hk _ hfr ?_
        rw [tkB, hrun, runT_stop hns]; exact hat
      · -- 23 f
        have hsp : a < n ∧ spB (t a) = true := by
          by_cases q : a < n
          · rw [if_pos q] at e18; exact ⟨q, decide_eq_true (by omega)⟩
          · rw [if_neg q] at e18; omega
        refine g_aload_n0 dX6_stepOn_26 rfl ?_
        refine g_dup dX6_stepOn_27 rfl rfl ?_
        refine g_geti dX6_stepOn_28 rfl fX6_141 hR.1 rfl ?_
        refine g_iconstI dX6_stepOn_31 rfl rfl (fun w31 h31 => ?_)
        refine g_iaddI dX6_stepOn_32 rfl ⟨by omega, by omega⟩ (fun w32 h32 => ?_)
        refine g_put dX6_stepOn_33 rfl fX6_141 hR.1 rfl rfl rfl ?_
        refine g_goto (t := 0) dX6_stepOn_36 (by decide) ?_
        refine ih _ (show n - (a + 1) < n9 by omega) (a + 1) _ rfl (by omega) (by omega) (frS.tr hfr (frS.u (by decide))) ?_ ?_
        · rw [g_u_eq, if_pos rfl]; omega
        · rw [hrun]; exact runT_step hsp.1 hsp.2
set_option maxHeartbeats 1200000 in
theorem l_st2 {Γ : gW} {M0 : gM} {t : Nat → Int} {n : Nat} (hR : g_Ref Γ) (hH0 : HTx t n M0) {b : Nat} {c1 : Int32} {Q : Option Value → gM → Prop} (hk : ∀ M : gM, frS M0 M → (M.1 300 15).toInt = (runT ltB t n b : Int) → (M.1 300 19).toInt = (b : Int) → G Γ μX6_stepOn (g_R 1) (0, 0) (g_Z Γ Q) 103 [some (.ref 300), some (.int c1)] [] M) : ∀ (n9 : Nat) (a : Nat) (M : gM), n - a = n9 → b ≤ a → a ≤ n → frS M0 M → (M.1 300 15).toInt = (a : Int) → (M.1 300 19).toInt = (b : Int) → runT ltB t n b = runT ltB t n a → G Γ μX6_stepOn (g_R 1) (0, 0) (g_Z Γ Q) 76 [some (.ref 300), some (.int c1)] [] M := by
  intro n9
  induction n9 using Nat.strongRecOn with
  | ind n9 ih =>
    intro a M h9 ha0 ha1 hfr hat hbg hrun
    have hH := hH0.s hfr
    obtain ⟨x1, x2, x3, -⟩ := id hH
    have x5 := x3 a
    have ea : (M.1 300 15).toInt.toNat = a := by omega
    refine g_aload_n0 dX6_stepOn_76 rfl ?_
    refine g_aload_n0 dX6_stepOn_77 rfl ?_
    refine g_geti dX6_stepOn_78 rfl fX6_141 hR.1 rfl ?_
    refine g_callVi1 dX6_stepOn_81 rfl vX6_144 hR.1 rfl (r_byteAt hR hH (by omega)) (g_rm (by omega)) (Nat.le_of_ble_eq_true rfl) (fun z81 M81 e81 => ?_)
    obtain ⟨rfl, e81⟩ := e81
    rw [ea] at e81
    refine g_callSi1 dX6_stepOn_84 rfl sX6_154 (r_isLetter) (g_rm (by omega)) (Nat.le_of_ble_eq_true rfl) (fun z84 M84 e84 => ?_)
    obtain ⟨rfl, e84, f84⟩ := e84
    refine g_if_eqI (t := 103) dX6_stepOn_87 (by decide) rfl (fun c87 => ?_) (fun c87 => ?_)
    · -- 87 t
      have hns : ¬ (a < n ∧ ltB (t a) = true) := fun h => by
        rw [if_pos h.1] at e81
        have := f84.mpr (by rw [e81]; exact h.2)
        omega
      clear f84 e84
      refine hk _ hfr ?_ hbg
      rw [hrun, runT_stop hns]; exact hat
    · -- 87 f
      have hsp : a < n ∧ ltB (t a) = true := by
        have h := f84.mp (by omega)
        by_cases q : a < n
        · rw [if_pos q] at e81; exact ⟨q, by rw [← e81]; exact h⟩
        · rw [if_neg q] at e81; rw [e81] at h; exact absurd h (by decide)
      clear f84 e84
      refine g_aload_n0 dX6_stepOn_90 rfl ?_
      refine g_dup dX6_stepOn_91 rfl rfl ?_
      refine g_geti dX6_stepOn_92 rfl fX6_141 hR.1 rfl ?_
      refine g_iconstI dX6_stepOn_95 rfl rfl (fun w95 h95 => ?_)
      refine g_iaddI dX6_stepOn_96 rfl ⟨by omega, by omega⟩ (fun w96 h96 => ?_)
      refine g_put dX6_stepOn_97 rfl fX6_141 hR.1 rfl rfl rfl ?_
      refine g_goto (t := 76) dX6_stepOn_100 (by decide) ?_
      refine ih _ (show n - (a + 1) < n9 by omega) (a + 1) _ rfl (by omega) (by omega) (frS.tr hfr (frS.u (by decide))) ?_ ?_ ?_
      · rw [g_u_eq, if_pos rfl]; omega
      · rw [g_u_eq, if_neg (by decide)]; exact hbg
      · rw [hrun]; exact runT_step hsp.1 hsp.2
set_option maxHeartbeats 1200000 in
theorem l_st3 {Γ : gW} {M0 : gM} {t : Nat → Int} {n : Nat} (hR : g_Ref Γ) (hH0 : HTx t n M0) {b : Nat} {c1 : Int32} {Q : Option Value → gM → Prop} (hk : ∀ M : gM, frS M0 M → (M.1 300 15).toInt = (runT dgB t n b : Int) → (M.1 300 19).toInt = (b : Int) → (((runT dgB t n b) - b ≤ 4 → (M.1 300 18).toInt = dvl t b ((runT dgB t n b) - b)) ∧ 0 ≤ (M.1 300 18).toInt ∧ (M.1 300 18).toInt ≤ 100000) → G Γ μX6_stepOn (g_R 1) (0, 0) (g_Z Γ Q) 178 [some (.ref 300), some (.int c1)] [] M) : ∀ (n9 : Nat) (a : Nat) (M : gM), n - a = n9 → b ≤ a → a ≤ n → frS M0 M → (M.1 300 15).toInt = (a : Int) → (M.1 300 19).toInt = (b : Int) → runT dgB t n b = runT dgB t n a → ((a - b ≤ 4 → (M.1 300 18).toInt = dvl t b (a - b)) ∧ 0 ≤ (M.1 300 18).toInt ∧ (M.1 300 18).toInt ≤ 100000) → G Γ μX6_stepOn (g_R 1) (0, 0) (g_Z Γ Q) 123 [some (.ref 300), some (.int c1)] [] M := by
  intro n9
  induction n9 using Nat.strongRecOn with
  | ind n9 ih =>
    intro a M h9 ha0 ha1 hfr hat hbg hrun hnum
    have hH := hH0.s hfr
    obtain ⟨x1, x2, x3, -⟩ := id hH
    have x5 := x3 a
    have ea : (M.1 300 15).toInt.toNat = a := by omega
    have hall : ∀ j, b ≤ j → j < a → 48 ≤ t j ∧ t j ≤ 57 := fun j q1 q2 => by
      have q3 := runT_rng (P := dgB) (t := t) (n := n) (i := a) ha1
      exact of_decide_eq_true (runT_all (P := dgB) (t := t) (n := n) (i := b) q1 (by rw [hrun]; omega))
    refine g_aload_n0 dX6_stepOn_123 rfl ?_
    refine g_aload_n0 dX6_stepOn_124 rfl ?_
    refine g_geti dX6_stepOn_125 rfl fX6_141 hR.1 rfl ?_
    refine g_callVi1 dX6_stepOn_128 rfl vX6_144 hR.1 rfl (r_byteAt hR hH (by omega)) (g_rm (by omega)) (Nat.le_of_ble_eq_true rfl) (fun z128 M128 e128 => ?_)
    obtain ⟨rfl, e128⟩ := e128
    rw [ea] at e128
    refine g_callSi1 dX6_stepOn_131 rfl sX6_158 (r_isDigit) (g_rm (by omega)) (Nat.le_of_ble_eq_true rfl) (fun z131 M131 e131 => ?_)
    obtain ⟨rfl, e131, f131⟩ := e131
    refine g_if_eqI (t := 178) dX6_stepOn_134 (by decide) rfl (fun c134 => ?_) (fun c134 => ?_)
    · -- 134 t
      have hns : ¬ (a < n ∧ dgB (t a) = true) := fun h => by
        rw [if_pos h.1] at e128
        have := f131.mpr (by rw [e128]; exact h.2)
        omega
      clear f131 e131
      refine hk _ hfr ?_ hbg ?_
      · rw [hrun, runT_stop hns]; exact hat
      · rw [hrun, runT_stop hns]; exact hnum
    · -- 134 f
      have hsp : a < n ∧ dgB (t a) = true := by
        have h := f131.mp (by omega)
        by_cases q : a < n
        · rw [if_pos q] at e128; exact ⟨q, by rw [← e128]; exact h⟩
        · rw [if_neg q] at e128; rw [e128] at h; exact absurd h (by decide)
      clear f131 e131
      have hdg := of_decide_eq_true hsp.2
      obtain ⟨m1, m2, m3⟩ := hnum
      refine g_aload_n0 dX6_stepOn_137 rfl ?_
      refine g_ldc dX6_stepOn_138 rfl jcX6_164 ?_
      refine g_bipushI dX6_stepOn_140 rfl rfl (fun w140 h140 => ?_)
      refine g_aload_n0 dX6_stepOn_142 rfl ?_
      refine g_geti dX6_stepOn_143 rfl fX6_161 hR.1 rfl ?_
      refine g_imulI dX6_stepOn_146 rfl ⟨by rw [h140]; omega, by rw [h140]; omega⟩ (fun w146 h146 => ?_)
      rw [h140] at h146
      refine g_aload_n0 dX6_stepOn_147 rfl ?_
      refine g_aload_n0 dX6_stepOn_148 rfl ?_
      refine g_geti dX6_stepOn_149 rfl fX6_141 hR.1 rfl ?_
      refine g_callVi1 dX6_stepOn_152 rfl vX6_144 hR.1 rfl (r_byteAt hR hH (by omega)) (g_rm (by omega)) (Nat.le_of_ble_eq_true rfl) (fun z152 M152 e152 => ?_)
      obtain ⟨rfl, e152⟩ := e152
      rw [ea, if_pos hsp.1] at e152
      refine g_iaddI dX6_stepOn_155 rfl ⟨by omega, by omega⟩ (fun w155 h155 => ?_)
      refine g_bipushI dX6_stepOn_156 rfl rfl (fun w156 h156 => ?_)
      refine g_isubI dX6_stepOn_158 rfl ⟨by omega, by omega⟩ (fun w158 h158 => ?_)
      refine g_mminI dX6_stepOn_159 rfl jX6_165 jm_min_s jm_i jm_min_c ⟨by show 1 ≤ _ + 1; omega, by show _ ≤ 40 + 50 * _; simp [Value.category] <;> omega⟩  (fun w159 h159 => ?_)
      rw [show (100000 : Int32).toInt = 100000 from rfl] at h159
      refine g_put dX6_stepOn_162 rfl fX6_161 hR.1 rfl rfl rfl ?_
      refine g_aload_n0 dX6_stepOn_165 rfl ?_
      refine g_dup dX6_stepOn_166 rfl rfl ?_
      refine g_geti dX6_stepOn_167 rfl fX6_141 hR.1 rfl ?_
      rw [g_u_eq, if_neg (show ¬ (15 : Nat) = 18 by decide)]
      refine g_iconstI dX6_stepOn_170 rfl rfl (fun w170 h170 => ?_)
      refine g_iaddI dX6_stepOn_171 rfl ⟨by omega, by omega⟩ (fun w171 h171 => ?_)
      refine g_put dX6_stepOn_172 rfl fX6_141 hR.1 rfl rfl rfl ?_
      refine g_goto (t := 123) dX6_stepOn_175 (by decide) ?_
      refine ih _ (show n - (a + 1) < n9 by omega) (a + 1) _ rfl (by omega) (by omega) (frS.tr hfr (frS.tr (frS.u (by decide)) (frS.u (by decide)))) ?_ ?_ ?_ ?_
      · rw [g_u_eq, if_pos rfl]; omega
      · rw [g_u_eq, if_neg (by decide), g_u_eq, if_neg (by decide)]; exact hbg
      · rw [hrun]; exact runT_step hsp.1 hsp.2
      · rw [g_u_eq, if_neg (by decide), g_u_eq, if_pos rfl]
        refine ⟨fun h4 => ?_, by split at h159 <;> omega, by split at h159 <;> omega⟩
        have m4 := m1 (by omega)
        have m5 := dvl_rng (t := t) (b := b) (a - b) (fun j hj => hall (b + j) (by omega) (by omega))
        have m6 : (10 : Int) ^ (a - b) ≤ 1000 := by
          rcases (show a - b = 0 ∨ a - b = 1 ∨ a - b = 2 ∨ a - b = 3 by omega) with q | q | q | q <;> rw [q] <;> decide
        rw [show a + 1 - b = (a - b) + 1 by omega, dvl, show b + (a - b) = a by omega]
        split at h159 <;> omega
theorem l_st4 {Γ : gW} {M0 : gM} {t : Nat → Int} {n e : Nat} (hR : g_Ref Γ) {v1 : Option Value} {M : gM} (hfr : frS M0 M) (h15 : (M.1 300 15).toInt = (tkE t n e : Int)) (h17 : (M.1 300 17).toInt = tkK t n e) (h19 : (M.1 300 19).toInt = (tkB t n e : Int)) (h18 : tkK t n e = 2 → tkE t n e - tkB t n e ≤ 4 → (M.1 300 18).toInt = tkV t n e) : G Γ μX6_stepOn (g_R 1) (0, 0) (g_Z Γ (g_qv (fun M1 => frS M0 M1 ∧ TKM t n e M1))) 211 [some (.ref 300), v1] [] M := by
  refine g_aload_n0 dX6_stepOn_211 rfl ?_
  refine g_aload_n0 dX6_stepOn_212 rfl ?_
  refine g_geti dX6_stepOn_213 rfl fX6_141 hR.1 rfl ?_
  refine g_put dX6_stepOn_216 rfl fX6_171 hR.1 rfl rfl rfl ?_
  refine g_vret dX6_stepOn_219 rfl ?_
  refine ⟨rfl, frS.tr hfr (frS.u (by decide)), ?_, ?_, ?_, ?_, ?_⟩
  · rw [g_u_eq, if_neg (by decide)]; exact h15
  · rw [g_u_eq, if_neg (by decide)]; exact h17
  · rw [g_u_eq, if_neg (by decide)]; exact h19
  · rw [g_u_eq, if_pos rfl]; exact h15
  · rw [g_u_eq, if_neg (by decide)]; exact h18
set_option maxHeartbeats 1200000 in
theorem r_stepOn {Γ : gW} {M : gM} {t : Nat → Int} {n : Nat} (hR : g_Ref Γ) (hH : HTx t n M) {e : Nat} (he : e ≤ n) (hat : (M.1 300 15).toInt = (e : Int)) : Ct Γ yX6_stepOn μX6_stepOn 1 [.ref 300] M (g_qv (fun M1 => frS M M1 ∧ TKM t n e M1)) := by
  refine g_enter rfl rfl rfl (Nat.le_of_ble_eq_true rfl) ?_
  show G Γ _ _ _ _ 0 [some (.ref 300), none] [] M
  refine l_st1 hR hH he (fun M1 hfr1 hat1 => ?_) _ e M rfl (Nat.le_refl _) he frS.rf hat rfl
  refine g_aload_n0 dX6_stepOn_39 rfl ?_
  refine g_aload_n0 dX6_stepOn_40 rfl ?_
  refine g_geti dX6_stepOn_41 rfl fX6_141 hR.1 rfl ?_
  refine g_put dX6_stepOn_44 rfl fX6_148 hR.1 rfl rfl rfl ?_
  obtain ⟨M2, hM2⟩ : ∃ M2, M2 = g_u M1 300 19 (M1.1 300 15) := ⟨_, rfl⟩
  refine g_fwd (M1 := M2) ?_ hM2
  have hf2 : frS M M2 := by rw [hM2]; exact frS.tr hfr1 (frS.u (by decide))
  obtain ⟨b, hb⟩ : ∃ b, tkB t n e = b := ⟨_, rfl⟩
  rw [hb] at hat1
  have hat2 : (M2.1 300 15).toInt = (b : Int) := by rw [hM2, g_u_eq, if_neg (by decide)]; exact hat1
  have hbg2 : (M2.1 300 19).toInt = (b : Int) := by rw [hM2, g_u_eq, if_pos rfl]; exact hat1
  have hH2 := hH.s hf2
  have hbr : e ≤ b ∧ b ≤ n := by rw [← hb]; exact runT_rng he
  clear hM2 hat1 hfr1
  obtain ⟨x1, x2, x3, -⟩ := id hH2
  have x5 := x3 b
  have hK0 : tkK t n e = if n ≤ b then 0 else if ltB (t b) = true then 1 else if dgB (t b) = true then 2 else if t b = 59 then 3 else 4 := by rw [tkK, hb]
  have hE0 : tkE t n e = if n ≤ b then b else if ltB (t b) = true then runT ltB t n b else if dgB (t b) = true then runT dgB t n b else b + 1 := by rw [tkE, hb]
  refine g_aload_n0 dX6_stepOn_47 rfl ?_
  refine g_aload_n0 dX6_stepOn_48 rfl ?_
  refine g_geti dX6_stepOn_49 rfl fX6_141 hR.1 rfl ?_
  refine g_callVi1 dX6_stepOn_52 rfl vX6_144 hR.1 rfl (r_byteAt hR hH2 (by omega)) (g_rm (by omega)) (Nat.le_of_ble_eq_true rfl) (fun z52 M52 e52 => ?_)
  obtain ⟨rfl, e52⟩ := e52
  rw [show (M52.1 300 15).toInt.toNat = b by omega] at e52
  refine g_istore_n1 dX6_stepOn_55 rfl rfl ?_
  refine g_iload_n1 dX6_stepOn_56 rfl ?_
  refine g_iconstI dX6_stepOn_57 rfl rfl (fun w57 h57 => ?_)
  refine g_icmp_neI (t := 69) dX6_stepOn_58 (by decide) rfl (fun c58 => ?_) (fun c58 => ?_)
  · -- 58 t
    have hbn : ¬ n ≤ b := fun q => by rw [if_neg (by omega)] at e52; omega
    rw [if_pos (by omega)] at e52
    refine g_iload_n1 dX6_stepOn_69 rfl ?_
    refine g_callSi1 dX6_stepOn_70 rfl sX6_154 (r_isLetter) (g_rm (by omega)) (Nat.le_of_ble_eq_true rfl) (fun z70 M70 e70 => ?_)
    obtain ⟨rfl, e70, f70⟩ := e70
    refine g_if_eqI (t := 111) dX6_stepOn_73 (by decide) rfl (fun c73 => ?_) (fun c73 => ?_)
    · -- 73 t
      have hlt : ¬ ltB (t b) = true := fun h => by have := f70.mpr (by rw [e52]; exact h); omega
      clear f70 e70
      refine g_iload_n1 dX6_stepOn_111 rfl ?_
      refine g_callSi1 dX6_stepOn_112 rfl sX6_158 (r_isDigit) (g_rm (by omega)) (Nat.le_of_ble_eq_true rfl) (fun z112 M112 e112 => ?_)
      obtain ⟨rfl, e112, f112⟩ := e112
      refine g_if_eqI (t := 186) dX6_stepOn_115 (by decide) rfl (fun c115 => ?_) (fun c115 => ?_)
      · -- 115 t
        have hdg : ¬ dgB (t b) = true := fun h => by have := f112.mpr (by rw [e52]; exact h); omega
        clear f112 e112
        refine g_aload_n0 dX6_stepOn_186 rfl ?_
        refine g_dup dX6_stepOn_187 rfl rfl ?_
        refine g_geti dX6_stepOn_188 rfl fX6_141 hR.1 rfl ?_
        refine g_iconstI dX6_stepOn_191 rfl rfl (fun w191 h191 => ?_)
        refine g_iaddI dX6_stepOn_192 rfl ⟨by omega, by omega⟩ (fun w192 h192 => ?_)
        refine g_put dX6_stepOn_193 rfl fX6_141 hR.1 rfl rfl rfl ?_
        have hs : True := trivial
        refine g_aload_n0 dX6_stepOn_196 rfl ?_
        refine g_iload_n1 dX6_stepOn_197 rfl ?_
        refine g_bipushI dX6_stepOn_198 rfl rfl (fun w198 h198 => ?_)
        refine g_icmp_neI (t := 207) dX6_stepOn_200 (by decide) rfl (fun c200 => ?_) (fun c200 => ?_)
        · -- 200 t
          refine g_iconstI dX6_stepOn_207 rfl rfl (fun w207 h207 => ?_)
          refine g_put dX6_stepOn_208 rfl fX6_151 hR.1 rfl rfl rfl ?_
          first
            | (have hz := hbn
               refine l_st4 hR (frS.tr hf2 (frS.u (by decide))) (by rw [g_u_eq, if_neg (by decide), hat2, hE0, if_pos hz]) (by rw [g_u_eq, if_pos rfl, h62, hK0, if_pos hz]) (by rw [g_u_eq, if_neg (by decide), hbg2, hb]) (fun h => by rw [hK0, if_pos hz] at h; omega))
            | (have hz := hdg
               refine l_st4 hR (frS.tr hf2 (frS.tr (frS.u (by decide)) (frS.u (by decide)))) (by rw [g_u_eq, if_neg (by decide), g_u_eq, if_pos rfl, hE0, if_neg hbn, if_neg hlt, if_neg hz]; omega) ?_ (by rw [g_u_eq, if_neg (by decide), g_u_eq, if_neg (by decide), hbg2, hb]) (fun h => ?_)
               · rw [g_u_eq, if_pos rfl, hK0, if_neg hbn, if_neg hlt, if_neg hz]
                 first
                   | (rw [if_pos (by omega)]; exact h203)
                   | (rw [if_neg (by omega)]; exact h207)
               · rw [hK0, if_neg hbn, if_neg hlt, if_neg hz] at h
                 split at h <;> omega)
        · -- 200 f
          refine g_iconstI dX6_stepOn_203 rfl rfl (fun w203 h203 => ?_)
          refine g_goto (t := 208) dX6_stepOn_204 (by decide) ?_
          refine g_put dX6_stepOn_208 rfl fX6_151 hR.1 rfl rfl rfl ?_
          first
            | (have hz := hbn
               refine l_st4 hR (frS.tr hf2 (frS.u (by decide))) (by rw [g_u_eq, if_neg (by decide), hat2, hE0, if_pos hz]) (by rw [g_u_eq, if_pos rfl, h62, hK0, if_pos hz]) (by rw [g_u_eq, if_neg (by decide), hbg2, hb]) (fun h => by rw [hK0, if_pos hz] at h; omega))
            | (have hz := hdg
               refine l_st4 hR (frS.tr hf2 (frS.tr (frS.u (by decide)) (frS.u (by decide)))) (by rw [g_u_eq, if_neg (by decide), g_u_eq, if_pos rfl, hE0, if_neg hbn, if_neg hlt, if_neg hz]; omega) ?_ (by rw [g_u_eq, if_neg (by decide), g_u_eq, if_neg (by decide), hbg2, hb]) (fun h => ?_)
               · rw [g_u_eq, if_pos rfl, hK0, if_neg hbn, if_neg hlt, if_neg hz]
                 first
                   | (rw [if_pos (by omega)]; exact h203)
                   | (rw [if_neg (by omega)]; exact h207)
               · rw [hK0, if_neg hbn, if_neg hlt, if_neg hz] at h
                 split at h <;> omega)
      · -- 115 f
        have hdg : dgB (t b) = true := by rw [← e52]; exact f112.mp (by omega)
        clear f112 e112
        refine g_aload_n0 dX6_stepOn_118 rfl ?_
        refine g_iconst (v := 0) dX6_stepOn_119 rfl rfl ?_
        refine g_put dX6_stepOn_120 rfl fX6_161 hR.1 rfl rfl rfl ?_
        refine l_st3 hR hH (b := b) (fun M3 hfr3 hat3 hbg3 hnum3 => ?_) _ b _ rfl (Nat.le_refl _) hbr.2 (frS.tr hf2 (frS.u (by decide))) (by rw [g_u_eq, if_neg (by decide)]; exact hat2) (by rw [g_u_eq, if_neg (by decide)]; exact hbg2) rfl ?_
        rotate_left
        · rw [g_u_eq, if_pos rfl, Nat.sub_self]; exact ⟨fun _ => rfl, by decide, by decide⟩
        refine g_aload_n0 dX6_stepOn_178 rfl ?_
        refine g_iconstI dX6_stepOn_179 rfl rfl (fun w179 h179 => ?_)
        refine g_put dX6_stepOn_180 rfl fX6_151 hR.1 rfl rfl rfl ?_
        refine g_goto (t := 211) dX6_stepOn_183 (by decide) ?_
        exact l_st4 hR (frS.tr hfr3 (frS.u (by decide))) (by rw [g_u_eq, if_neg (by decide), hat3, hE0, if_neg hbn, if_neg hlt, if_pos hdg]) (by rw [g_u_eq, if_pos rfl, h179, hK0, if_neg hbn, if_neg hlt, if_pos hdg]) (by rw [g_u_eq, if_neg (by decide), hbg3, hb]) (fun _ h => by
          have hE1 : tkE t n e = runT dgB t n b := by rw [hE0, if_neg hbn, if_neg hlt, if_pos hdg]
          rw [g_u_eq, if_neg (by decide), tkV, hE1, hb]
          rw [hE1, hb] at h
          exact hnum3.1 h)
    · -- 73 f
      have hlt : ltB (t b) = true := by rw [← e52]; exact f70.mp (by omega)
      clear f70 e70
      refine l_st2 hR hH (b := b) (fun M3 hfr3 hat3 hbg3 => ?_) _ b _ rfl (Nat.le_refl _) hbr.2 hf2 hat2 hbg2 rfl
      refine g_aload_n0 dX6_stepOn_103 rfl ?_
      refine g_iconstI dX6_stepOn_104 rfl rfl (fun w104 h104 => ?_)
      refine g_put dX6_stepOn_105 rfl fX6_151 hR.1 rfl rfl rfl ?_
      refine g_goto (t := 211) dX6_stepOn_108 (by decide) ?_
      exact l_st4 hR (frS.tr hfr3 (frS.u (by decide))) (by rw [g_u_eq, if_neg (by decide), hat3, hE0, if_neg hbn, if_pos hlt]) (by rw [g_u_eq, if_pos rfl, h104, hK0, if_neg hbn, if_pos hlt]) (by rw [g_u_eq, if_neg (by decide), hbg3, hb]) (fun h => by rw [hK0, if_neg hbn, if_pos hlt] at h; omega)
  · -- 58 f
    have hbn : n ≤ b := by
      by_cases q : b < n
      · rw [if_pos q] at e52; omega
      · omega
    refine g_aload_n0 dX6_stepOn_61 rfl ?_
    refine g_iconstI dX6_stepOn_62 rfl rfl (fun w62 h62 => ?_)
    refine g_put dX6_stepOn_63 rfl fX6_151 hR.1 rfl rfl rfl ?_
    refine g_goto (t := 211) dX6_stepOn_66 (by decide) ?_
    first
      | (have hz := hbn
         refine l_st4 hR (frS.tr hf2 (frS.u (by decide))) (by rw [g_u_eq, if_neg (by decide), hat2, hE0, if_pos hz]) (by rw [g_u_eq, if_pos rfl, h62, hK0, if_pos hz]) (by rw [g_u_eq, if_neg (by decide), hbg2, hb]) (fun h => by rw [hK0, if_pos hz] at h; omega))
      | (have hz := hdg
         refine l_st4 hR (frS.tr hf2 (frS.tr (frS.u (by decide)) (frS.u (by decide)))) (by rw [g_u_eq, if_neg (by decide), g_u_eq, if_pos rfl, hE0, if_neg hbn, if_neg hlt, if_neg hz]; omega) ?_ (by rw [g_u_eq, if_neg (by decide), g_u_eq, if_neg (by decide), hbg2, hb]) (fun h => ?_)
         · rw [g_u_eq, if_pos rfl, hK0, if_neg hbn, if_neg hlt, if_neg hz]
           first
             | (rw [if_pos (by omega)]; exact h203)
             | (rw [if_neg (by omega)]; exact h207)
         · rw [hK0, if_neg hbn, if_neg hlt, if_neg hz] at h
           split at h <;> omega)
