/-! the faults are 1 to 5 -/
def okE {α : Type} (x : pR α) : Prop := ∀ q, x = .inl q → 1 ≤ q.1 ∧ q.1 ≤ 5
theorem okE.l {α : Type} {k p : Int} (h : 1 ≤ k ∧ k ≤ 5) : okE (.inl (k, p) : pR α) := fun q hq => by cases hq; exact h
theorem okE.r {α : Type} {y : α × Nat} : okE (.inr y : pR α) := fun q hq => by cases hq
theorem okE.bd {α β : Type} {x : pR α} {f : α → Nat → pR β} (h : okE x) (hf : ∀ a e, okE (f a e)) : okE (pBd x f) := by
  cases x with
  | inl q => intro r hr; cases hr; exact h _ rfl
  | inr y => exact hf y.1 y.2
theorem okE.pIf {α : Type} {t : Nat → Int} {n e : Nat} {w : List Int32} {x y : pR α} (h1 : okE x) (h2 : okE y) : okE (pIf t n e w x y) := by
  rcases pIf_or (t := t) (n := n) (e := e) (w := w) (x := x) (y := y) with ⟨-, q⟩ | ⟨-, q⟩ <;> rw [q]
  · exact h1
  · exact h2
theorem okE.num {t : Nat → Int} {n e : Nat} {a b : Int} : okE (pNum t n e a b) := by
  rw [pNum]; split
  · exact okE.l (by decide)
  · split
    · exact okE.l (by decide)
    · exact okE.r
theorem okE.per {t : Nat → Int} {n e : Nat} {m : Int} : okE (pPer t n e m) := by
  rw [pPer]; split
  · exact okE.l (by decide)
  · split
    · exact okE.l (by decide)
    · split
      · exact okE.l (by decide)
      · exact okE.r
theorem okE.stop {α : Type} {t : Nat → Int} {n e : Nat} {x : α} : okE (pStop t n x e) := by
  rw [pStop]; split
  · exact okE.r
  · exact okE.l (by decide)
theorem okE.one {t : Nat → Int} {n e : Nat} {T : gTw} : okE (pOne t n T e) := by
  rw [pOne]; split
  · exact okE.l (by decide)
  · refine okE.bd (okE.pIf okE.num okE.r) (fun s e2 => ?_)
    split
    · exact okE.l (by decide)
    · refine okE.bd ?_ (fun g e3 => okE.r)
      split
      · exact okE.num
      · split
        · exact okE.num
        · exact okE.r
theorem okE.thg {t : Nat → Int} {n e : Nat} {T : gTw} : okE (pThg t n T e) := by
  rw [pThg]; split
  · exact okE.l (by decide)
  · exact okE.bd okE.num (fun w e1 => okE.bd okE.num (fun v e2 => okE.bd okE.per (fun h e3 => okE.pIf okE.r okE.r)))
theorem okE.owe {t : Nat → Int} {n e : Nat} {T : gTw} : okE (pOwe t n T e) := by
  rw [pOwe]
  refine okE.bd okE.per (fun p e1 => ?_)
  split
  · exact okE.l (by decide)
  · refine okE.bd okE.num (fun v e2 => okE.pIf (okE.bd okE.per (fun q e3 => ?_)) okE.r)
    split
    · exact okE.l (by decide)
    · exact okE.r
theorem okE.law {t : Nat → Int} {n e : Nat} {T : gTw} : okE (pLaw t n T e) := by
  rw [pLaw]; exact okE.pIf okE.r (okE.pIf okE.r (okE.l (by decide)))
theorem okE.line {t : Nat → Int} {n e : Nat} {T : gTw} {sl sw : Int} : okE (pLine t n T sl sw e) := by
  rw [pLine]
  refine okE.pIf (okE.bd okE.one (fun _ _ => okE.stop)) (okE.pIf (okE.bd okE.thg (fun _ _ => okE.stop)) (okE.pIf (okE.bd okE.owe (fun _ _ => okE.stop)) (okE.pIf ?_ (okE.pIf ?_ (okE.l (by decide))))))
  · split
    · exact okE.l (by decide)
    · exact okE.bd okE.law (fun _ _ => okE.stop)
  · split
    · exact okE.l (by decide)
    · exact okE.bd okE.num (fun _ _ => okE.stop)
def clrT (T : gTw) : gTw := fun f i => if f = 0 ∨ f = 7 then 0 else T f i
theorem PIV.clr {T : gTw} (h : TOK T) : PIV (clrT T) := by
  have e0 : ∀ i, clrT T 0 i = 0 := fun i => if_pos (Or.inl rfl)
  have e7 : ∀ i, clrT T 7 i = 0 := fun i => if_pos (Or.inr rfl)
  have e1 : ∀ f i, f ≠ 0 → f ≠ 7 → clrT T f i = T f i := fun f i a b => if_neg (fun q => q.elim a b)
  obtain ⟨a1, a2, a3, a4, a5, a6, a7, a8⟩ := h
  refine ⟨⟨by rw [e0]; decide, by rw [e0]; decide, by rw [e0]; decide, by rw [e0]; decide, by rw [e0]; decide, by rw [e0]; decide, fun p hp => ?_, fun i hi => ?_⟩, by rw [e0, e0]; decide, e0 4, fun p hp => by rw [e0] at hp; omega, fun q hq => by rw [e0] at hq; omega, fun i _ _ => e7 i, fun p hp => by rw [e0] at hp; omega⟩
  · rw [e1 1 _ (by decide) (by decide), e1 2 _ (by decide) (by decide), e1 3 _ (by decide) (by decide), e1 4 _ (by decide) (by decide), e1 5 _ (by decide) (by decide), e1 6 _ (by decide) (by decide)]; exact a7 p hp
  · rw [e7, e1 8 _ (by decide) (by decide)]; exact ⟨by decide, (a8 i hi).2⟩
set_option maxHeartbeats 1200000 in
theorem l_rt {Γ : gW} {t : Nat → Int} {n : Nat} {T0 : gTw} {M0 : gM} (hA : g_Tape Γ) {n0 : Int32} (hH0 : HTc t n M0) {Q : Option Value → gM → Prop} (hQ : ∀ (M : gM) (q : Int × Int) (z : Int32), pAll t n 701 T0 0 0 0 = .inl q → z.toInt = q.1 → ERc q M → PIV (tv M 160) → frF M0 M → Q (some (.int z)) M) (hk : ∀ (M : gM) (i : Int32) (T : gTw), pAll t n 701 T0 0 0 0 = .inr T → tv M 160 = T → PIV T → frF M0 M → G Γ μX2_readTown (g_R 8) (0, 0) (g_Z Γ Q) 82 [some (.ref 230), some (.int n0), some (.int i)] [] M) : ∀ (n9 : Nat) (f : Nat) (T : gTw) (sl sw : Int) (e : Nat) (i : Int32) (M : gM), n - e = n9 → TKc t n e M → e ≤ n → tv M 160 = T → PIV T → (sl = 0 ∨ sl = 1) → (sw = 0 ∨ sw = 1) → (M.1 230 4).toInt = sl → (M.1 230 5).toInt = sw → (¬ sl = 1 → T 0 2 = 0) → frF M0 M → 701 ≤ f + e → 0 ≤ i.toInt → i.toInt ≤ e → pAll t n f T sl sw e = pAll t n 701 T0 0 0 0 → G Γ μX2_readTown (g_R 8) (0, 0) (g_Z Γ Q) 50 [some (.ref 230), some (.int n0), some (.int i)] [] M := by
  intro n9
  induction n9 using Nat.strongRecOn with
  | ind n9 ih =>
    intro f T sl sw e i M h9 hK he hT hV hsl hsw h4 h5 hl hF hfe hi0 hi1 hres
    have hH := hH0.f hF
    have x7 := hH.2.1
    have r0 := tk_rng (t := t) he
    have k7 := hK.2.1
    obtain ⟨f, rfl⟩ : ∃ g, f = g + 1 := ⟨f - 1, by omega⟩
    refine g_iload_n2 dX2_readTown_50 rfl ?_
    refine g_sipushI dX2_readTown_51 rfl rfl (fun w51 h51 => ?_)
    refine g_icmp_geI (t := 82) dX2_readTown_54 (by decide) rfl (fun c54 => ?_) (fun c54 => ?_)
    · -- 54 t
      have hk0 : tkK t n e = 0 := by
        by_cases q : tkK t n e = 0
        · exact q
        · have := r0.2.2.2.1 q; omega
      exact hk M i T (by rw [← hres]; exact pAll_end hk0) hT hV hF
    · -- 54 f
      refine g_aload_n0 dX2_readTown_57 rfl ?_
      refine g_geti dX2_readTown_58 rfl fX2_39 hA.1 rfl ?_
      refine g_if_eqI (t := 82) dX2_readTown_61 (by decide) rfl (fun c61 => ?_) (fun c61 => ?_)
      · -- 61 t
        have hk0 : tkK t n e = 0 := by omega
        exact hk M i T (by rw [← hres]; exact pAll_end hk0) hT hV hF
      · -- 61 f
        have hk1 : ¬ tkK t n e = 0 := by omega
        refine g_aload_n0 dX2_readTown_64 rfl ?_
        refine g_callVi0 dX2_readTown_65 rfl vX2_69 hA.1 rfl (c_readLine hA hH he hK hT hV hsl hsw h4 h5) (g_rm (by omega)) (Nat.le_of_ble_eq_true rfl) (fun z65 M65 e65 => ?_)
        rcases e65 with ⟨q, a1, a2, a3, a4, a5⟩ | ⟨T1, l1, w1, e1, a1, a2, a3, a4, a5, a6, a7, a8⟩
        · refine g_if_neI (t := 76) dX2_readTown_68 (by decide) rfl (fun c => absurd a2 c) (fun _ => ?_)
          refine g_aload_n0 dX2_readTown_71 rfl ?_
          refine g_geti dX2_readTown_72 rfl fX2_36 hA.1 rfl ?_
          refine g_iret dX2_readTown_75 rfl ?_
          exact hQ _ q _ (by rw [← hres]; exact pAll_bad hk1 a1) a3.1 a3 a4 (frF.tr hF a5)
        · refine g_if_neI (t := 76) dX2_readTown_68 (by decide) rfl (fun c => ?_) (fun q => by omega)
          obtain ⟨o1, o2, o3, o4⟩ := pLine_ok hV he hl a1
          have o5 := pLine_td (sn := Int32.ofInt (sl + 2 * sw)) ⟨hsl, hsw, by rcases hsl with q | q <;> rcases hsw with q2 | q2 <;> rw [q, q2] <;> decide⟩ a1
          refine g_iincI2 dX2_readTown_76 rfl rfl rfl ⟨by omega, by omega⟩ (fun w76 h76 => ?_)
          refine g_goto (t := 50) dX2_readTown_79 (by decide) ?_
          exact ih _ (by omega) f T1 l1 w1 e1 w76 M65 rfl a4 a5 a3 o1 o5.1 o5.2 a6 a7 o4 (frF.tr hF a8) (by omega) (by omega) (by omega) (by rw [← hres]; exact (pAll_on hk1 a1).symm)
/-- only the Tape and its town move -/
def frX (M M' : gM) : Prop := (∀ j, j ≠ 230 → (j < 160 ∨ 170 < j) → M'.1 j = M.1 j) ∧ M'.2 = M.2 ∧ (M'.1 230 2).toInt = 0 ∧ (M'.1 169 0).toInt = 0 ∧ (M'.1 170 0).toInt = 0
theorem frF.x {M M1 M2 : gM} (h : frX M M1) (h2 : frF M1 M2) : frX M M2 := ⟨fun j a b => by rw [h2.1 j a (by omega), h.1 j a b], by rw [h2.2.1, h.2.1], by rw [h2.2.2 2 (by omega)]; exact h.2.2.1, by rw [h2.1 169 (by decide) (by decide)]; exact h.2.2.2.1, by rw [h2.1 170 (by decide) (by decide)]; exact h.2.2.2.2⟩
theorem TB.of {M : gM} {t : Nat} (h : TOK (tv M t)) (ht : TBt M t) : TB M t := by
  obtain ⟨a1, a2, a3, a4, a5, a6, a7, a8⟩ := h
  rw [tv0 (by omega)] at a1 a2 a3 a4 a5 a6
  refine ⟨⟨a1, a2, a3, a4, a5, a6⟩, fun p hp => ?_, fun i hi => ?_, ht⟩
  · have := a7 p hp
    rw [tvp (by omega) hp, tvp (by omega) hp, tvp (by omega) hp, tvp (by omega) hp, tvp (by omega) hp, tvp (by omega) hp] at this
    exact this
  · have := a8 i hi
    rw [tvw (by omega) hi, tvw (by omega) hi] at this
    exact this
theorem okE.all {t : Nat → Int} {n : Nat} : ∀ (f : Nat) (T : gTw) (sl sw : Int) (e : Nat) (q : Int × Int), pAll t n f T sl sw e = .inl q → 1 ≤ q.1 ∧ q.1 ≤ 5 := by
  intro f
  induction f with
  | zero => intro T sl sw e q h; cases h
  | succ f ih =>
    intro T sl sw e q h
    rw [pAll] at h
    split at h
    · cases h
    · have hl := okE.line (t := t) (n := n) (e := e) (T := T) (sl := sl) (sw := sw)
      cases hx : pLine t n T sl sw e with
      | inl r => rw [hx] at h hl; cases h; exact hl _ rfl
      | inr y => rw [hx] at h; exact ih _ _ _ _ _ h
set_option maxHeartbeats 1200000 in
theorem c_readTown {Γ : gW} {M : gM} {t : Nat → Int} (hA : g_Tape Γ) {n0 : Int32} (hn : 0 ≤ n0.toInt ∧ n0.toInt ≤ (M.1 230 2).toInt) (hfed : (M.1 230 2).toInt ≤ 700) (htt : ∀ k, k < 700 → 0 ≤ t k ∧ t k ≤ 255) (htp : ∀ k, k < 700 → (M.1 231 k).toInt = sgn8 (t k)) (hO : TOK (tv M 160)) (hz : (M.1 169 0).toInt = 0 ∧ (M.1 170 0).toInt = 0) : Ct Γ yX2_readTown μX2_readTown 8 [.ref 230, .int n0] M (g_qi (fun z M1 => (∃ q, pAll t n0.toInt.toNat 701 (clrT (tv M 160)) 0 0 0 = .inl q ∧ z.toInt = q.1 ∧ ¬ z.toInt = 0 ∧ (M1.1 230 8).toInt = q.2 ∧ TOK (tv M1 160) ∧ frX M M1) ∨ (∃ T1, pAll t n0.toInt.toNat 701 (clrT (tv M 160)) 0 0 0 = .inr T1 ∧ PIV T1 ∧ z.toInt = 0 ∧ tv M1 160 = T1 ∧ TB M1 160 ∧ frX M M1))) := by
  refine g_enter rfl rfl rfl (Nat.le_of_ble_eq_true rfl) ?_
  show G Γ _ _ _ _ 0 [some (.ref 230), some (.int n0), none] [] M
  refine g_aload_n0 dX2_readTown_0 rfl ?_
  refine g_iload_n1 dX2_readTown_1 rfl ?_
  refine g_aload_n0 dX2_readTown_2 rfl ?_
  refine g_geti dX2_readTown_3 rfl fX2_22 hA.1 rfl ?_
  refine g_mminI dX2_readTown_6 rfl jX2_57 jm_min_s jm_i jm_min_c ⟨by show 1 ≤ _ + 1; omega, by show _ ≤ 40 + 50 * _; simp [Value.category] <;> omega⟩  (fun w6 h6 => ?_)
  have hmin : w6.toInt = n0.toInt := by split at h6 <;> omega
  refine g_put dX2_readTown_9 rfl fX2_26 hA.1 rfl rfl rfl ?_
  refine g_aload_n0 dX2_readTown_12 rfl ?_
  refine g_iconst (v := 0) dX2_readTown_13 rfl rfl ?_
  refine g_put dX2_readTown_14 rfl fX2_22 hA.1 rfl rfl rfl ?_
  refine g_aload_n0 dX2_readTown_17 rfl ?_
  refine g_getr dX2_readTown_18 rfl fX2_12 hA.1 rfl ?_
  refine g_callVv0 dX2_readTown_21 rfl vX2_63 hA.2.2.1 rfl (c_clear hA.2.2 hz) (g_rm (by omega)) (Nat.le_of_ble_eq_true rfl) (fun M21 e21 => ?_)
  refine g_aload_n0 dX2_readTown_24 rfl ?_
  refine g_iconst (v := 0) dX2_readTown_25 rfl rfl ?_
  refine g_put dX2_readTown_26 rfl fX2_29 hA.1 rfl rfl rfl ?_
  refine g_aload_n0 dX2_readTown_29 rfl ?_
  refine g_iconst (v := 0) dX2_readTown_30 rfl rfl ?_
  refine g_put dX2_readTown_31 rfl fX2_33 hA.1 rfl rfl rfl ?_
  refine g_aload_n0 dX2_readTown_34 rfl ?_
  refine g_iconst (v := 0) dX2_readTown_35 rfl rfl ?_
  refine g_put dX2_readTown_36 rfl fX2_36 hA.1 rfl rfl rfl ?_
  refine g_aload_n0 dX2_readTown_39 rfl ?_
  refine g_iconst (v := 0) dX2_readTown_40 rfl rfl ?_
  refine g_put dX2_readTown_41 rfl fX2_45 hA.1 rfl rfl rfl ?_
  obtain ⟨c1, c2, c3, c7, c9⟩ := e21
  obtain ⟨MC, hMC⟩ : ∃ MC, MC = g_u (g_u (g_u (g_u M21 230 4 0) 230 5 0) 230 6 0) 230 9 0 := ⟨_, rfl⟩
  refine g_fwd (M1 := MC) ?_ hMC
  have mj : ∀ j, j ≠ 230 → (j < 160 ∨ 170 < j) → MC.1 j = M.1 j := fun j a b => by rw [hMC, g_u_ne a, g_u_ne a, g_u_ne a, g_u_ne a, c1 j (by omega) (by omega) (by omega) (by omega), g_u_ne a, g_u_ne a]
  have m16 : ∀ j, 160 ≤ j → j ≤ 170 → MC.1 j = M21.1 j := fun j a b => by rw [hMC, g_u_ne (by omega), g_u_ne (by omega), g_u_ne (by omega), g_u_ne (by omega)]
  have m230 : ∀ k, k ≠ 4 → k ≠ 5 → k ≠ 6 → k ≠ 9 → MC.1 230 k = (g_u (g_u M 230 3 w6) 230 2 0).1 230 k := fun k q1 q2 q3 q4 => by rw [hMC, g_u_eq, if_neg q4, g_u_eq, if_neg q3, g_u_eq, if_neg q2, g_u_eq, if_neg q1, c1 230 (by decide) (by decide) (by decide) (by decide)]
  have m4 : (MC.1 230 4).toInt = 0 := by rw [hMC]; rfl
  have m5 : (MC.1 230 5).toInt = 0 := by rw [hMC]; rfl
  have m9 : (MC.1 230 9).toInt = ((0 : Nat) : Int) := by rw [hMC]; rfl
  have m2 : MC.2 = M.2 := by rw [hMC]; exact c2
  have mT : tv MC 160 = clrT (tv M 160) := by
    funext f i
    have e1 : tv MC 160 = tv M21 160 := tv_far (fun j a b => m16 j a (by omega))
    rw [e1, clrT, tv, tv]
    by_cases hf : f = 0 ∨ f = 7
    · rw [if_pos hf]
      split
      · rename_i hq
        rcases hf with rfl | rfl
        · exact c3 i (by have := hq.2; rw [lenT, if_pos (by decide)] at this; exact this)
        · exact c7 i (by have := hq.2; rw [lenT, if_neg (by decide), if_pos (by decide)] at this; exact this)
      · rfl
    · rw [if_neg hf]
      by_cases hq : f ≤ 8 ∧ i < lenT f
      · rw [if_pos hq, if_pos hq, c1 (160 + f) (by omega) (by omega) (by omega) (by omega), g_u_ne (by omega), g_u_ne (by omega)]
      · rw [if_neg hq, if_neg hq]
  have hXC : frX M MC := by
    refine ⟨mj, m2, ?_, ?_, ?_⟩
    · rw [m230 2 (by decide) (by decide) (by decide) (by decide)]; rfl
    · rw [m16 169 (by decide) (by decide)]
      have := (c9 0 (by decide)).1
      rw [show (160 + 9 : Nat) = 169 from rfl] at this
      rw [this, wsum_none (fun i _ => Nat.zero_testBit i)]
    · rw [m16 170 (by decide) (by decide)]
      have := (c9 0 (by decide)).2
      rw [show (160 + 10 : Nat) = 170 from rfl] at this
      rw [this, wsum_none (fun i _ => Nat.zero_testBit i)]
  have hHC : HTc t n0.toInt.toNat MC := ⟨by rw [m230 3 (by decide) (by decide) (by decide) (by decide)]; show w6.toInt = _; omega, by omega, htt, fun k hk => by rw [mj 231 (by decide) (by decide)]; exact htp k hk⟩
  clear hMC
  refine g_aload_n0 dX2_readTown_44 rfl ?_
  refine g_callVv0 dX2_readTown_45 rfl vX2_66 hA.1 rfl (c_step (e := 0) hA hHC (Nat.zero_le _) m9) (g_rm (by omega)) (Nat.le_of_ble_eq_true rfl) (fun M45 e45 => ?_)
  refine g_iconstI dX2_readTown_48 rfl rfl (fun w48 h48 => ?_)
  refine g_istore_n2 dX2_readTown_49 rfl rfl ?_
  refine l_rt (T0 := clrT (tv M 160)) (M0 := M45) hA (hHC.k e45.1) (fun M9 q z h1 h2 h3 h4 h5 => ?_) (fun M9 i9 T1 h1 h2 h3 h4 => ?_) _ 701 (clrT (tv M 160)) 0 0 0 w48 M45 rfl e45.2.1 (Nat.zero_le _) (by rw [e45.1.tv]; exact mT) (PIV.clr hO) (Or.inl rfl) (Or.inl rfl) (by rw [e45.1.2.2 4 (by omega)]; exact m4) (by rw [e45.1.2.2 5 (by omega)]; exact m5) (fun _ => if_pos (Or.inl rfl)) frF.rf (by omega) (by omega) (by omega) rfl
  · have hX9 := frF.x hXC (frF.tr e45.1.d.f h5)
    refine ⟨_, rfl, Or.inl ⟨q, h1, h2, ?_, h3.2, h4.1, hX9⟩⟩
    have := okE.all (t := t) (n := n0.toInt.toNat) 701 (clrT (tv M 160)) 0 0 0 q h1
    omega
  · have hX9 := frF.x hXC (frF.tr e45.1.d.f h4)
    have hz9 : (M9.1 (160 + 9) 0).toInt = 0 ∧ (M9.1 (160 + 10) 0).toInt = 0 := ⟨hX9.2.2.2.1, hX9.2.2.2.2⟩
    have hwr : ∀ i, i < 12 → 0 ≤ (M9.1 (160 + 7) i).toInt ∧ (M9.1 (160 + 7) i).toInt ≤ 99 := fun i hi => by
      have := (h3.1.2.2.2.2.2.2.2 i hi).1
      rw [← h2, tvw (by omega) hi] at this
      exact this
    refine g_aload_n0 dX2_readTown_82 rfl ?_
    refine g_getr dX2_readTown_83 rfl fX2_12 hA.1 rfl ?_
    refine g_callVv0 dX2_readTown_86 rfl vX2_73 hA.2.2.1 rfl (c_weighSets hA.2.2 hwr hz9) (g_rm (by omega)) (Nat.le_of_ble_eq_true rfl) (fun M86 e86 => ?_)
    refine g_iconstI dX2_readTown_89 rfl rfl (fun w89 h89 => ?_)
    refine g_iret dX2_readTown_90 rfl ?_
    obtain ⟨s1, s2⟩ := e86
    have sT : tv M86 160 = T1 := by rw [← h2]; exact tv_far (fun j a b => s1.1 j (by omega) (by omega))
    refine ⟨_, rfl, Or.inr ⟨T1, h1, h3, h89, sT, ?_, ⟨fun j a b => ?_, ?_, ?_, ?_, ?_⟩⟩⟩
    · refine TB.of (by rw [sT]; exact h3.1) s2
    · rw [s1.1 j (by omega) (by omega)]; exact hX9.1 j a b
    · rw [s1.2]; exact hX9.2.1
    · rw [s1.1 230 (by decide) (by decide)]; exact hX9.2.2.1
    · have := (s2 0 (by decide)).1
      rw [this, wsum_none (fun i _ => Nat.zero_testBit i)]
    · have := (s2 0 (by decide)).2
      rw [this, wsum_none (fun i _ => Nat.zero_testBit i)]
