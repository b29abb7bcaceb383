/-- the Tape's token and its town may move -/
def frE (M M' : gM) : Prop := (∀ j, j ≠ 230 → (j < 160 ∨ 168 < j) → M'.1 j = M.1 j) ∧ M'.2 = M.2 ∧ ∀ k, ¬ (6 ≤ k ∧ k ≤ 12) → M'.1 230 k = M.1 230 k
theorem frE.rf {M : gM} : frE M M := ⟨fun _ _ _ => rfl, rfl, fun _ _ => rfl⟩
theorem frE.tr {M M1 M2 : gM} (h : frE M M1) (h2 : frE M1 M2) : frE M M2 := ⟨fun j a b => by rw [h2.1 j a b, h.1 j a b], by rw [h2.2.1, h.2.1], fun k a => by rw [h2.2.2 k a, h.2.2 k a]⟩
theorem frK.d {M M1 : gM} (h : frK M M1) : frE M M1 := ⟨fun j a _ => h.1 j a, h.2.1, h.2.2⟩
theorem frE.u {M : gM} {j k : Nat} {x : Int32} (h : 160 ≤ j ∧ j ≤ 168) : frE M (g_u M j k x) := ⟨fun i a b => g_u_ne (by omega), rfl, fun i a => by rw [g_u_ne (by omega)]⟩
theorem HTc.d {t : Nat → Int} {n : Nat} {M M' : gM} (h : HTc t n M) (hf : frE M M') : HTc t n M' := by
  obtain ⟨a, b, c, d⟩ := h
  exact ⟨by rw [hf.2.2 3 (by omega)]; exact a, b, c, fun k hk => by rw [hf.1 231 (by decide) (by decide)]; exact d k hk⟩
theorem tv_u {M : gM} {t f i : Nat} {x : Int32} (h : f ≤ 8 ∧ i < lenT f) : tv (g_u M (t + f) i x) t = upT (tv M t) f i x.toInt := by
  funext a b
  rw [tv, upT]
  by_cases hab : a = f ∧ b = i
  · rw [if_pos hab, hab.1, hab.2, if_pos h, g_u_eq, if_pos rfl]
  · rw [if_neg hab, tv]
    have : (g_u M (t + f) i x).1 (t + a) b = M.1 (t + a) b := by
      show (if t + a = t + f ∧ b = i then x else M.1 (t + a) b) = _
      rw [if_neg (fun q => hab ⟨by omega, q.2⟩)]
    rw [this]
theorem tv_far {M M' : gM} {t : Nat} (h : ∀ j, t ≤ j → j ≤ t + 8 → M'.1 j = M.1 j) : tv M' t = tv M t := by
  funext a b
  rw [tv, tv]
  by_cases q : a ≤ 8 ∧ b < lenT a
  · rw [if_pos q, if_pos q, h (t + a) (by omega) (by omega)]
  · rw [if_neg q, if_neg q]
theorem frK.tv {M M1 : gM} (h : frK M M1) : tv M1 160 = tv M 160 := tv_far (fun j a b => h.1 j (by omega))
theorem tv_addP {M : gM} {n : Nat} {k g s n1 : Int32} (hn : n < 6) (h0 : (tv M 160 0 0).toNat = n) (h1 : n1.toInt = tv M 160 0 0 + 1) : tv (addP M 160 n k g s n1) 160 = addPT (tv M 160) k.toInt g.toInt s.toInt := by
  have l6 : ∀ f, f ≤ 6 → lenT f = 6 := fun f hf => by rw [lenT, if_pos hf]
  rw [addP, addPT, h0, ← h1]
  rw [tv_u (t := 160) (f := 0) (by rw [l6 _ (by decide)]; decide), tv_u (t := 160) (f := 6) (by rw [l6 _ (by decide)]; omega), tv_u (t := 160) (f := 5) (by rw [l6 _ (by decide)]; omega), tv_u (t := 160) (f := 4) (by rw [l6 _ (by decide)]; omega), tv_u (t := 160) (f := 3) (by rw [l6 _ (by decide)]; omega), tv_u (t := 160) (f := 2) (by rw [l6 _ (by decide)]; omega), tv_u (t := 160) (f := 1) (by rw [l6 _ (by decide)]; omega)]
  rfl
theorem tv_addT {M : gM} {n h : Nat} {w v hs we n1 : Int32} {b : Bool} (hV : PIV (tv M 160)) (hn : n < 12) (hh : (h : Int) < tv M 160 0 0) (h0 : (tv M 160 0 1).toNat = n) (h1 : n1.toInt = tv M 160 0 1 + 1) (q1 : bn hs = bn (M.1 (160 + 6) h) ||| 2 ^ n) (q2 : bn we = bn (M.1 160 5) ||| (if b = true then 2 ^ n else 0)) : tv (addT M 160 n w v h hs we n1) 160 = addTT (tv M 160) w.toInt v.toInt h b := by
  have l6 : ∀ f, f ≤ 6 → lenT f = 6 := fun f hf => by rw [lenT, if_pos hf]
  have l12 : ∀ f, 7 ≤ f → f ≤ 8 → lenT f = 12 := fun f hf hf2 => by rw [lenT, if_neg (by omega), if_pos hf2]
  have b0 := hV.1.1
  have b1 := hV.1.2.1
  have hh6 : h < 6 := by omega
  have t6 : tv M 160 6 h = (M.1 (160 + 6) h).toInt := tvp (by decide) hh6
  have t5 : tv M 160 0 5 = (M.1 160 5).toInt := tv0 (by decide)
  have r6 := (hV.1.2.2.2.2.2.2.1 h hh6).2.2.2.2.2.1
  have r5 := hV.1.2.2.2.2.2.1
  have p6 := hV.2.2.2.2.2.2 h hh
  have p5 := hV.2.1
  have n6 : bn (M.1 (160 + 6) h) = (tv M 160 6 h).toNat := bn_lit (by rw [t6] at r6 ⊢; omega)
  have n5 : bn (M.1 160 5) = (tv M 160 0 5).toNat := bn_lit (by rw [t5] at r5 ⊢; omega)
  rw [n6] at q1
  rw [n5] at q2
  rw [h0] at p6 p5
  have w1 := pow_4095 (lt_or_pow p6) (by omega)
  have w2 : (tv M 160 0 5).toNat ||| (if b = true then 2 ^ n else 0) ≤ 4095 := by
    refine pow_4095 (n := n + 1) ?_ (by omega)
    split
    · exact lt_or_pow p5
    · rw [Nat.or_zero, Nat.pow_succ]; omega
  have e1 : hs.toInt = (((tv M 160 6 h).toNat ||| 2 ^ n : Nat) : Int) := by rw [i_bn (by omega), q1]
  have e2 : we.toInt = (((tv M 160 0 5).toNat ||| (if b = true then 2 ^ n else 0) : Nat) : Int) := by rw [i_bn (by omega), q2]
  rw [addT, addTT, h0, ← h1, ← e1, ← e2]
  rw [tv_u (t := 160) (f := 0) (i := 1) (by rw [l6 _ (by decide)]; decide), tv_u (t := 160) (f := 0) (i := 5) (by rw [l6 _ (by decide)]; decide), tv_u (t := 160) (f := 6) (by rw [l6 _ (by decide)]; omega), tv_u (t := 160) (f := 8) (by rw [l12 _ (by decide) (by decide)]; omega), tv_u (t := 160) (f := 7) (by rw [l12 _ (by decide) (by decide)]; omega)]
set_option maxHeartbeats 1200000 in
theorem l_rp3 {Γ : gW} {t : Nat → Int} {n e : Nat} {T : gTw} {M0 M : gM} (hA : g_Tape Γ) (hH : HTc t n M) (hT : tv M 160 = T) (hV : PIV T) (hF : frE M0 M) (h6 : T 0 0 < 6) {kI gI sI : Int32} {k g s : Int} (hk : kI.toInt = k) (hg : gI.toInt = g) (hs : sI.toInt = s) {e3 : Nat} (he3 : e3 ≤ n) (hK : TKc t n e3 M) (heq : pOne t n T e = .inr (addPT T k g s, e3)) : G Γ μX2_readPerson (g_R 6) (0, 0) (g_Z Γ (g_qi (fun z M1 => (∃ q, pOne t n T e = .inl q ∧ z.toInt = 0 ∧ ERc q M1 ∧ PIV (tv M1 160) ∧ frE M0 M1) ∨ (∃ T1 e1, pOne t n T e = .inr (T1, e1) ∧ z.toInt = 1 ∧ tv M1 160 = T1 ∧ TKc t n e1 M1 ∧ e1 ≤ n ∧ frE M0 M1)))) 109 [some (.ref 230), some (.int sI), some (.int kI), some (.int gI)] [] M := by
  have b0 := hV.1.1
  have t00 : (M.1 160 0).toInt = T 0 0 := by rw [← hT]; exact (tv0 (by decide)).symm
  refine g_aload_n0 dX2_readPerson_109 rfl ?_
  refine g_getr dX2_readPerson_110 rfl fX2_12 hA.1 rfl ?_
  refine g_iload_n2 dX2_readPerson_113 rfl ?_
  refine g_iload_n3 dX2_readPerson_114 rfl ?_
  refine g_iload_n1 dX2_readPerson_115 rfl ?_
  refine g_callVv3 dX2_readPerson_116 rfl vX2_128 hA.2.2.1 rfl (c_addPerson hA.2.2 (by omega)) (g_rm (by omega)) (Nat.le_of_ble_eq_true rfl) (fun M116 e116 => ?_)
  refine g_iconstI dX2_readPerson_119 rfl rfl (fun w119 h119 => ?_)
  refine g_zretI dX2_readPerson_120 rfl (by omega) ?_
  obtain ⟨n1, hn1, hM1⟩ := e116
  have fD : frE M M116 := by
    rw [hM1, addP]
    exact frE.tr (frE.u (by decide)) (frE.tr (frE.u (by decide)) (frE.tr (frE.u (by decide)) (frE.tr (frE.u (by decide)) (frE.tr (frE.u (by decide)) (frE.tr (frE.u (by decide)) (frE.u (by decide)))))))
  have f230 : M116.1 230 = M.1 230 := by rw [hM1, addP, g_u_ne (by decide), g_u_ne (by decide), g_u_ne (by decide), g_u_ne (by decide), g_u_ne (by decide), g_u_ne (by decide), g_u_ne (by decide)]
  refine ⟨_, rfl, Or.inr ⟨_, _, heq, h119, ?_, ?_, he3, frE.tr hF fD⟩⟩
  · rw [hM1, tv_addP (by omega) (by rw [hT]; omega) (by rw [hT]; omega), hT, hk, hg, hs]
  · unfold TKc at hK ⊢; rw [f230]; exact hK
set_option maxHeartbeats 1200000 in
theorem l_rp2 {Γ : gW} {t : Nat → Int} {n e : Nat} {T : gTw} {M0 M : gM} (hA : g_Tape Γ) (hH : HTc t n M) (hT : tv M 160 = T) (hV : PIV T) (hF : frE M0 M) (h6 : T 0 0 < 6) {sI : Int32} {s : Int} (hs : sI.toInt = s) {e2 : Nat} (he2 : e2 ≤ n) (hK : TKc t n e2 M) (heq : pOne t n T e = if kindW t n e2 = -1 then .inl (1, (tkB t n e2 : Int)) else pBd (if kindW t n e2 = 3 then pNum t n (tkE t n e2) 0 11 else if kindW t n e2 = 4 then pNum t n (tkE t n e2) 0 99 else .inr (0, tkE t n e2)) (fun g e3 => .inr (addPT T (kindW t n e2) g s, e3))) : G Γ μX2_readPerson (g_R 6) (0, 0) (g_Z Γ (g_qi (fun z M1 => (∃ q, pOne t n T e = .inl q ∧ z.toInt = 0 ∧ ERc q M1 ∧ PIV (tv M1 160) ∧ frE M0 M1) ∨ (∃ T1 e1, pOne t n T e = .inr (T1, e1) ∧ z.toInt = 1 ∧ tv M1 160 = T1 ∧ TKc t n e1 M1 ∧ e1 ≤ n ∧ frE M0 M1)))) 50 [some (.ref 230), some (.int sI), none, none] [] M := by
  have b0 := hV.1.1
  have t00 : (M.1 160 0).toInt = T 0 0 := by rw [← hT]; exact (tv0 (by decide)).symm
  refine g_aload_n0 dX2_readPerson_50 rfl ?_
  refine g_callVi0 dX2_readPerson_51 rfl vX2_124 hA.1 rfl (c_kindTold hA hH he2 hK) (g_rm (by omega)) (Nat.le_of_ble_eq_true rfl) (fun z51 M51 e51 => ?_)
  obtain ⟨rfl, e51⟩ := e51
  have r1 := tk_rng (t := t) he2
  refine g_istore_n2 dX2_readPerson_54 rfl rfl ?_
  refine g_iload_n2 dX2_readPerson_55 rfl ?_
  refine g_iconstI dX2_readPerson_56 rfl rfl (fun w56 h56 => ?_)
  refine g_icmp_neI (t := 66) dX2_readPerson_57 (by decide) rfl (fun c57 => ?_) (fun c57 => ?_)
  · -- 57 t
    have heq1 : pOne t n T e = pBd (if kindW t n e2 = 3 then pNum t n (tkE t n e2) 0 11 else if kindW t n e2 = 4 then pNum t n (tkE t n e2) 0 99 else .inr (0, tkE t n e2)) (fun g e3 => .inr (addPT T (kindW t n e2) g s, e3)) := by rw [heq, if_neg (by omega)]
    refine g_aload_n0 dX2_readPerson_66 rfl ?_
    refine g_callVv0 dX2_readPerson_67 rfl vX2_66 hA.1 rfl (c_step hA hH r1.2.2.1 hK.1) (g_rm (by omega)) (Nat.le_of_ble_eq_true rfl) (fun M67 e67 => ?_)
    refine g_iconstI dX2_readPerson_70 rfl rfl (fun w70 h70 => ?_)
    refine g_istore_n3 dX2_readPerson_71 rfl rfl ?_
    refine g_iload_n2 dX2_readPerson_72 rfl ?_
    refine g_iconstI dX2_readPerson_73 rfl rfl (fun w73 h73 => ?_)
    refine g_icmp_eqI (t := 82) dX2_readPerson_74 (by decide) rfl (fun c74 => ?_) (fun c74 => ?_)
    · -- 74 t
      refine g_aload_n0 dX2_readPerson_82 rfl ?_
      refine g_iconstI dX2_readPerson_83 rfl rfl (fun w83 h83 => ?_)
      refine g_iload_n2 dX2_readPerson_84 rfl ?_
      refine g_iconstI dX2_readPerson_85 rfl rfl (fun w85 h85 => ?_)
      refine g_icmp_neI (t := 94) dX2_readPerson_86 (by decide) rfl (fun c86 => ?_) (fun c86 => ?_)
      · -- 86 t
        refine g_bipushI dX2_readPerson_94 rfl rfl (fun w94 h94 => ?_)
        refine g_callVi2 dX2_readPerson_96 rfl vX2_120 hA.1 rfl (c_takeNumber hA (hH.k e67.1) r1.2.2.1 e67.2.1) (g_rm (by omega)) (Nat.le_of_ble_eq_true rfl) (fun z96 M96 e96 => ?_)
        rcases e96 with ⟨q, a1, a2, a3, a4⟩ | ⟨v, e3, a1, a2, a3, a4, a5, a6⟩
        · rw [h83] at a1
          have hx : (if kindW t n e2 = 3 then pNum t n (tkE t n e2) 0 11 else if kindW t n e2 = 4 then pNum t n (tkE t n e2) 0 99 else .inr (0, tkE t n e2)) = .inl q := by
            first
              | (rw [if_pos (by omega)]; rw [h89] at a1; exact a1)
              | (rw [if_neg (by omega), if_pos (by omega)]; rw [h94] at a1; exact a1)
          refine g_if_neI (t := 104) dX2_readPerson_99 (by decide) rfl (fun c99 => absurd a2 c99) (fun _ => ?_)
          refine g_iconstI dX2_readPerson_102 rfl rfl (fun w102 h102 => ?_)
          refine g_zretI dX2_readPerson_103 rfl (by omega) ?_
          exact ⟨_, rfl, Or.inl ⟨q, by rw [heq1, hx]; rfl, h102, a3, by rw [a4.tv, e67.1.tv, hT]; exact hV, frE.tr hF (frE.tr e67.1.d a4.d)⟩⟩
        · rw [h83] at a1
          have hx : (if kindW t n e2 = 3 then pNum t n (tkE t n e2) 0 11 else if kindW t n e2 = 4 then pNum t n (tkE t n e2) 0 99 else .inr (0, tkE t n e2)) = .inr (v, e3) := by
            first
              | (rw [if_pos (by omega)]; rw [h89] at a1; exact a1)
              | (rw [if_neg (by omega), if_pos (by omega)]; rw [h94] at a1; exact a1)
          refine g_if_neI (t := 104) dX2_readPerson_99 (by decide) rfl (fun c99 => ?_) (fun q => by omega)
          refine g_aload_n0 dX2_readPerson_104 rfl ?_
          refine g_geti dX2_readPerson_105 rfl fX2_54 hA.1 rfl ?_
          refine g_istore_n3 dX2_readPerson_108 rfl rfl ?_
          exact l_rp3 hA ((hH.k e67.1).k a6) (by rw [a6.tv, e67.1.tv]; exact hT) hV (frE.tr hF (frE.tr e67.1.d a6.d)) h6 e51 a3 hs a5 a4 (by rw [heq1, hx]; rfl)
      · -- 86 f
        refine g_bipushI dX2_readPerson_89 rfl rfl (fun w89 h89 => ?_)
        refine g_goto (t := 96) dX2_readPerson_91 (by decide) ?_
        refine g_callVi2 dX2_readPerson_96 rfl vX2_120 hA.1 rfl (c_takeNumber hA (hH.k e67.1) r1.2.2.1 e67.2.1) (g_rm (by omega)) (Nat.le_of_ble_eq_true rfl) (fun z96 M96 e96 => ?_)
        rcases e96 with ⟨q, a1, a2, a3, a4⟩ | ⟨v, e3, a1, a2, a3, a4, a5, a6⟩
        · rw [h83] at a1
          have hx : (if kindW t n e2 = 3 then pNum t n (tkE t n e2) 0 11 else if kindW t n e2 = 4 then pNum t n (tkE t n e2) 0 99 else .inr (0, tkE t n e2)) = .inl q := by
            first
              | (rw [if_pos (by omega)]; rw [h89] at a1; exact a1)
              | (rw [if_neg (by omega), if_pos (by omega)]; rw [h94] at a1; exact a1)
          refine g_if_neI (t := 104) dX2_readPerson_99 (by decide) rfl (fun c99 => absurd a2 c99) (fun _ => ?_)
          refine g_iconstI dX2_readPerson_102 rfl rfl (fun w102 h102 => ?_)
          refine g_zretI dX2_readPerson_103 rfl (by omega) ?_
          exact ⟨_, rfl, Or.inl ⟨q, by rw [heq1, hx]; rfl, h102, a3, by rw [a4.tv, e67.1.tv, hT]; exact hV, frE.tr hF (frE.tr e67.1.d a4.d)⟩⟩
        · rw [h83] at a1
          have hx : (if kindW t n e2 = 3 then pNum t n (tkE t n e2) 0 11 else if kindW t n e2 = 4 then pNum t n (tkE t n e2) 0 99 else .inr (0, tkE t n e2)) = .inr (v, e3) := by
            first
              | (rw [if_pos (by omega)]; rw [h89] at a1; exact a1)
              | (rw [if_neg (by omega), if_pos (by omega)]; rw [h94] at a1; exact a1)
          refine g_if_neI (t := 104) dX2_readPerson_99 (by decide) rfl (fun c99 => ?_) (fun q => by omega)
          refine g_aload_n0 dX2_readPerson_104 rfl ?_
          refine g_geti dX2_readPerson_105 rfl fX2_54 hA.1 rfl ?_
          refine g_istore_n3 dX2_readPerson_108 rfl rfl ?_
          exact l_rp3 hA ((hH.k e67.1).k a6) (by rw [a6.tv, e67.1.tv]; exact hT) hV (frE.tr hF (frE.tr e67.1.d a6.d)) h6 e51 a3 hs a5 a4 (by rw [heq1, hx]; rfl)
    · -- 74 f
      refine g_iload_n2 dX2_readPerson_77 rfl ?_
      refine g_iconstI dX2_readPerson_78 rfl rfl (fun w78 h78 => ?_)
      refine g_icmp_neI (t := 109) dX2_readPerson_79 (by decide) rfl (fun c79 => ?_) (fun c79 => ?_)
      · -- 79 t
        exact l_rp3 hA (hH.k e67.1) (by rw [e67.1.tv]; exact hT) hV (frE.tr hF e67.1.d) h6 e51 h70 hs r1.2.2.1 e67.2.1 (by rw [heq1, if_neg (by omega), if_neg (by omega)]; rfl)
      · -- 79 f
        refine g_aload_n0 dX2_readPerson_82 rfl ?_
        refine g_iconstI dX2_readPerson_83 rfl rfl (fun w83 h83 => ?_)
        refine g_iload_n2 dX2_readPerson_84 rfl ?_
        refine g_iconstI dX2_readPerson_85 rfl rfl (fun w85 h85 => ?_)
        refine g_icmp_neI (t := 94) dX2_readPerson_86 (by decide) rfl (fun c86 => ?_) (fun c86 => ?_)
        · -- 86 t
          refine g_bipushI dX2_readPerson_94 rfl rfl (fun w94 h94 => ?_)
          refine g_callVi2 dX2_readPerson_96 rfl vX2_120 hA.1 rfl (c_takeNumber hA (hH.k e67.1) r1.2.2.1 e67.2.1) (g_rm (by omega)) (Nat.le_of_ble_eq_true rfl) (fun z96 M96 e96 => ?_)
          rcases e96 with ⟨q, a1, a2, a3, a4⟩ | ⟨v, e3, a1, a2, a3, a4, a5, a6⟩
          · rw [h83] at a1
            have hx : (if kindW t n e2 = 3 then pNum t n (tkE t n e2) 0 11 else if kindW t n e2 = 4 then pNum t n (tkE t n e2) 0 99 else .inr (0, tkE t n e2)) = .inl q := by
              first
                | (rw [if_pos (by omega)]; rw [h89] at a1; exact a1)
                | (rw [if_neg (by omega), if_pos (by omega)]; rw [h94] at a1; exact a1)
            refine g_if_neI (t := 104) dX2_readPerson_99 (by decide) rfl (fun c99 => absurd a2 c99) (fun _ => ?_)
            refine g_iconstI dX2_readPerson_102 rfl rfl (fun w102 h102 => ?_)
            refine g_zretI dX2_readPerson_103 rfl (by omega) ?_
            exact ⟨_, rfl, Or.inl ⟨q, by rw [heq1, hx]; rfl, h102, a3, by rw [a4.tv, e67.1.tv, hT]; exact hV, frE.tr hF (frE.tr e67.1.d a4.d)⟩⟩
          · rw [h83] at a1
            have hx : (if kindW t n e2 = 3 then pNum t n (tkE t n e2) 0 11 else if kindW t n e2 = 4 then pNum t n (tkE t n e2) 0 99 else .inr (0, tkE t n e2)) = .inr (v, e3) := by
              first
                | (rw [if_pos (by omega)]; rw [h89] at a1; exact a1)
                | (rw [if_neg (by omega), if_pos (by omega)]; rw [h94] at a1; exact a1)
            refine g_if_neI (t := 104) dX2_readPerson_99 (by decide) rfl (fun c99 => ?_) (fun q => by omega)
            refine g_aload_n0 dX2_readPerson_104 rfl ?_
            refine g_geti dX2_readPerson_105 rfl fX2_54 hA.1 rfl ?_
            refine g_istore_n3 dX2_readPerson_108 rfl rfl ?_
            exact l_rp3 hA ((hH.k e67.1).k a6) (by rw [a6.tv, e67.1.tv]; exact hT) hV (frE.tr hF (frE.tr e67.1.d a6.d)) h6 e51 a3 hs a5 a4 (by rw [heq1, hx]; rfl)
        · -- 86 f
          refine g_bipushI dX2_readPerson_89 rfl rfl (fun w89 h89 => ?_)
          refine g_goto (t := 96) dX2_readPerson_91 (by decide) ?_
          refine g_callVi2 dX2_readPerson_96 rfl vX2_120 hA.1 rfl (c_takeNumber hA (hH.k e67.1) r1.2.2.1 e67.2.1) (g_rm (by omega)) (Nat.le_of_ble_eq_true rfl) (fun z96 M96 e96 => ?_)
          rcases e96 with ⟨q, a1, a2, a3, a4⟩ | ⟨v, e3, a1, a2, a3, a4, a5, a6⟩
          · rw [h83] at a1
            have hx : (if kindW t n e2 = 3 then pNum t n (tkE t n e2) 0 11 else if kindW t n e2 = 4 then pNum t n (tkE t n e2) 0 99 else .inr (0, tkE t n e2)) = .inl q := by
              first
                | (rw [if_pos (by omega)]; rw [h89] at a1; exact a1)
                | (rw [if_neg (by omega), if_pos (by omega)]; rw [h94] at a1; exact a1)
            refine g_if_neI (t := 104) dX2_readPerson_99 (by decide) rfl (fun c99 => absurd a2 c99) (fun _ => ?_)
            refine g_iconstI dX2_readPerson_102 rfl rfl (fun w102 h102 => ?_)
            refine g_zretI dX2_readPerson_103 rfl (by omega) ?_
            exact ⟨_, rfl, Or.inl ⟨q, by rw [heq1, hx]; rfl, h102, a3, by rw [a4.tv, e67.1.tv, hT]; exact hV, frE.tr hF (frE.tr e67.1.d a4.d)⟩⟩
          · rw [h83] at a1
            have hx : (if kindW t n e2 = 3 then pNum t n (tkE t n e2) 0 11 else if kindW t n e2 = 4 then pNum t n (tkE t n e2) 0 99 else .inr (0, tkE t n e2)) = .inr (v, e3) := by
              first
                | (rw [if_pos (by omega)]; rw [h89] at a1; exact a1)
                | (rw [if_neg (by omega), if_pos (by omega)]; rw [h94] at a1; exact a1)
            refine g_if_neI (t := 104) dX2_readPerson_99 (by decide) rfl (fun c99 => ?_) (fun q => by omega)
            refine g_aload_n0 dX2_readPerson_104 rfl ?_
            refine g_geti dX2_readPerson_105 rfl fX2_54 hA.1 rfl ?_
            refine g_istore_n3 dX2_readPerson_108 rfl rfl ?_
            exact l_rp3 hA ((hH.k e67.1).k a6) (by rw [a6.tv, e67.1.tv]; exact hT) hV (frE.tr hF (frE.tr e67.1.d a6.d)) h6 e51 a3 hs a5 a4 (by rw [heq1, hx]; rfl)
  · -- 57 f
    have heq1 : pOne t n T e = .inl (1, (tkB t n e2 : Int)) := by rw [heq, if_pos (by omega)]
    refine g_aload_n0 dX2_readPerson_60 rfl ?_
    refine g_iconstI dX2_readPerson_61 rfl rfl (fun w61 h61 => ?_)
    refine g_callVi1 dX2_readPerson_62 rfl vX2_108 hA.1 rfl (c_refuse hA) (g_rm (by omega)) (Nat.le_of_ble_eq_true rfl) (fun z62 M62 e62 => ?_)
    refine g_zretI dX2_readPerson_65 rfl (by have := e62.1; omega) ?_
    exact ⟨_, rfl, Or.inl ⟨_, heq1, e62.1, by rw [e62.2]; exact ⟨by rw [g_u_eq, if_pos rfl]; exact h61, by rw [g_u_eq, if_neg (by decide)]; exact hK.2.2.1⟩, by rw [e62.2, (frK.u (by decide)).tv, hT]; exact hV, frE.tr hF (by rw [e62.2]; exact (frK.u (by decide)).d)⟩⟩
set_option maxHeartbeats 1200000 in
theorem c_readPerson {Γ : gW} {t : Nat → Int} {n e : Nat} {T : gTw} {M : gM} (hA : g_Tape Γ) (hH : HTc t n M) (he : e ≤ n) (hK : TKc t n e M) (hT : tv M 160 = T) (hV : PIV T)  : Ct Γ yX2_readPerson μX2_readPerson 6 [.ref 230] M (g_qi (fun z M1 => (∃ q, pOne t n T e = .inl q ∧ z.toInt = 0 ∧ ERc q M1 ∧ PIV (tv M1 160) ∧ frE M M1) ∨ (∃ T1 e1, pOne t n T e = .inr (T1, e1) ∧ z.toInt = 1 ∧ tv M1 160 = T1 ∧ TKc t n e1 M1 ∧ e1 ≤ n ∧ frE M M1))) := by
  have b0 := hV.1.1
  have t00 : (M.1 160 0).toInt = T 0 0 := by rw [← hT]; exact (tv0 (by decide)).symm
  have x7 := hH.2.1
  have r0 := tk_rng (t := t) he
  have r00 := tk_rng (t := t) r0.2.2.1
  refine g_enter rfl rfl rfl (Nat.le_of_ble_eq_true rfl) ?_
  show G Γ _ _ _ _ 0 [some (.ref 230), none, none, none] [] M
  refine g_aload_n0 dX2_readPerson_0 rfl ?_
  refine g_getr dX2_readPerson_1 rfl fX2_12 hA.1 rfl ?_
  refine g_geti dX2_readPerson_4 rfl fX2_112 hA.2.2.1 rfl ?_
  refine g_bipushI dX2_readPerson_7 rfl rfl (fun w7 h7 => ?_)
  refine g_icmp_ltI (t := 18) dX2_readPerson_9 (by decide) rfl (fun c9 => ?_) (fun c9 => ?_)
  · -- 9 t
    have heq0 : pOne t n T e = pBd (pIf t n (tkE t n e) w_sand (pNum t n (tkE t n (tkE t n e)) 0 99) (.inr (0, tkE t n e))) (fun s e2 => if kindW t n e2 = -1 then .inl (1, tkB t n e2) else pBd (if kindW t n e2 = 3 then pNum t n (tkE t n e2) 0 11 else if kindW t n e2 = 4 then pNum t n (tkE t n e2) 0 99 else .inr (0, tkE t n e2)) (fun g e3 => .inr (addPT T (kindW t n e2) g s, e3))) := by rw [pOne, if_neg (by omega)]
    refine g_aload_n0 dX2_readPerson_18 rfl ?_
    refine g_callVv0 dX2_readPerson_19 rfl vX2_66 hA.1 rfl (c_step hA hH r0.2.2.1 hK.1) (g_rm (by omega)) (Nat.le_of_ble_eq_true rfl) (fun M19 e19 => ?_)
    refine g_iconstI dX2_readPerson_22 rfl rfl (fun w22 h22 => ?_)
    refine g_istore_n1 dX2_readPerson_23 rfl rfl ?_
    refine g_aload_n0 dX2_readPerson_24 rfl ?_
    refine g_ldcS (c := 1) dX2_readPerson_25 rfl rfl ?_
    refine g_callVi1 dX2_readPerson_27 rfl vX2_117 hA.1 rfl (c_skipWord (c := 1) hA (hH.k e19.1) r0.2.2.1 e19.2.1 rfl) (g_rm (by omega)) (Nat.le_of_ble_eq_true rfl) (fun z27 M27 e27 => ?_)
    refine g_if_eqI (t := 50) dX2_readPerson_30 (by decide) rfl (fun c30 => ?_) (fun c30 => ?_)
    · -- 30 t
      obtain ⟨hnw, hM27⟩ : ¬ isW t n (tkE t n e) w_sand ∧ M27 = M19 := by
        rcases e27 with ⟨a, b, c, d⟩ | ⟨a, b, c⟩
        · omega
        · exact ⟨a, c⟩
      clear e27
      subst M27
      exact l_rp2 hA (hH.k e19.1) (by rw [e19.1.tv]; exact hT) hV e19.1.d (by omega) h22 r0.2.2.1 e19.2.1 (by rw [heq0, pIf_neg hnw]; rfl)
    · -- 30 f
      obtain ⟨hy, hK27, hf27⟩ : isW t n (tkE t n e) w_sand ∧ TKc t n (tkE t n (tkE t n e)) M27 ∧ frK M19 M27 := by
        rcases e27 with ⟨a, b, c, d⟩ | ⟨a, b, c⟩
        · exact ⟨a, c, d⟩
        · omega
      clear e27
      refine g_aload_n0 dX2_readPerson_33 rfl ?_
      refine g_iconstI dX2_readPerson_34 rfl rfl (fun w34 h34 => ?_)
      refine g_bipushI dX2_readPerson_35 rfl rfl (fun w35 h35 => ?_)
      refine g_callVi2 dX2_readPerson_37 rfl vX2_120 hA.1 rfl (c_takeNumber hA ((hH.k e19.1).k hf27) r00.2.2.1 hK27) (g_rm (by omega)) (Nat.le_of_ble_eq_true rfl) (fun z37 M37 e37 => ?_)
      rw [h34, h35] at e37
      rcases e37 with ⟨q, a1, a2, a3, a4⟩ | ⟨v, e3, a1, a2, a3, a4, a5, a6⟩
      · refine g_if_neI (t := 45) dX2_readPerson_40 (by decide) rfl (fun c40 => absurd a2 c40) (fun _ => ?_)
        refine g_iconstI dX2_readPerson_43 rfl rfl (fun w43 h43 => ?_)
        refine g_zretI dX2_readPerson_44 rfl (by omega) ?_
        exact ⟨_, rfl, Or.inl ⟨q, by rw [heq0, pIf_pos hy, a1]; rfl, h43, a3, by rw [a4.tv, hf27.tv, e19.1.tv, hT]; exact hV, frE.tr e19.1.d (frE.tr hf27.d a4.d)⟩⟩
      · refine g_if_neI (t := 45) dX2_readPerson_40 (by decide) rfl (fun c40 => ?_) (fun q => by omega)
        refine g_aload_n0 dX2_readPerson_45 rfl ?_
        refine g_geti dX2_readPerson_46 rfl fX2_54 hA.1 rfl ?_
        refine g_istore_n1 dX2_readPerson_49 rfl rfl ?_
        exact l_rp2 hA (((hH.k e19.1).k hf27).k a6) (by rw [a6.tv, hf27.tv, e19.1.tv]; exact hT) hV (frE.tr e19.1.d (frE.tr hf27.d a6.d)) (by omega) a3 a5 a4 (by rw [heq0, pIf_pos hy, a1]; rfl)
  · -- 9 f
    have heq1 : pOne t n T e = .inl (2, (tkB t n e : Int)) := by rw [pOne, if_pos (by omega)]
    refine g_aload_n0 dX2_readPerson_12 rfl ?_
    refine g_iconstI dX2_readPerson_13 rfl rfl (fun w13 h13 => ?_)
    refine g_callVi1 dX2_readPerson_14 rfl vX2_108 hA.1 rfl (c_refuse hA) (g_rm (by omega)) (Nat.le_of_ble_eq_true rfl) (fun z14 M14 e14 => ?_)
    refine g_zretI dX2_readPerson_17 rfl (by have := e14.1; omega) ?_
    exact ⟨_, rfl, Or.inl ⟨_, heq1, e14.1, by rw [e14.2]; exact ⟨by rw [g_u_eq, if_pos rfl]; exact h13, by rw [g_u_eq, if_neg (by decide)]; exact hK.2.2.1⟩, by rw [e14.2, (frK.u (by decide)).tv, hT]; exact hV, by rw [e14.2]; exact (frK.u (by decide)).d⟩⟩
