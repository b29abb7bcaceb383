theorem PBy.feed {M M1 M2 : gM} {p n : Nat} {f g : Nat → Int} (h : PBy M M1 p n f) (h2 : PBy M1 M2 (p + n) 4 g) : PBy M M2 p (n + 4) (fun i => if i < n then f i else g (i - n)) := by
  obtain ⟨a1, a2, a3, a4, a5, a6⟩ := h
  obtain ⟨b1, b2, b3, b4, b5, b6⟩ := h2
  refine ⟨fun j q1 q2 => by rw [b1 j q1 q2, a1 j q1 q2], by rw [b2, a2], fun q hq => by rw [b3 q hq, a3 q hq], by rw [b4]; omega, fun i hi => ?_, fun q hq => by rw [b6 q (by omega), a6 q (by omega)]⟩
  show _ = sgn8 (if i < n then f i else g (i - n))
  by_cases hin : i < n
  · rw [if_pos hin, b6 _ (by omega)]; exact a5 i hin
  · rw [if_neg hin]
    have := b5 (i - n) (by omega)
    rw [show p + n + (i - n) = p + i by omega] at this
    exact this
theorem PBy.ext {M M1 : gM} {p n : Nat} {f g : Nat → Int} (h : PBy M M1 p n f) (e : ∀ i, i < n → f i = g i) : PBy M M1 p n g := ⟨h.1, h.2.1, h.2.2.1, h.2.2.2.1, fun i hi => by rw [h.2.2.2.2.1 i hi, e i hi], h.2.2.2.2.2⟩
set_option maxHeartbeats 1200000 in
theorem x_feed {Γ : gW} {gt : Option Nat} {M : gM} (hA : g_HG Γ gt) {a b c d e : Int32} {p : Nat} (hf : 0 ≤ (M.1 230 2).toInt ∧ (M.1 230 2).toInt ≤ 700) (hfed0 : (M.1 230 2).toInt = (p : Int)) : Ct Γ yX5_feed μX5_feed 1 [.ref 0, .int a, .int b, .int c, .int d, .int e] M (g_qi (fun z M1 => (700 < p + 20 ∧ z.toInt = -1 ∧ M1 = M) ∨ (p + 20 ≤ 700 ∧ z.toInt = (p : Int) + 20 ∧ PBy M M1 p 20 (feB a b c d e)))) := by
  have hfed : (M.1 230 2).toInt = ((p + 0 : Nat) : Int) := hfed0
  refine g_enter rfl rfl rfl (Nat.le_of_ble_eq_true rfl) ?_
  show G Γ _ _ _ _ 0 [some (.ref 0), some (.int a), some (.int b), some (.int c), some (.int d), some (.int e)] [] M
  refine g_aload_n0 dX5_feed_0 rfl ?_
  refine g_getr dX5_feed_1 rfl fX5_52 hA.1 rfl ?_
  refine g_bipushI dX5_feed_4 rfl rfl (fun w4 h4 => ?_)
  refine g_callVi1 dX5_feed_6 rfl vX5_83 (hg_tape hA).1 rfl (c_hasRoom (hg_tape hA) (by omega) hf) (g_rm (by omega)) (Nat.le_of_ble_eq_true rfl) (fun z6 M6 e6 => ?_)
  obtain ⟨rfl, e6, f6⟩ := e6
  refine g_if_neI (t := 14) dX5_feed_9 (by decide) rfl (fun c9 => ?_) (fun c9 => ?_)
  · -- 9 t
    have hroom := f6.mp (by omega)
    clear f6 e6
    refine g_aload_n0 dX5_feed_14 rfl ?_
    refine g_getr dX5_feed_15 rfl fX5_52 hA.1 rfl ?_
    refine g_iload_n1 dX5_feed_18 rfl ?_
    refine g_callVv1 dX5_feed_19 rfl vX5_87 (hg_tape hA).1 rfl (c_putBytes (p := p + 0) (hg_tape hA) hfed (by omega)) (g_rm (by omega)) (Nat.le_of_ble_eq_true rfl) (fun M19 e19 => ?_)
    have f19 : (M19.1 230 2).toInt = ((p + 4 : Nat) : Int) := by rw [e19.2.2.2.1]; omega
    have t19 := e19
    refine g_aload_n0 dX5_feed_22 rfl ?_
    refine g_getr dX5_feed_23 rfl fX5_52 hA.1 rfl ?_
    refine g_iload_n2 dX5_feed_26 rfl ?_
    refine g_callVv1 dX5_feed_27 rfl vX5_87 (hg_tape hA).1 rfl (c_putBytes (p := p + 4) (hg_tape hA) f19 (by omega)) (g_rm (by omega)) (Nat.le_of_ble_eq_true rfl) (fun M27 e27 => ?_)
    have f27 : (M27.1 230 2).toInt = ((p + 8 : Nat) : Int) := by rw [e27.2.2.2.1]; omega
    have t27 := PBy.feed t19 e27
    refine g_aload_n0 dX5_feed_30 rfl ?_
    refine g_getr dX5_feed_31 rfl fX5_52 hA.1 rfl ?_
    refine g_iload_n3 dX5_feed_34 rfl ?_
    refine g_callVv1 dX5_feed_35 rfl vX5_87 (hg_tape hA).1 rfl (c_putBytes (p := p + 8) (hg_tape hA) f27 (by omega)) (g_rm (by omega)) (Nat.le_of_ble_eq_true rfl) (fun M35 e35 => ?_)
    have f35 : (M35.1 230 2).toInt = ((p + 12 : Nat) : Int) := by rw [e35.2.2.2.1]; omega
    have t35 := PBy.feed t27 e35
    refine g_aload_n0 dX5_feed_38 rfl ?_
    refine g_getr dX5_feed_39 rfl fX5_52 hA.1 rfl ?_
    refine g_iload4 dX5_feed_42 rfl ?_
    refine g_callVv1 dX5_feed_44 rfl vX5_87 (hg_tape hA).1 rfl (c_putBytes (p := p + 12) (hg_tape hA) f35 (by omega)) (g_rm (by omega)) (Nat.le_of_ble_eq_true rfl) (fun M44 e44 => ?_)
    have f44 : (M44.1 230 2).toInt = ((p + 16 : Nat) : Int) := by rw [e44.2.2.2.1]; omega
    have t44 := PBy.feed t35 e44
    refine g_aload_n0 dX5_feed_47 rfl ?_
    refine g_getr dX5_feed_48 rfl fX5_52 hA.1 rfl ?_
    refine g_iload5 dX5_feed_51 rfl ?_
    refine g_callVv1 dX5_feed_53 rfl vX5_87 (hg_tape hA).1 rfl (c_putBytes (p := p + 16) (hg_tape hA) f44 (by omega)) (g_rm (by omega)) (Nat.le_of_ble_eq_true rfl) (fun M53 e53 => ?_)
    have f53 : (M53.1 230 2).toInt = ((p + 20 : Nat) : Int) := by rw [e53.2.2.2.1]; omega
    have t53 := PBy.feed t44 e53
    refine g_aload_n0 dX5_feed_56 rfl ?_
    refine g_getr dX5_feed_57 rfl fX5_52 hA.1 rfl ?_
    refine g_callVi0 dX5_feed_60 rfl vX5_91 (hg_tape hA).1 rfl (c_tpLength (hg_tape hA)) (g_rm (by omega)) (Nat.le_of_ble_eq_true rfl) (fun z60 M60 e60 => ?_)
    obtain ⟨hMM, e60⟩ := e60
    subst M60
    refine g_iret dX5_feed_63 rfl ?_
    refine ⟨_, rfl, Or.inr ⟨by omega, by rw [e60]; omega, PBy.ext t53 (fun i hi => ?_)⟩⟩
    show (if i < 0 + 4 + 4 + 4 + 4 then _ else _) = _
    simp only [feB, feW]
    by_cases h1 : i < 4
    · rw [if_pos (by omega), if_pos (by omega), if_pos (by omega), if_pos (by omega), if_pos h1, Nat.mod_eq_of_lt h1]
    · by_cases h2 : i < 8
      · rw [if_pos (by omega), if_pos (by omega), if_pos (by omega), if_neg (by omega), if_neg h1, if_pos h2, show i - 4 = i % 4 by omega]
      · by_cases h3 : i < 12
        · rw [if_pos (by omega), if_pos (by omega), if_neg (by omega), if_neg h1, if_neg h2, if_pos h3, show i - (4 + 4) = i % 4 by omega]
        · by_cases h4 : i < 16
          · rw [if_pos (by omega), if_neg (by omega), if_neg h1, if_neg h2, if_neg h3, if_pos h4, show i - (4 + 4 + 4) = i % 4 by omega]
          · rw [if_neg (by omega), if_neg h1, if_neg h2, if_neg h3, if_neg h4, show i - (4 + 4 + 4 + 4) = i % 4 by omega]
  · -- 9 f
    have hroom : ¬ (M6.1 230 2).toInt + w4.toInt ≤ 700 := fun q => by have := f6.mpr q; omega
    clear f6 e6
    refine g_iconstI dX5_feed_12 rfl rfl (fun w12 h12 => ?_)
    refine g_iret dX5_feed_13 rfl ?_
    exact ⟨_, rfl, Or.inl ⟨by omega, h12, rfl⟩⟩
set_option maxHeartbeats 1200000 in
theorem x_judge {Γ : gW} {gt : Option Nat} {M : gM} (hA : g_HG Γ gt) {g s n k : Int32} (hB : TB M 100) : Ct Γ yX5_judge μX5_judge 2 [.ref 0, .int g, .int s, .int n, .int k] M (g_qi (fun z M1 => M1 = M ∧ z.toInt = troub M 100 g.toInt s.toInt n.toInt k.toInt)) := by
  refine g_enter rfl rfl rfl (Nat.le_of_ble_eq_true rfl) ?_
  show G Γ _ _ _ _ 0 [some (.ref 0), some (.int g), some (.int s), some (.int n), some (.int k)] [] M
  refine g_aload_n0 dX5_judge_0 rfl ?_
  refine g_getr dX5_judge_1 rfl fX5_10 hA.1 rfl ?_
  refine g_iload_n1 dX5_judge_4 rfl ?_
  refine g_iload_n2 dX5_judge_5 rfl ?_
  refine g_iload_n3 dX5_judge_6 rfl ?_
  refine g_iload4 dX5_judge_7 rfl ?_
  refine g_callVi4 dX5_judge_9 rfl vX5_171 (hg_town hA).1 rfl (c_troubleOf (hg_town hA) hB) (g_rm (by omega)) (Nat.le_of_ble_eq_true rfl) (fun z9 M9 e9 => ?_)
  obtain ⟨rfl, e9⟩ := e9
  refine g_iret dX5_judge_12 rfl ?_
  exact ⟨_, rfl, rfl, e9⟩
