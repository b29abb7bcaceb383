/-- how many of the first n people owe -/
def owe (T : gTw) : Nat → Nat
  | 0 => 0
  | n + 1 => owe T n + if (n : Int) < T 0 0 ∧ 0 < T 4 n then 1 else 0
theorem owe_le (T : gTw) (n : Nat) : owe T n ≤ n := by
  induction n with
  | zero => exact Nat.le_refl _
  | succ n ih => rw [owe]; split <;> omega
def hwI (T : gTw) (M0 M : gM) (i : Nat) : Prop := (∀ j, j ≠ 300 → j ≠ 428 → j ≠ 429 → M.1 j = M0.1 j) ∧ M.2 = M0.2 ∧ (∀ k, k ≠ 33 → M.1 300 k = M0.1 300 k) ∧ (M.1 300 33).toInt = (owe T i : Int) ∧ ∀ p : Nat, p < i → (p : Int) < T 0 0 → (M.1 428 p).toInt = T 4 p ∧ (M.1 429 p).toInt = T 5 p
theorem hwI.step {T : gTw} {M0 M : gM} {i : Nat} {x y w : Int32} (h : hwI T M0 M i) (hx : (i : Int) < T 0 0 → x.toInt = T 4 i ∧ y.toInt = T 5 i) (hw : w.toInt = (owe T (i + 1) : Int)) : hwI T M0 (g_u (g_u (g_u M 428 i x) 429 i y) 300 33 w) (i + 1) := by
  obtain ⟨a, b, c, d, e⟩ := h
  refine ⟨fun j q1 q2 q3 => ?_, b, fun k q => ?_, ?_, fun p hp hp2 => ?_⟩
  · rw [g_u_ne q1, g_u_ne q3, g_u_ne q2]; exact a j q1 q2 q3
  · rw [g_u_eq, if_neg q, g_u_ne (by decide), g_u_ne (by decide)]; exact c k q
  · rw [g_u_eq, if_pos rfl]; exact hw
  · rw [g_u_ne (show (428 : Nat) ≠ 300 by decide), g_u_ne (show (428 : Nat) ≠ 429 by decide), g_u_eq, g_u_ne (show (429 : Nat) ≠ 300 by decide), g_u_eq, g_u_ne (show (429 : Nat) ≠ 428 by decide)]
    by_cases h1 : p = i
    · rw [if_pos h1, if_pos h1, h1]; exact hx (by omega)
    · rw [if_neg h1, if_neg h1]; exact e p (by omega) hp2
set_option maxHeartbeats 1200000 in
theorem l_week1 {Γ : gW} {M0 : gM} {T : gTw} (hR : g_Ref Γ) (hI : INV T) (hS : RS T M0) {wh : Int32} {d : Nat} {Q : Option Value → gM → Prop} (hk : ∀ (i : Int32) (M : gM), hwI T M0 M 6 → G Γ μX6_week (g_R d) (0, 0) (g_Z Γ Q) 106 [some (.ref 300), some (.int wh), some (.int i)] [] M) : ∀ (n9 : Nat) (i : Int32) (M : gM), 6 - i.toInt.toNat = n9 → 0 ≤ i.toInt → i.toInt ≤ 6 → hwI T M0 M i.toInt.toNat → G Γ μX6_week (g_R d) (0, 0) (g_Z Γ Q) 27 [some (.ref 300), some (.int wh), some (.int i)] [] M := by
  intro n9
  induction n9 using Nat.strongRecOn with
  | ind n9 ih =>
    intro i M h9 hi0 hi1 hh
    have hO := hI.1
    obtain ⟨hC, hW, hA, hDy, hWe⟩ := id hS
    have e407 := hh.1 407 (by decide) (by decide) (by decide)
    have e402 := hh.1 402 (by decide) (by decide) (by decide)
    have e33 := hh.2.2.2.1
    have hle := owe_le T i.toInt.toNat
    have hst : (owe T (i.toInt.toNat + 1) : Int) = owe T i.toInt.toNat + if (i.toInt.toNat : Int) < T 0 0 ∧ 0 < T 4 i.toInt.toNat then 1 else 0 := by
      rw [owe]; split <;> simp
    have ein : ((i.toInt.toNat : Nat) : Int) = i.toInt := by omega
    obtain ⟨o_pe, o_th, o_la, o_wi, o_da, o_we, o_p, o_i⟩ := id hO
    obtain ⟨r_0, r_1, r_2, r_3, r_p, r_i⟩ := id hC
    clear o_p o_i r_p r_i o_la o_da o_we
    refine g_iload_n2 dX6_week_27 rfl ?_
    refine g_bipushI dX6_week_28 rfl rfl (fun w28 h28 => ?_)
    refine g_icmp_geI (t := 106) dX6_week_30 (by decide) rfl (fun c30 => ?_) (fun c30 => ?_)
    · -- 30 t
      exact hk i M (by rw [show i.toInt.toNat = 6 by omega] at hh; exact hh)
    · -- 30 f
      refine g_aload_n0 dX6_week_33 rfl ?_
      refine g_getr dX6_week_34 rfl fX6_73 hR.1 rfl ?_
      refine g_iload_n2 dX6_week_37 rfl ?_
      refine g_iload_n2 dX6_week_38 rfl ?_
      refine g_aload_n0 dX6_week_39 rfl ?_
      refine g_getr dX6_week_40 rfl fX6_25 hR.1 rfl ?_
      refine g_iconstI dX6_week_43 rfl rfl (fun w43 h43 => ?_)
      refine g_ialdI dX6_week_44 rfl (rf_told hR) ⟨by omega, by omega⟩ ?_
      have et44 : w43.toInt.toNat = 0 := by omega
      rw [et44, e402]
      clear et44
      refine g_icmp_geI (t := 60) dX6_week_45 (by decide) rfl (fun c45 => ?_) (fun c45 => ?_)
      · -- 45 t
        refine g_iconstI dX6_week_60 rfl rfl (fun w60 h60 => ?_)
        refine g_iastI dX6_week_61 rfl (rf_weekOwes hR) ⟨by omega, by omega⟩ ?_
        refine g_aload_n0 dX6_week_62 rfl ?_
        refine g_getr dX6_week_63 rfl fX6_76 hR.1 rfl ?_
        refine g_iload_n2 dX6_week_66 rfl ?_
        refine g_aload_n0 dX6_week_67 rfl ?_
        refine g_getr dX6_week_68 rfl fX6_41 hR.1 rfl ?_
        refine g_bipushI dX6_week_71 rfl rfl (fun w71 h71 => ?_)
        refine g_iload_n2 dX6_week_73 rfl ?_
        refine g_iaddI dX6_week_74 rfl ⟨by omega, by omega⟩ (fun w74 h74 => ?_)
        refine g_ialdI dX6_week_75 rfl (rf_now hR) ⟨by omega, by omega⟩ ?_
        rw [g_u_ne (show 407 ≠ 428 by omega)]
        have et75 : w74.toInt.toNat = 24 + i.toInt.toNat := by omega
        rw [et75, e407]
        clear et75
        refine g_iastI dX6_week_76 rfl (rf_weekTo hR) ⟨by omega, by omega⟩ ?_
        refine g_aload_n0 dX6_week_77 rfl ?_
        refine g_dup dX6_week_78 rfl rfl ?_
        refine g_geti dX6_week_79 rfl fX6_324 hR.1 rfl ?_
        rw [g_u_ne (show 300 ≠ 429 by omega)]
        rw [g_u_ne (show 300 ≠ 428 by omega)]
        refine g_aload_n0 dX6_week_82 rfl ?_
        refine g_getr dX6_week_83 rfl fX6_73 hR.1 rfl ?_
        refine g_iload_n2 dX6_week_86 rfl ?_
        refine g_ialdI dX6_week_87 rfl (rf_weekOwes hR) ⟨by omega, by omega⟩ ?_
        rw [g_u_ne (show 428 ≠ 429 by omega)]
        rw [g_u_eq, if_pos rfl]
        refine g_if_leI (t := 95) dX6_week_88 (by decide) rfl (fun c88 => ?_) (fun c88 => ?_)
        · -- 88 t
          refine g_iconstI dX6_week_95 rfl rfl (fun w95 h95 => ?_)
          refine g_iaddI dX6_week_96 rfl ⟨by omega, by omega⟩ (fun w96 h96 => ?_)
          refine g_put dX6_week_97 rfl fX6_324 hR.1 rfl rfl rfl ?_
          refine g_iincI2 dX6_week_100 rfl rfl rfl ⟨by omega, by omega⟩ (fun w100 h100 => ?_)
          refine g_goto (t := 27) dX6_week_103 (by decide) ?_
          have e1 : w100.toInt.toNat = i.toInt.toNat + 1 := by omega
          refine ih _ (by omega) _ _ rfl (by omega) (by omega) ?_
          rw [e1]
          refine hwI.step hh (fun hlt => ?_) ?_
          · first
              | exact ⟨a_o, a_t⟩
              | (exfalso; omega)
          · rw [hst]
            split <;> omega
        · -- 88 f
          refine g_iconstI dX6_week_91 rfl rfl (fun w91 h91 => ?_)
          refine g_goto (t := 96) dX6_week_92 (by decide) ?_
          refine g_iaddI dX6_week_96 rfl ⟨by omega, by omega⟩ (fun w96 h96 => ?_)
          refine g_put dX6_week_97 rfl fX6_324 hR.1 rfl rfl rfl ?_
          refine g_iincI2 dX6_week_100 rfl rfl rfl ⟨by omega, by omega⟩ (fun w100 h100 => ?_)
          refine g_goto (t := 27) dX6_week_103 (by decide) ?_
          have e1 : w100.toInt.toNat = i.toInt.toNat + 1 := by omega
          refine ih _ (by omega) _ _ rfl (by omega) (by omega) ?_
          rw [e1]
          refine hwI.step hh (fun hlt => ?_) ?_
          · first
              | exact ⟨a_o, a_t⟩
              | (exfalso; omega)
          · rw [hst]
            split <;> omega
      · -- 45 f
        obtain ⟨-, a_o, a_t, -⟩ := hA.1 i.toInt.toNat (by omega)
        refine g_aload_n0 dX6_week_48 rfl ?_
        refine g_getr dX6_week_49 rfl fX6_41 hR.1 rfl ?_
        refine g_bipushI dX6_week_52 rfl rfl (fun w52 h52 => ?_)
        refine g_iload_n2 dX6_week_54 rfl ?_
        refine g_iaddI dX6_week_55 rfl ⟨by omega, by omega⟩ (fun w55 h55 => ?_)
        refine g_ialdI dX6_week_56 rfl (rf_now hR) ⟨by omega, by omega⟩ ?_
        have et56 : w55.toInt.toNat = 18 + i.toInt.toNat := by omega
        rw [et56, e407]
        clear et56
        refine g_goto (t := 61) dX6_week_57 (by decide) ?_
        refine g_iastI dX6_week_61 rfl (rf_weekOwes hR) ⟨by omega, by omega⟩ ?_
        refine g_aload_n0 dX6_week_62 rfl ?_
        refine g_getr dX6_week_63 rfl fX6_76 hR.1 rfl ?_
        refine g_iload_n2 dX6_week_66 rfl ?_
        refine g_aload_n0 dX6_week_67 rfl ?_
        refine g_getr dX6_week_68 rfl fX6_41 hR.1 rfl ?_
        refine g_bipushI dX6_week_71 rfl rfl (fun w71 h71 => ?_)
        refine g_iload_n2 dX6_week_73 rfl ?_
        refine g_iaddI dX6_week_74 rfl ⟨by omega, by omega⟩ (fun w74 h74 => ?_)
        refine g_ialdI dX6_week_75 rfl (rf_now hR) ⟨by omega, by omega⟩ ?_
        rw [g_u_ne (show 407 ≠ 428 by omega)]
        have et75 : w74.toInt.toNat = 24 + i.toInt.toNat := by omega
        rw [et75, e407]
        clear et75
        refine g_iastI dX6_week_76 rfl (rf_weekTo hR) ⟨by omega, by omega⟩ ?_
        refine g_aload_n0 dX6_week_77 rfl ?_
        refine g_dup dX6_week_78 rfl rfl ?_
        refine g_geti dX6_week_79 rfl fX6_324 hR.1 rfl ?_
        rw [g_u_ne (show 300 ≠ 429 by omega)]
        rw [g_u_ne (show 300 ≠ 428 by omega)]
        refine g_aload_n0 dX6_week_82 rfl ?_
        refine g_getr dX6_week_83 rfl fX6_73 hR.1 rfl ?_
        refine g_iload_n2 dX6_week_86 rfl ?_
        refine g_ialdI dX6_week_87 rfl (rf_weekOwes hR) ⟨by omega, by omega⟩ ?_
        rw [g_u_ne (show 428 ≠ 429 by omega)]
        rw [g_u_eq, if_pos rfl]
        refine g_if_leI (t := 95) dX6_week_88 (by decide) rfl (fun c88 => ?_) (fun c88 => ?_)
        · -- 88 t
          refine g_iconstI dX6_week_95 rfl rfl (fun w95 h95 => ?_)
          refine g_iaddI dX6_week_96 rfl ⟨by omega, by omega⟩ (fun w96 h96 => ?_)
          refine g_put dX6_week_97 rfl fX6_324 hR.1 rfl rfl rfl ?_
          refine g_iincI2 dX6_week_100 rfl rfl rfl ⟨by omega, by omega⟩ (fun w100 h100 => ?_)
          refine g_goto (t := 27) dX6_week_103 (by decide) ?_
          have e1 : w100.toInt.toNat = i.toInt.toNat + 1 := by omega
          refine ih _ (by omega) _ _ rfl (by omega) (by omega) ?_
          rw [e1]
          refine hwI.step hh (fun hlt => ?_) ?_
          · first
              | exact ⟨a_o, a_t⟩
              | (exfalso; omega)
          · rw [hst]
            split <;> omega
        · -- 88 f
          refine g_iconstI dX6_week_91 rfl rfl (fun w91 h91 => ?_)
          refine g_goto (t := 96) dX6_week_92 (by decide) ?_
          refine g_iaddI dX6_week_96 rfl ⟨by omega, by omega⟩ (fun w96 h96 => ?_)
          refine g_put dX6_week_97 rfl fX6_324 hR.1 rfl rfl rfl ?_
          refine g_iincI2 dX6_week_100 rfl rfl rfl ⟨by omega, by omega⟩ (fun w100 h100 => ?_)
          refine g_goto (t := 27) dX6_week_103 (by decide) ?_
          have e1 : w100.toInt.toNat = i.toInt.toNat + 1 := by omega
          refine ih _ (by omega) _ _ rfl (by omega) (by omega) ?_
          rw [e1]
          refine hwI.step hh (fun hlt => ?_) ?_
          · first
              | exact ⟨a_o, a_t⟩
              | (exfalso; omega)
          · rw [hst]
            split <;> omega
set_option maxHeartbeats 1200000 in
theorem l_week2 {d : Nat} {Γ : gW} {M : gM} (hR : g_Ref Γ) {y1 : Int32} {Q : Option Value → gM → Prop} (hk : ∀ i : Int32, G Γ μX6_week (g_R d) (0, 0) (g_Z Γ Q) 132 [some (.ref 300), some (.int y1), some (.int i)] [] (rowI M 426 (M.1 407) (30))) : ∀ (n9 : Nat) (i : Int32), 30 - i.toInt.toNat = n9 → 0 ≤ i.toInt → i.toInt.toNat ≤ 30 → G Γ μX6_week (g_R d) (0, 0) (g_Z Γ Q) 108 [some (.ref 300), some (.int y1), some (.int i)] [] (rowI M 426 (M.1 407) i.toInt.toNat) := by
  intro n9
  induction n9 using Nat.strongRecOn with
  | ind n9 ih =>
    intro i hn hi0 hi1
    refine g_iload_n2 dX6_week_108 rfl ?_
    refine g_bipushI dX6_week_109 rfl rfl (fun w109 h109 => ?_)
    refine g_icmp_geI (t := 132) dX6_week_111 (by decide) rfl (fun c111 => ?_) (fun c111 => ?_)
    · -- 111 t
      have h := hk i
      rw [show 30 = i.toInt.toNat by omega] at h
      exact h
    · -- 111 f
      refine g_aload_n0 dX6_week_114 rfl ?_
      refine g_getr dX6_week_115 rfl fX6_67 hR.1 rfl ?_
      refine g_iload_n2 dX6_week_118 rfl ?_
      refine g_aload_n0 dX6_week_119 rfl ?_
      refine g_getr dX6_week_120 rfl fX6_41 hR.1 rfl ?_
      refine g_iload_n2 dX6_week_123 rfl ?_
      refine g_ialdI dX6_week_124 rfl (rf_now hR) ⟨by omega, by omega⟩ ?_
      rw [rowI_ne (show (407 : Nat) ≠ 426 by decide)]
      refine g_iastI dX6_week_125 rfl (rf_weekRows hR) ⟨by omega, by omega⟩ ?_
      refine g_iincI2 dX6_week_126 rfl rfl rfl ⟨by omega, by omega⟩ (fun w126 h126 => ?_)
      refine g_goto (t := 108) dX6_week_129 (by decide) ?_
      have h := ih _ (by omega) w126 rfl (by omega) (by omega)
      rw [h126, show (i.toInt + 1).toNat = i.toInt.toNat + 1 by omega, ← rowI_step (x := M.1 407 i.toInt.toNat) rfl] at h
      exact h
set_option maxHeartbeats 1200000 in
theorem l_week3 {d : Nat} {Γ : gW} {M : gM} (hR : g_Ref Γ) (hg : 0 ≤ (M.1 300 33).toInt ∧ (M.1 300 33).toInt ≤ 6) {y1 : Int32} {Q : Option Value → gM → Prop} (hk : ∀ i : Int32, G Γ μX6_week (g_R d) (0, 0) (g_Z Γ Q) 211 [some (.ref 300), some (.int y1), some (.int i)] [] (rowI M 431 (M.1 430) ((M.1 300 33).toInt.toNat))) : ∀ (n9 : Nat) (i : Int32), (M.1 300 33).toInt.toNat - i.toInt.toNat = n9 → 0 ≤ i.toInt → i.toInt.toNat ≤ (M.1 300 33).toInt.toNat → G Γ μX6_week (g_R d) (0, 0) (g_Z Γ Q) 185 [some (.ref 300), some (.int y1), some (.int i)] [] (rowI M 431 (M.1 430) i.toInt.toNat) := by
  intro n9
  induction n9 using Nat.strongRecOn with
  | ind n9 ih =>
    intro i hn hi0 hi1
    refine g_iload_n2 dX6_week_185 rfl ?_
    refine g_aload_n0 dX6_week_186 rfl ?_
    refine g_geti dX6_week_187 rfl fX6_324 hR.1 rfl ?_
    rw [rowI_ne (show (300 : Nat) ≠ 431 by decide)]
    refine g_icmp_geI (t := 211) dX6_week_190 (by decide) rfl (fun c190 => ?_) (fun c190 => ?_)
    · -- 190 t
      have h := hk i
      rw [show (M.1 300 33).toInt.toNat = i.toInt.toNat by omega] at h
      exact h
    · -- 190 f
      refine g_aload_n0 dX6_week_193 rfl ?_
      refine g_getr dX6_week_194 rfl fX6_82 hR.1 rfl ?_
      refine g_iload_n2 dX6_week_197 rfl ?_
      refine g_aload_n0 dX6_week_198 rfl ?_
      refine g_getr dX6_week_199 rfl fX6_79 hR.1 rfl ?_
      refine g_iload_n2 dX6_week_202 rfl ?_
      refine g_ialdI dX6_week_203 rfl (rf_orderTry hR) ⟨by omega, by omega⟩ ?_
      rw [rowI_ne (show (430 : Nat) ≠ 431 by decide)]
      refine g_iastI dX6_week_204 rfl (rf_order hR) ⟨by omega, by omega⟩ ?_
      refine g_iincI2 dX6_week_205 rfl rfl rfl ⟨by omega, by omega⟩ (fun w205 h205 => ?_)
      refine g_goto (t := 185) dX6_week_208 (by decide) ?_
      have h := ih _ (by omega) w205 rfl (by omega) (by omega)
      rw [h205, show (i.toInt + 1).toNat = i.toInt.toNat + 1 by omega, ← rowI_step (x := M.1 430 i.toInt.toNat) rfl] at h
      exact h
noncomputable def wkT (T : gTw) (ord : Nat → Int) : gWk := wkOn (owe T 6) T 0 0 (0, 0, ord, 0)
def wkZ (σ : gWk) (wh : Int) : Int := if σ.2.2.2 = 2 then -2 else if wh = 0 then (if σ.2.2.2 = 1 then 1 else 0) else if wh = 1 then σ.2.1 else σ.1
def wkPost (T : gTw) (σ : gWk) (M M1 : gM) : Prop := (∀ j, j ≠ 300 → j ≠ 426 → j ≠ 427 → j ≠ 428 → j ≠ 429 → j ≠ 430 → j ≠ 431 → M1.1 j = M.1 j) ∧ M1.2 = M.2 ∧ (∀ k, k < 32 ∨ 38 ≤ k → M1.1 300 k = (g_u M 300 1 0).1 300 k) ∧ (∀ i, i < 6 → (M1.1 430 i).toInt = σ.2.2.1 i) ∧ (σ.2.2.2 = 1 → (M1.1 300 32).toInt = (owe T 6 : Int) ∧ ∀ k, k < owe T 6 → (M1.1 431 k).toInt = σ.2.2.1 k) ∧ (¬ σ.2.2.2 = 1 → M1.1 300 32 = M.1 300 32 ∧ M1.1 431 = M.1 431)
set_option maxHeartbeats 1200000 in
theorem l_weekE {Γ : gW} {M M9 : gM} {T : gTw} (hR : g_Ref Γ) {ord : Nat → Int} {wh : Int32} (hv : 0 ≤ wh.toInt ∧ wh.toInt ≤ 2) {y2 : Option Value} {d : Nat} (hP : wkPost T (wkT T ord) M M9) (hns : ¬ (wkT T ord).2.2.2 = 2) (htr : (M9.1 300 34).toInt = (wkT T ord).1) (hmo : (M9.1 300 35).toInt = (wkT T ord).2.1) (h37 : (M9.1 300 37).toInt = if (wkT T ord).2.2.2 = 1 then 1 else 0) : G Γ μX6_week (g_R d) (0, 0) (g_Z Γ (g_qi (fun z M1 => (¬ (0 ≤ wh.toInt ∧ wh.toInt ≤ 2) ∧ z.toInt = 0 ∧ M1 = g_u (g_u M 300 1 0) 300 1 1) ∨ ((0 ≤ wh.toInt ∧ wh.toInt ≤ 2) ∧ wkPost T (wkT T ord) M M1 ∧ z.toInt = wkZ (wkT T ord) wh.toInt)))) 211 [some (.ref 300), some (.int wh), y2] [] M9 := by
  refine g_iload_n1 dX6_week_211 rfl ?_
  refine g_if_neI (t := 230) dX6_week_212 (by decide) rfl (fun c212 => ?_) (fun c212 => ?_)
  · -- 212 t
    refine g_iload_n1 dX6_week_230 rfl ?_
    refine g_iconstI dX6_week_231 rfl rfl (fun w231 h231 => ?_)
    refine g_icmp_neI (t := 242) dX6_week_232 (by decide) rfl (fun c232 => ?_) (fun c232 => ?_)
    · -- 232 t
      refine g_aload_n0 dX6_week_242 rfl ?_
      refine g_geti dX6_week_243 rfl fX6_340 hR.1 rfl ?_
      refine g_iret dX6_week_246 rfl ?_
      refine ⟨_, rfl, Or.inr ⟨hv, hP, ?_⟩⟩
      rw [wkZ, if_neg hns]
      first
        | (have hz := h222; rw [if_pos (by omega), if_pos hal]; exact hz)
        | (have hz := h226; rw [if_pos (by omega), if_neg hnal]; exact hz)
        | (have hz := c232; rw [if_neg (by omega), if_pos (by omega)]; exact hmo)
        | (rw [if_neg (by omega), if_neg (by omega)]; exact htr)
    · -- 232 f
      refine g_aload_n0 dX6_week_235 rfl ?_
      refine g_geti dX6_week_236 rfl fX6_321 hR.1 rfl ?_
      refine g_goto (t := 246) dX6_week_239 (by decide) ?_
      refine g_iret dX6_week_246 rfl ?_
      refine ⟨_, rfl, Or.inr ⟨hv, hP, ?_⟩⟩
      rw [wkZ, if_neg hns]
      first
        | (have hz := h222; rw [if_pos (by omega), if_pos hal]; exact hz)
        | (have hz := h226; rw [if_pos (by omega), if_neg hnal]; exact hz)
        | (have hz := c232; rw [if_neg (by omega), if_pos (by omega)]; exact hmo)
        | (rw [if_neg (by omega), if_neg (by omega)]; exact htr)
  · -- 212 f
    refine g_aload_n0 dX6_week_215 rfl ?_
    refine g_geti dX6_week_216 rfl fX6_327 hR.1 rfl ?_
    refine g_if_eqI (t := 226) dX6_week_219 (by decide) rfl (fun c219 => ?_) (fun c219 => ?_)
    · -- 219 t
      have hnal : ¬ (wkT T ord).2.2.2 = 1 := fun h => by rw [if_pos h] at h37; omega
      refine g_iconstI dX6_week_226 rfl rfl (fun w226 h226 => ?_)
      refine g_goto (t := 246) dX6_week_227 (by decide) ?_
      refine g_iret dX6_week_246 rfl ?_
      refine ⟨_, rfl, Or.inr ⟨hv, hP, ?_⟩⟩
      rw [wkZ, if_neg hns]
      first
        | (have hz := h222; rw [if_pos (by omega), if_pos hal]; exact hz)
        | (have hz := h226; rw [if_pos (by omega), if_neg hnal]; exact hz)
        | (have hz := c232; rw [if_neg (by omega), if_pos (by omega)]; exact hmo)
        | (rw [if_neg (by omega), if_neg (by omega)]; exact htr)
    · -- 219 f
      have hal : (wkT T ord).2.2.2 = 1 := by
        by_cases h : (wkT T ord).2.2.2 = 1
        · exact h
        · rw [if_neg h] at h37; omega
      refine g_iconstI dX6_week_222 rfl rfl (fun w222 h222 => ?_)
      refine g_goto (t := 246) dX6_week_223 (by decide) ?_
      refine g_iret dX6_week_246 rfl ?_
      refine ⟨_, rfl, Or.inr ⟨hv, hP, ?_⟩⟩
      rw [wkZ, if_neg hns]
      first
        | (have hz := h222; rw [if_pos (by omega), if_pos hal]; exact hz)
        | (have hz := h226; rw [if_pos (by omega), if_neg hnal]; exact hz)
        | (have hz := c232; rw [if_neg (by omega), if_pos (by omega)]; exact hmo)
        | (rw [if_neg (by omega), if_neg (by omega)]; exact htr)
set_option maxHeartbeats 1200000 in
theorem l_weekF {Γ : gW} {M M8 : gM} {T : gTw} (hR : g_Ref Γ) {ord : Nat → Int} {wh : Int32} (hv : 0 ≤ wh.toInt ∧ wh.toInt ≤ 2) {y2 : Option Value} {d : Nat} (hWk : WKR (wkT T ord) M8) (hf1 : ∀ j, j ≠ 300 → j ≠ 426 → j ≠ 427 → j ≠ 428 → j ≠ 429 → j ≠ 430 → j ≠ 431 → M8.1 j = M.1 j) (hf1b : M8.1 431 = M.1 431) (hf2 : M8.2 = M.2) (hf3 : ∀ k, k < 32 ∨ 38 ≤ k → M8.1 300 k = (g_u M 300 1 0).1 300 k) (hf32 : M8.1 300 32 = M.1 300 32) (h33 : (M8.1 300 33).toInt = (owe T 6 : Int)) : G Γ μX6_week (g_R d) (0, 0) (g_Z Γ (g_qi (fun z M1 => (¬ (0 ≤ wh.toInt ∧ wh.toInt ≤ 2) ∧ z.toInt = 0 ∧ M1 = g_u (g_u M 300 1 0) 300 1 1) ∨ ((0 ≤ wh.toInt ∧ wh.toInt ≤ 2) ∧ wkPost T (wkT T ord) M M1 ∧ z.toInt = wkZ (wkT T ord) wh.toInt)))) 158 [some (.ref 300), some (.int wh), y2] [] M8 := by
  refine g_aload_n0 dX6_week_158 rfl ?_
  refine g_geti dX6_week_159 rfl fX6_330 hR.1 rfl ?_
  refine g_if_eqI (t := 168) dX6_week_162 (by decide) rfl (fun c162 => ?_) (fun c162 => ?_)
  · -- 162 t
    have hns : ¬ (wkT T ord).2.2.2 = 2 := fun h => by have := hWk.2.2.2.1; rw [if_pos h] at this; omega
    refine g_aload_n0 dX6_week_168 rfl ?_
    refine g_geti dX6_week_169 rfl fX6_327 hR.1 rfl ?_
    refine g_if_eqI (t := 211) dX6_week_172 (by decide) rfl (fun c172 => ?_) (fun c172 => ?_)
    · -- 172 t
      have hnal : ¬ (wkT T ord).2.2.2 = 1 := fun h => by have := hWk.2.2.2.2.1; rw [if_pos h] at this; omega
      exact l_weekE hR hv ⟨hf1, hf2, hf3, hWk.2.2.2.2.2, fun h => absurd h hnal, fun _ => ⟨hf32, hf1b⟩⟩ hns hWk.2.1 hWk.2.2.1 hWk.2.2.2.2.1
    · -- 172 f
      have hal : (wkT T ord).2.2.2 = 1 := by
        by_cases h : (wkT T ord).2.2.2 = 1
        · exact h
        · have := hWk.2.2.2.2.1; rw [if_neg h] at this; omega
      refine g_aload_n0 dX6_week_175 rfl ?_
      refine g_aload_n0 dX6_week_176 rfl ?_
      refine g_geti dX6_week_177 rfl fX6_324 hR.1 rfl ?_
      refine g_put dX6_week_180 rfl fX6_85 hR.1 rfl rfl rfl ?_
      obtain ⟨M9, hM9⟩ : ∃ M9, M9 = g_u M8 300 32 (M8.1 300 33) := ⟨_, rfl⟩
      refine g_fwd (M1 := M9) ?_ hM9
      have e33 : (M9.1 300 33).toInt = (owe T 6 : Int) := by rw [hM9, g_u_eq, if_neg (by decide)]; exact h33
      have hle := owe_le T 6
      refine g_iconstI dX6_week_183 rfl rfl (fun w183 h183 => ?_)
      refine g_istore_n2 dX6_week_184 rfl rfl ?_
      refine g_fwd (l_week3 hR (M := M9) (by omega) (fun i => ?_) _ w183 rfl (by omega) (by omega)) (by rw [h183, show (0 : Int).toNat = 0 from rfl, rowI_0])
      have e430 : M9.1 430 = M8.1 430 := by rw [hM9, g_u_ne (by decide)]
      have e9 : ∀ k, k ≠ 32 → M9.1 300 k = M8.1 300 k := fun k hk => by rw [hM9, g_u_eq, if_neg hk]
      refine l_weekE hR hv ⟨fun j a b c d e f g => ?_, ?_, fun k hk => ?_, fun i hi => ?_, fun _ => ⟨?_, fun k hk => ?_⟩, fun h => absurd hal h⟩ hns ?_ ?_ ?_
      · rw [rowI_ne g, hM9, g_u_ne a]; exact hf1 j a b c d e f g
      · show M9.2 = _; rw [hM9]; exact hf2
      · rw [rowI_ne (by decide), e9 k (by omega)]; exact hf3 k hk
      · rw [rowI_ne (by decide), e430]; exact hWk.2.2.2.2.2 i hi
      · rw [rowI_ne (by decide), hM9, g_u_eq, if_pos rfl]; exact h33
      · rw [rowI_at, if_pos (by omega), e430]; exact hWk.2.2.2.2.2 k (by omega)
      · rw [rowI_ne (by decide), e9 34 (by decide)]; exact hWk.2.1
      · rw [rowI_ne (by decide), e9 35 (by decide)]; exact hWk.2.2.1
      · rw [rowI_ne (by decide), e9 37 (by decide)]; exact hWk.2.2.2.2.1
  · -- 162 f
    have hsp : (wkT T ord).2.2.2 = 2 := by
      by_cases h : (wkT T ord).2.2.2 = 2
      · exact h
      · have := hWk.2.2.2.1; rw [if_neg h] at this; omega
    refine g_bipushI dX6_week_165 rfl rfl (fun w165 h165 => ?_)
    refine g_iret dX6_week_167 rfl ?_
    exact ⟨_, rfl, Or.inr ⟨hv, ⟨hf1, hf2, hf3, hWk.2.2.2.2.2, fun h => by omega, fun _ => ⟨hf32, hf1b⟩⟩, by rw [wkZ, if_pos hsp]; exact h165⟩⟩
