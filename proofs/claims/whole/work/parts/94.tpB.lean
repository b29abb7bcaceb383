set_option maxHeartbeats 1200000 in
theorem l_cst {Γ : gW} {M : gM} {t : Nat → Int} {n : Nat} (hA : g_Tape Γ) (hH : HTc t n M) {e : Nat} {Q : Option Value → gM → Prop} (hk : ∀ a : Int32, a.toInt = (tkB t n e : Int) → G Γ μX2_step (g_R 2) (0, 0) (g_Z Γ Q) 41 [some (.ref 230), some (.int a)] [] M) : ∀ (n9 : Nat) (a : Int32), n - a.toInt.toNat = n9 → 0 ≤ a.toInt → a.toInt ≤ n → runT spB t n e = runT spB t n a.toInt.toNat → G Γ μX2_step (g_R 2) (0, 0) (g_Z Γ Q) 5 [some (.ref 230), some (.int a)] [] M := by
  intro n9
  induction n9 using Nat.strongRecOn with
  | ind n9 ih =>
    intro a h9 ha0 ha1 hrun
    obtain ⟨x1, x2, x3, x4⟩ := id hH
    refine g_iload_n1 dX2_step_5 rfl ?_
    refine g_aload_n0 dX2_step_6 rfl ?_
    refine g_geti dX2_step_7 rfl fX2_26 hA.1 rfl ?_
    refine g_icmp_geI (t := 41) dX2_step_10 (by decide) rfl (fun c10 => ?_) (fun c10 => ?_)
    · -- 10 t
      have hns : ¬ (a.toInt.toNat < n ∧ spB (t a.toInt.toNat) = true) := fun h => by omega
      exact hk a (by rw [tkB, hrun, runT_stop hns]; omega)
    · -- 10 f
      have x5 := x3 a.toInt.toNat (by omega)
      have x6 := x4 a.toInt.toNat (by omega)
      have y1 := sgn8_eq (c := 32) x5 (by decide)
      have y2 := sgn8_eq (c := 10) x5 (by decide)
      rw [← x6] at y1 y2
      refine g_aload_n0 dX2_step_13 rfl ?_
      refine g_getr dX2_step_14 rfl fX2_18 hA.1 rfl ?_
      refine g_iload_n1 dX2_step_17 rfl ?_
      refine g_baldI dX2_step_18 rfl hA.2.1 ⟨by omega, by omega⟩ ?_
      refine g_bipushI dX2_step_19 rfl rfl (fun w19 h19 => ?_)
      refine g_icmp_eqI (t := 35) dX2_step_21 (by decide) rfl (fun c21 => ?_) (fun c21 => ?_)
      · -- 21 t
        have hsp : spB (t a.toInt.toNat) = true := decide_eq_true (Or.inl (y1.mp (by omega)))
        clear y1 y2
        refine g_iincI1 dX2_step_35 rfl rfl rfl ⟨by omega, by omega⟩ (fun w35 h35 => ?_)
        refine g_goto (t := 5) dX2_step_38 (by decide) ?_
        refine ih _ (by omega) _ rfl (by omega) (by omega) ?_
        rw [hrun, show w35.toInt.toNat = a.toInt.toNat + 1 by omega]
        exact runT_step (by omega) hsp
      · -- 21 f
        refine g_aload_n0 dX2_step_24 rfl ?_
        refine g_getr dX2_step_25 rfl fX2_18 hA.1 rfl ?_
        refine g_iload_n1 dX2_step_28 rfl ?_
        refine g_baldI dX2_step_29 rfl hA.2.1 ⟨by omega, by omega⟩ ?_
        refine g_bipushI dX2_step_30 rfl rfl (fun w30 h30 => ?_)
        refine g_icmp_neI (t := 41) dX2_step_32 (by decide) rfl (fun c32 => ?_) (fun c32 => ?_)
        · -- 32 t
          have hns : ¬ (a.toInt.toNat < n ∧ spB (t a.toInt.toNat) = true) := fun h => by
            rcases of_decide_eq_true h.2 with q | q
            · have := y1.mpr q; omega
            · have := y2.mpr q; omega
          clear y1 y2
          exact hk a (by rw [tkB, hrun, runT_stop hns]; omega)
        · -- 32 f
          have hsp : spB (t a.toInt.toNat) = true := decide_eq_true (Or.inr (y2.mp (by omega)))
          clear y1 y2
          refine g_iincI1 dX2_step_35 rfl rfl rfl ⟨by omega, by omega⟩ (fun w35 h35 => ?_)
          refine g_goto (t := 5) dX2_step_38 (by decide) ?_
          refine ih _ (by omega) _ rfl (by omega) (by omega) ?_
          rw [hrun, show w35.toInt.toNat = a.toInt.toNat + 1 by omega]
          exact runT_step (by omega) hsp
set_option maxHeartbeats 1200000 in
theorem c_step {Γ : gW} {M : gM} {t : Nat → Int} {n : Nat} (hA : g_Tape Γ) (hH : HTc t n M) {e : Nat} (he : e ≤ n) (hat0 : (M.1 230 9).toInt = (e : Int)) : Ct Γ yX2_step μX2_step 2 [.ref 230] M (g_qv (fun M1 => frK M M1 ∧ TKc t n e M1 ∧ M1.1 230 12 = M.1 230 12)) := by
  have x2 := hH.2.1
  refine g_enter rfl rfl rfl (Nat.le_of_ble_eq_true rfl) ?_
  show G Γ _ _ _ _ 0 [some (.ref 230), none] [] M
  refine g_aload_n0 dX2_step_0 rfl ?_
  refine g_geti dX2_step_1 rfl fX2_45 hA.1 rfl ?_
  refine g_istore_n1 dX2_step_4 rfl rfl ?_
  refine l_cst hA hH (e := e) (fun a hat => ?_) _ _ rfl (by omega) (by omega) (by rw [show (M.1 230 9).toInt.toNat = e by omega])
  refine g_aload_n0 dX2_step_41 rfl ?_
  refine g_iload_n1 dX2_step_42 rfl ?_
  refine g_put dX2_step_43 rfl fX2_42 hA.1 rfl rfl rfl ?_
  obtain ⟨M2, hM2⟩ : ∃ M2, M2 = g_u M 230 8 a := ⟨_, rfl⟩
  refine g_fwd (M1 := M2) ?_ hM2
  have hf2 : frK M M2 := by rw [hM2]; exact frK.u (by decide)
  obtain ⟨b, hb⟩ : ∃ b, tkB t n e = b := ⟨_, rfl⟩
  rw [hb] at hat
  have hbg2 : (M2.1 230 8).toInt = (b : Int) := by rw [hM2, g_u_eq, if_pos rfl]; exact hat
  have hH2 := hH.k hf2
  have hm12 : M2.1 230 12 = M.1 230 12 := by rw [hM2, g_u_eq, if_neg (by decide)]
  have hbr : e ≤ b ∧ b ≤ n := by rw [← hb]; exact runT_rng he
  clear hM2
  obtain ⟨x1, x2, x3, x4⟩ := id hH2
  have hK0 : tkK t n e = if n ≤ b then 0 else if ltB (t b) = true then 1 else if dgB (t b) = true then 2 else if t b = 59 then 3 else 4 := by rw [tkK, hb]
  have hE0 : tkE t n e = if n ≤ b then b else if ltB (t b) = true then runT ltB t n b else if dgB (t b) = true then runT dgB t n b else b + 1 := by rw [tkE, hb]
  have hab : a.toInt.toNat = b := by omega
  refine g_iload_n1 dX2_step_46 rfl ?_
  refine g_aload_n0 dX2_step_47 rfl ?_
  refine g_geti dX2_step_48 rfl fX2_26 hA.1 rfl ?_
  refine g_icmp_ltI (t := 67) dX2_step_51 (by decide) rfl (fun c51 => ?_) (fun c51 => ?_)
  · -- 51 t
    have hbn : ¬ n ≤ b := by omega
    refine g_aload_n0 dX2_step_67 rfl ?_
    refine g_iload_n1 dX2_step_68 rfl ?_
    refine g_callVi1 dX2_step_69 rfl vX2_182 hA.1 rfl (c_isLetter hA hH2 (by omega)) (g_rm (by omega)) (Nat.le_of_ble_eq_true rfl) (fun z69 M69 e69 => ?_)
    obtain ⟨rfl, e69, f69⟩ := e69
    rw [hab] at f69
    refine g_if_eqI (t := 83) dX2_step_72 (by decide) rfl (fun c72 => ?_) (fun c72 => ?_)
    · -- 72 t
      have hlt : ¬ ltB (t b) = true := fun h => by have := f69.mpr h; omega
      clear f69 e69
      refine g_aload_n0 dX2_step_83 rfl ?_
      refine g_iload_n1 dX2_step_84 rfl ?_
      refine g_callVi1 dX2_step_85 rfl vX2_189 hA.1 rfl (c_isDigit hA hH2 (by omega)) (g_rm (by omega)) (Nat.le_of_ble_eq_true rfl) (fun z85 M85 e85 => ?_)
      obtain ⟨rfl, e85, f85⟩ := e85
      rw [hab] at f85
      refine g_if_eqI (t := 99) dX2_step_88 (by decide) rfl (fun c88 => ?_) (fun c88 => ?_)
      · -- 88 t
        have hdg : ¬ dgB (t b) = true := fun h => by have := f85.mpr h; omega
        clear f85 e85
        refine g_aload_n0 dX2_step_99 rfl ?_
        refine g_aload_n0 dX2_step_100 rfl ?_
        refine g_getr dX2_step_101 rfl fX2_18 hA.1 rfl ?_
        refine g_iload_n1 dX2_step_104 rfl ?_
        refine g_baldI dX2_step_105 rfl hA.2.1 ⟨by omega, by omega⟩ ?_
        rw [hab]
        have x6 := x4 b (by omega)
        have y1 := sgn8_eq (c := 59) (x3 b (by omega)) (by decide)
        rw [← x6] at y1
        refine g_bipushI dX2_step_106 rfl rfl (fun w106 h106 => ?_)
        refine g_icmp_neI (t := 115) dX2_step_108 (by decide) rfl (fun c108 => ?_) (fun c108 => ?_)
        · -- 108 t
          have h59 : ¬ t b = 59 := fun h => by have := y1.mpr h; omega
          clear y1
          refine g_iconstI dX2_step_115 rfl rfl (fun w115 h115 => ?_)
          refine g_put dX2_step_116 rfl fX2_39 hA.1 rfl rfl rfl ?_
          refine g_aload_n0 dX2_step_119 rfl ?_
          refine g_iload_n1 dX2_step_120 rfl ?_
          refine g_iconstI dX2_step_121 rfl rfl (fun w121 h121 => ?_)
          refine g_iaddI dX2_step_122 rfl ⟨by omega, by omega⟩ (fun w122 h122 => ?_)
          refine g_put dX2_step_123 rfl fX2_45 hA.1 rfl rfl rfl ?_
          refine g_vret dX2_step_126 rfl ?_
          first
            | (obtain ⟨x, y, hx, hy, rfl⟩ := e77
               refine ⟨rfl, frK.tr hf2 (frK.tr (frK.u (by decide)) (frK.u (by decide))), ⟨?_, ?_, ?_, ?_⟩, by rw [g_u_eq, if_neg (by decide), g_u_eq, if_neg (by decide)]; exact hm12⟩
               · rw [g_u_eq, if_pos rfl, hy, hE0, if_neg hbn, if_pos hlt]
               · rw [g_u_eq, if_neg (by decide), g_u_eq, if_pos rfl, hx, hK0, if_neg hbn, if_pos hlt]
               · rw [g_u_eq, if_neg (by decide), g_u_eq, if_neg (by decide), hbg2, hb]
               · intro h; rw [hK0, if_neg hbn, if_pos hlt] at h; omega)
            | (obtain ⟨q1, q12, q2, q3, q4, q5, q6⟩ := e93
               have hE1 : tkE t n e = runT dgB t n b := by rw [hE0, if_neg hbn, if_neg hlt, if_pos hdg]
               refine ⟨rfl, frK.tr hf2 q1, ⟨?_, ?_, ?_, ?_⟩, by rw [q12]; exact hm12⟩
               · rw [q2, hE1]
               · rw [q3, hK0, if_neg hbn, if_neg hlt, if_pos hdg]
               · rw [q4, hbg2, hb]
               · intro _
                 rw [tkV, hE1, hb]
                 exact ⟨q5, q6⟩)
            | (have hz := hdg
               refine ⟨rfl, frK.tr hf2 (frK.tr (frK.u (by decide)) (frK.u (by decide))), ⟨?_, ?_, ?_, ?_⟩, by rw [g_u_eq, if_neg (by decide), g_u_eq, if_neg (by decide)]; exact hm12⟩
               · rw [g_u_eq, if_pos rfl, hE0, if_neg hbn, if_neg hlt, if_neg hz]; omega
               · rw [g_u_eq, if_neg (by decide), g_u_eq, if_pos rfl, hK0, if_neg hbn, if_neg hlt, if_neg hz]
                 first
                   | (rw [if_pos h59]; exact h111)
                   | (rw [if_neg h59]; exact h115)
               · rw [g_u_eq, if_neg (by decide), g_u_eq, if_neg (by decide), hbg2, hb]
               · intro h
                 rw [hK0, if_neg hbn, if_neg hlt, if_neg hz] at h
                 split at h <;> omega)
            | (have hz := hbn
               refine ⟨rfl, frK.tr hf2 (frK.tr (frK.u (by decide)) (frK.u (by decide))), ⟨?_, ?_, ?_, ?_⟩, by rw [g_u_eq, if_neg (by decide), g_u_eq, if_neg (by decide)]; exact hm12⟩
               · rw [g_u_eq, if_pos rfl, hat, hE0, if_pos hz]
               · rw [g_u_eq, if_neg (by decide), g_u_eq, if_pos rfl, h55, hK0, if_pos hz]
               · rw [g_u_eq, if_neg (by decide), g_u_eq, if_neg (by decide), hbg2, hb]
               · intro h; rw [hK0, if_pos hz] at h; omega)
        · -- 108 f
          have h59 : t b = 59 := y1.mp (by omega)
          clear y1
          refine g_iconstI dX2_step_111 rfl rfl (fun w111 h111 => ?_)
          refine g_goto (t := 116) dX2_step_112 (by decide) ?_
          refine g_put dX2_step_116 rfl fX2_39 hA.1 rfl rfl rfl ?_
          refine g_aload_n0 dX2_step_119 rfl ?_
          refine g_iload_n1 dX2_step_120 rfl ?_
          refine g_iconstI dX2_step_121 rfl rfl (fun w121 h121 => ?_)
          refine g_iaddI dX2_step_122 rfl ⟨by omega, by omega⟩ (fun w122 h122 => ?_)
          refine g_put dX2_step_123 rfl fX2_45 hA.1 rfl rfl rfl ?_
          refine g_vret dX2_step_126 rfl ?_
          first
            | (obtain ⟨x, y, hx, hy, rfl⟩ := e77
               refine ⟨rfl, frK.tr hf2 (frK.tr (frK.u (by decide)) (frK.u (by decide))), ⟨?_, ?_, ?_, ?_⟩, by rw [g_u_eq, if_neg (by decide), g_u_eq, if_neg (by decide)]; exact hm12⟩
               · rw [g_u_eq, if_pos rfl, hy, hE0, if_neg hbn, if_pos hlt]
               · rw [g_u_eq, if_neg (by decide), g_u_eq, if_pos rfl, hx, hK0, if_neg hbn, if_pos hlt]
               · rw [g_u_eq, if_neg (by decide), g_u_eq, if_neg (by decide), hbg2, hb]
               · intro h; rw [hK0, if_neg hbn, if_pos hlt] at h; omega)
            | (obtain ⟨q1, q12, q2, q3, q4, q5, q6⟩ := e93
               have hE1 : tkE t n e = runT dgB t n b := by rw [hE0, if_neg hbn, if_neg hlt, if_pos hdg]
               refine ⟨rfl, frK.tr hf2 q1, ⟨?_, ?_, ?_, ?_⟩, by rw [q12]; exact hm12⟩
               · rw [q2, hE1]
               · rw [q3, hK0, if_neg hbn, if_neg hlt, if_pos hdg]
               · rw [q4, hbg2, hb]
               · intro _
                 rw [tkV, hE1, hb]
                 exact ⟨q5, q6⟩)
            | (have hz := hdg
               refine ⟨rfl, frK.tr hf2 (frK.tr (frK.u (by decide)) (frK.u (by decide))), ⟨?_, ?_, ?_, ?_⟩, by rw [g_u_eq, if_neg (by decide), g_u_eq, if_neg (by decide)]; exact hm12⟩
               · rw [g_u_eq, if_pos rfl, hE0, if_neg hbn, if_neg hlt, if_neg hz]; omega
               · rw [g_u_eq, if_neg (by decide), g_u_eq, if_pos rfl, hK0, if_neg hbn, if_neg hlt, if_neg hz]
                 first
                   | (rw [if_pos h59]; exact h111)
                   | (rw [if_neg h59]; exact h115)
               · rw [g_u_eq, if_neg (by decide), g_u_eq, if_neg (by decide), hbg2, hb]
               · intro h
                 rw [hK0, if_neg hbn, if_neg hlt, if_neg hz] at h
                 split at h <;> omega)
            | (have hz := hbn
               refine ⟨rfl, frK.tr hf2 (frK.tr (frK.u (by decide)) (frK.u (by decide))), ⟨?_, ?_, ?_, ?_⟩, by rw [g_u_eq, if_neg (by decide), g_u_eq, if_neg (by decide)]; exact hm12⟩
               · rw [g_u_eq, if_pos rfl, hat, hE0, if_pos hz]
               · rw [g_u_eq, if_neg (by decide), g_u_eq, if_pos rfl, h55, hK0, if_pos hz]
               · rw [g_u_eq, if_neg (by decide), g_u_eq, if_neg (by decide), hbg2, hb]
               · intro h; rw [hK0, if_pos hz] at h; omega)
      · -- 88 f
        have hdg := f85.mp (by omega)
        clear f85 e85
        refine g_aload_n0 dX2_step_91 rfl ?_
        refine g_iload_n1 dX2_step_92 rfl ?_
        refine g_callVv1 dX2_step_93 rfl vX2_192 hA.1 rfl (c_stepNumber (b := b) hA hH2 (by omega) hbr.2) (g_rm (by omega)) (Nat.le_of_ble_eq_true rfl) (fun M93 e93 => ?_)
        refine g_goto (t := 126) dX2_step_96 (by decide) ?_
        refine g_vret dX2_step_126 rfl ?_
        first
          | (obtain ⟨x, y, hx, hy, rfl⟩ := e77
             refine ⟨rfl, frK.tr hf2 (frK.tr (frK.u (by decide)) (frK.u (by decide))), ⟨?_, ?_, ?_, ?_⟩, by rw [g_u_eq, if_neg (by decide), g_u_eq, if_neg (by decide)]; exact hm12⟩
             · rw [g_u_eq, if_pos rfl, hy, hE0, if_neg hbn, if_pos hlt]
             · rw [g_u_eq, if_neg (by decide), g_u_eq, if_pos rfl, hx, hK0, if_neg hbn, if_pos hlt]
             · rw [g_u_eq, if_neg (by decide), g_u_eq, if_neg (by decide), hbg2, hb]
             · intro h; rw [hK0, if_neg hbn, if_pos hlt] at h; omega)
          | (obtain ⟨q1, q12, q2, q3, q4, q5, q6⟩ := e93
             have hE1 : tkE t n e = runT dgB t n b := by rw [hE0, if_neg hbn, if_neg hlt, if_pos hdg]
             refine ⟨rfl, frK.tr hf2 q1, ⟨?_, ?_, ?_, ?_⟩, by rw [q12]; exact hm12⟩
             · rw [q2, hE1]
             · rw [q3, hK0, if_neg hbn, if_neg hlt, if_pos hdg]
             · rw [q4, hbg2, hb]
             · intro _
               rw [tkV, hE1, hb]
               exact ⟨q5, q6⟩)
          | (have hz := hdg
             refine ⟨rfl, frK.tr hf2 (frK.tr (frK.u (by decide)) (frK.u (by decide))), ⟨?_, ?_, ?_, ?_⟩, by rw [g_u_eq, if_neg (by decide), g_u_eq, if_neg (by decide)]; exact hm12⟩
             · rw [g_u_eq, if_pos rfl, hE0, if_neg hbn, if_neg hlt, if_neg hz]; omega
             · rw [g_u_eq, if_neg (by decide), g_u_eq, if_pos rfl, hK0, if_neg hbn, if_neg hlt, if_neg hz]
               first
                 | (rw [if_pos h59]; exact h111)
                 | (rw [if_neg h59]; exact h115)
             · rw [g_u_eq, if_neg (by decide), g_u_eq, if_neg (by decide), hbg2, hb]
             · intro h
               rw [hK0, if_neg hbn, if_neg hlt, if_neg hz] at h
               split at h <;> omega)
          | (have hz := hbn
             refine ⟨rfl, frK.tr hf2 (frK.tr (frK.u (by decide)) (frK.u (by decide))), ⟨?_, ?_, ?_, ?_⟩, by rw [g_u_eq, if_neg (by decide), g_u_eq, if_neg (by decide)]; exact hm12⟩
             · rw [g_u_eq, if_pos rfl, hat, hE0, if_pos hz]
             · rw [g_u_eq, if_neg (by decide), g_u_eq, if_pos rfl, h55, hK0, if_pos hz]
             · rw [g_u_eq, if_neg (by decide), g_u_eq, if_neg (by decide), hbg2, hb]
             · intro h; rw [hK0, if_pos hz] at h; omega)
    · -- 72 f
      have hlt := f69.mp (by omega)
      clear f69 e69
      refine g_aload_n0 dX2_step_75 rfl ?_
      refine g_iload_n1 dX2_step_76 rfl ?_
      refine g_callVv1 dX2_step_77 rfl vX2_185 hA.1 rfl (c_stepWord (b := b) hA hH2 (by omega) hbr.2) (g_rm (by omega)) (Nat.le_of_ble_eq_true rfl) (fun M77 e77 => ?_)
      refine g_goto (t := 126) dX2_step_80 (by decide) ?_
      refine g_vret dX2_step_126 rfl ?_
      first
        | (obtain ⟨x, y, hx, hy, rfl⟩ := e77
           refine ⟨rfl, frK.tr hf2 (frK.tr (frK.u (by decide)) (frK.u (by decide))), ⟨?_, ?_, ?_, ?_⟩, by rw [g_u_eq, if_neg (by decide), g_u_eq, if_neg (by decide)]; exact hm12⟩
           · rw [g_u_eq, if_pos rfl, hy, hE0, if_neg hbn, if_pos hlt]
           · rw [g_u_eq, if_neg (by decide), g_u_eq, if_pos rfl, hx, hK0, if_neg hbn, if_pos hlt]
           · rw [g_u_eq, if_neg (by decide), g_u_eq, if_neg (by decide), hbg2, hb]
           · intro h; rw [hK0, if_neg hbn, if_pos hlt] at h; omega)
        | (obtain ⟨q1, q12, q2, q3, q4, q5, q6⟩ := e93
           have hE1 : tkE t n e = runT dgB t n b := by rw [hE0, if_neg hbn, if_neg hlt, if_pos hdg]
           refine ⟨rfl, frK.tr hf2 q1, ⟨?_, ?_, ?_, ?_⟩, by rw [q12]; exact hm12⟩
           · rw [q2, hE1]
           · rw [q3, hK0, if_neg hbn, if_neg hlt, if_pos hdg]
           · rw [q4, hbg2, hb]
           · intro _
             rw [tkV, hE1, hb]
             exact ⟨q5, q6⟩)
        | (have hz := hdg
           refine ⟨rfl, frK.tr hf2 (frK.tr (frK.u (by decide)) (frK.u (by decide))), ⟨?_, ?_, ?_, ?_⟩, by rw [g_u_eq, if_neg (by decide), g_u_eq, if_neg (by decide)]; exact hm12⟩
           · rw [g_u_eq, if_pos rfl, hE0, if_neg hbn, if_neg hlt, if_neg hz]; omega
           · rw [g_u_eq, if_neg (by decide), g_u_eq, if_pos rfl, hK0, if_neg hbn, if_neg hlt, if_neg hz]
             first
               | (rw [if_pos h59]; exact h111)
               | (rw [if_neg h59]; exact h115)
           · rw [g_u_eq, if_neg (by decide), g_u_eq, if_neg (by decide), hbg2, hb]
           · intro h
             rw [hK0, if_neg hbn, if_neg hlt, if_neg hz] at h
             split at h <;> omega)
        | (have hz := hbn
           refine ⟨rfl, frK.tr hf2 (frK.tr (frK.u (by decide)) (frK.u (by decide))), ⟨?_, ?_, ?_, ?_⟩, by rw [g_u_eq, if_neg (by decide), g_u_eq, if_neg (by decide)]; exact hm12⟩
           · rw [g_u_eq, if_pos rfl, hat, hE0, if_pos hz]
           · rw [g_u_eq, if_neg (by decide), g_u_eq, if_pos rfl, h55, hK0, if_pos hz]
           · rw [g_u_eq, if_neg (by decide), g_u_eq, if_neg (by decide), hbg2, hb]
           · intro h; rw [hK0, if_pos hz] at h; omega)
  · -- 51 f
    have hbn : n ≤ b := by omega
    refine g_aload_n0 dX2_step_54 rfl ?_
    refine g_iconstI dX2_step_55 rfl rfl (fun w55 h55 => ?_)
    refine g_put dX2_step_56 rfl fX2_39 hA.1 rfl rfl rfl ?_
    refine g_aload_n0 dX2_step_59 rfl ?_
    refine g_iload_n1 dX2_step_60 rfl ?_
    refine g_put dX2_step_61 rfl fX2_45 hA.1 rfl rfl rfl ?_
    refine g_goto (t := 126) dX2_step_64 (by decide) ?_
    refine g_vret dX2_step_126 rfl ?_
    first
      | (obtain ⟨x, y, hx, hy, rfl⟩ := e77
         refine ⟨rfl, frK.tr hf2 (frK.tr (frK.u (by decide)) (frK.u (by decide))), ⟨?_, ?_, ?_, ?_⟩, by rw [g_u_eq, if_neg (by decide), g_u_eq, if_neg (by decide)]; exact hm12⟩
         · rw [g_u_eq, if_pos rfl, hy, hE0, if_neg hbn, if_pos hlt]
         · rw [g_u_eq, if_neg (by decide), g_u_eq, if_pos rfl, hx, hK0, if_neg hbn, if_pos hlt]
         · rw [g_u_eq, if_neg (by decide), g_u_eq, if_neg (by decide), hbg2, hb]
         · intro h; rw [hK0, if_neg hbn, if_pos hlt] at h; omega)
      | (obtain ⟨q1, q12, q2, q3, q4, q5, q6⟩ := e93
         have hE1 : tkE t n e = runT dgB t n b := by rw [hE0, if_neg hbn, if_neg hlt, if_pos hdg]
         refine ⟨rfl, frK.tr hf2 q1, ⟨?_, ?_, ?_, ?_⟩, by rw [q12]; exact hm12⟩
         · rw [q2, hE1]
         · rw [q3, hK0, if_neg hbn, if_neg hlt, if_pos hdg]
         · rw [q4, hbg2, hb]
         · intro _
           rw [tkV, hE1, hb]
           exact ⟨q5, q6⟩)
      | (have hz := hdg
         refine ⟨rfl, frK.tr hf2 (frK.tr (frK.u (by decide)) (frK.u (by decide))), ⟨?_, ?_, ?_, ?_⟩, by rw [g_u_eq, if_neg (by decide), g_u_eq, if_neg (by decide)]; exact hm12⟩
         · rw [g_u_eq, if_pos rfl, hE0, if_neg hbn, if_neg hlt, if_neg hz]; omega
         · rw [g_u_eq, if_neg (by decide), g_u_eq, if_pos rfl, hK0, if_neg hbn, if_neg hlt, if_neg hz]
           first
             | (rw [if_pos h59]; exact h111)
             | (rw [if_neg h59]; exact h115)
         · rw [g_u_eq, if_neg (by decide), g_u_eq, if_neg (by decide), hbg2, hb]
         · intro h
           rw [hK0, if_neg hbn, if_neg hlt, if_neg hz] at h
           split at h <;> omega)
      | (have hz := hbn
         refine ⟨rfl, frK.tr hf2 (frK.tr (frK.u (by decide)) (frK.u (by decide))), ⟨?_, ?_, ?_, ?_⟩, by rw [g_u_eq, if_neg (by decide), g_u_eq, if_neg (by decide)]; exact hm12⟩
         · rw [g_u_eq, if_pos rfl, hat, hE0, if_pos hz]
         · rw [g_u_eq, if_neg (by decide), g_u_eq, if_pos rfl, h55, hK0, if_pos hz]
         · rw [g_u_eq, if_neg (by decide), g_u_eq, if_neg (by decide), hbg2, hb]
         · intro h; rw [hK0, if_pos hz] at h; omega)
set_option maxHeartbeats 1200000 in
theorem l_isW {Γ : gW} {M : gM} {t : Nat → Int} {n e : Nat} (hA : g_Tape Γ) (hH : HTc t n M) (he : e ≤ n) (hK : TKc t n e M) {c : Nat} {q0 : String × Nat × String × List Int32} (hc : gCs[c]? = some q0) (h1 : tkK t n e = 1) (hE : tkE t n e - tkB t n e = q0.2.2.2.length) {Q : Option Value → gM → Prop} (hQ : ∀ z : Int32, (z.toInt = 0 ∨ z.toInt = 1) → (z.toInt = 1 ↔ isW t n e q0.2.2.2) → Q (some (.int z)) M) : ∀ (n9 : Nat) (k : Int32), 7 - k.toInt.toNat = n9 → 0 ≤ k.toInt → k.toInt ≤ q0.2.2.2.length → (∀ j, j < k.toInt.toNat → t (tkB t n e + j) = (q0.2.2.2.getD j 0).toInt) → G Γ μX2_isWord (g_R 4) (0, 0) (g_Z Γ Q) 28 [some (.ref 230), some (.ref (600 + c)), some (.int k)] [] M := by
  intro n9
  induction n9 using Nat.strongRecOn with
  | ind n9 ih =>
    intro k h9 hk0 hk1 hs1
    obtain ⟨x1, x2, x3, x4⟩ := id hH
    obtain ⟨d1, d2, d3, -⟩ := id hK
    obtain ⟨h6, hlet⟩ := gCs_at hc
    have d8 := tk_rng (t := t) he
    refine g_iload_n2 dX2_isWord_28 rfl ?_
    refine g_aload_n1 dX2_isWord_29 rfl ?_
    refine g_callVSi0 dX2_isWord_30 rfl jvX2_174 hc (j_length hc) (g_rm (by omega)) (Nat.le_of_ble_eq_true rfl) (fun z30 M30 e30 => ?_)
    obtain ⟨rfl, e30⟩ := e30
    refine g_icmp_geI (t := 63) dX2_isWord_33 (by decide) rfl (fun c33 => ?_) (fun c33 => ?_)
    · -- 33 t
      refine g_iconstI dX2_isWord_63 rfl rfl (fun w63 h63 => ?_)
      refine g_zretI dX2_isWord_64 rfl (by omega) ?_
      exact hQ _ (by omega) ⟨fun _ => ⟨h1, hE, fun j hj => hs1 j (by omega)⟩, fun _ => by omega⟩
    · -- 33 f
      refine g_aload_n0 dX2_isWord_36 rfl ?_
      refine g_getr dX2_isWord_37 rfl fX2_18 hA.1 rfl ?_
      refine g_aload_n0 dX2_isWord_40 rfl ?_
      refine g_geti dX2_isWord_41 rfl fX2_42 hA.1 rfl ?_
      refine g_iload_n2 dX2_isWord_44 rfl ?_
      refine g_iaddI dX2_isWord_45 rfl ⟨by omega, by omega⟩ (fun w45 h45 => ?_)
      refine g_baldI dX2_isWord_46 rfl hA.2.1 ⟨by omega, by omega⟩ ?_
      have x6 := x4 (tkB t n e + k.toInt.toNat) (by omega)
      have x5 := x3 (tkB t n e + k.toInt.toNat) (by omega)
      rw [show w45.toInt.toNat = tkB t n e + k.toInt.toNat by omega]
      refine g_aload_n1 dX2_isWord_47 rfl ?_
      refine g_iload_n2 dX2_isWord_48 rfl ?_
      refine g_callVSi1 dX2_isWord_49 rfl jvX2_178 hc (j_charAt hc ⟨hk0, by omega⟩) (g_rm (by omega)) (Nat.le_of_ble_eq_true rfl) (fun z49 M49 e49 => ?_)
      obtain ⟨rfl, e49⟩ := e49
      have y0 := (hlet k.toInt.toNat (by omega)).2.2
      have y1 := sgn8_eq (c := (q0.2.2.2.getD k.toInt.toNat 0).toInt) x5 (by omega)
      rw [← x6, ← e49] at y1
      refine g_icmp_eqI (t := 57) dX2_isWord_52 (by decide) rfl (fun c52 => ?_) (fun c52 => ?_)
      · -- 52 t
        have hyx : t (tkB t n e + k.toInt.toNat) = z49.toInt := y1.mp (by omega)
        refine g_iincI2 dX2_isWord_57 rfl rfl rfl ⟨by omega, by omega⟩ (fun w57 h57 => ?_)
        refine g_goto (t := 28) dX2_isWord_60 (by decide) ?_
        refine ih _ (show 7 - w57.toInt.toNat < n9 by omega) _ rfl (by omega) (by omega) (fun j hj => ?_)
        by_cases hjk : j = k.toInt.toNat
        · rw [hjk, hyx, e49]
        · exact hs1 j (by omega)
      · -- 52 f
        have hnx : ¬ t (tkB t n e + k.toInt.toNat) = z49.toInt := fun h => by have := y1.mpr h; omega
        refine g_iconstI dX2_isWord_55 rfl rfl (fun w55 h55 => ?_)
        refine g_zretI dX2_isWord_56 rfl (by omega) ?_
        exact hQ _ (by omega) ⟨fun h => by omega, fun h => absurd (by have := h.2.2 k.toInt.toNat (by omega); rw [e49]; exact this) hnx⟩
set_option maxHeartbeats 1200000 in
theorem c_isWord {Γ : gW} {M : gM} {t : Nat → Int} {n e : Nat} (hA : g_Tape Γ) (hH : HTc t n M) (he : e ≤ n) (hK : TKc t n e M) {c : Nat} {q0 : String × Nat × String × List Int32} (hc : gCs[c]? = some q0)  : Ct Γ yX2_isWord μX2_isWord 4 [.ref 230, .ref (600 + c)] M (g_qi (fun z M1 => M1 = M ∧ (z.toInt = 0 ∨ z.toInt = 1) ∧ (z.toInt = 1 ↔ isW t n e q0.2.2.2))) := by
  obtain ⟨h6, hlet⟩ := gCs_at hc
  have x7 := hH.2.1
  obtain ⟨d1, d2, d3, -⟩ := id hK
  have d8 := tk_rng (t := t) he
  refine g_enter rfl rfl rfl (Nat.le_of_ble_eq_true rfl) ?_
  show G Γ _ _ _ _ 0 [some (.ref 230), some (.ref (600 + c)), none] [] M
  refine g_aload_n0 dX2_isWord_0 rfl ?_
  refine g_geti dX2_isWord_1 rfl fX2_39 hA.1 rfl ?_
  refine g_iconstI dX2_isWord_4 rfl rfl (fun w4 h4 => ?_)
  refine g_icmp_neI (t := 24) dX2_isWord_5 (by decide) rfl (fun c5 => ?_) (fun c5 => ?_)
  · -- 5 t
    have hnb : ¬ isW t n e q0.2.2.2 := fun h => by have := h.1; omega
    refine g_iconstI dX2_isWord_24 rfl rfl (fun w24 h24 => ?_)
    refine g_zretI dX2_isWord_25 rfl (by omega) ?_
    exact ⟨_, rfl, rfl, by omega, ⟨fun h => by omega, fun h => absurd h hnb⟩⟩
  · -- 5 f
    refine g_aload_n0 dX2_isWord_8 rfl ?_
    refine g_geti dX2_isWord_9 rfl fX2_45 hA.1 rfl ?_
    refine g_aload_n0 dX2_isWord_12 rfl ?_
    refine g_geti dX2_isWord_13 rfl fX2_42 hA.1 rfl ?_
    refine g_isubI dX2_isWord_16 rfl ⟨by omega, by omega⟩ (fun w16 h16 => ?_)
    refine g_aload_n1 dX2_isWord_17 rfl ?_
    refine g_callVSi0 dX2_isWord_18 rfl jvX2_174 hc (j_length hc) (g_rm (by omega)) (Nat.le_of_ble_eq_true rfl) (fun z18 M18 e18 => ?_)
    obtain ⟨rfl, e18⟩ := e18
    refine g_icmp_eqI (t := 26) dX2_isWord_21 (by decide) rfl (fun c21 => ?_) (fun c21 => ?_)
    · -- 21 t
      refine g_iconstI dX2_isWord_26 rfl rfl (fun w26 h26 => ?_)
      refine g_istore_n2 dX2_isWord_27 rfl rfl ?_
      exact l_isW hA hH he hK hc (by omega) (by omega) (fun z a b => ⟨_, rfl, rfl, a, b⟩) _ _ rfl (by omega) (by omega) (fun j hj => by omega)
    · -- 21 f
      have hnb : ¬ isW t n e q0.2.2.2 := fun h => by have := h.2.1; omega
      refine g_iconstI dX2_isWord_24 rfl rfl (fun w24 h24 => ?_)
      refine g_zretI dX2_isWord_25 rfl (by omega) ?_
      exact ⟨_, rfl, rfl, by omega, ⟨fun h => by omega, fun h => absurd h hnb⟩⟩
set_option maxHeartbeats 1200000 in
theorem c_skipWord {Γ : gW} {M : gM} {t : Nat → Int} {n e : Nat} (hA : g_Tape Γ) (hH : HTc t n M) (he : e ≤ n) (hK : TKc t n e M) {c : Nat} {q0 : String × Nat × String × List Int32} (hc : gCs[c]? = some q0)  : Ct Γ yX2_skipWord μX2_skipWord 5 [.ref 230, .ref (600 + c)] M (g_qi (fun z M1 => (isW t n e q0.2.2.2 ∧ z.toInt = 1 ∧ TKc t n (tkE t n e) M1 ∧ frK M M1) ∨ (¬ isW t n e q0.2.2.2 ∧ z.toInt = 0 ∧ M1 = M))) := by
  have d8 := tk_rng (t := t) he
  refine g_enter rfl rfl rfl (Nat.le_of_ble_eq_true rfl) ?_
  show G Γ _ _ _ _ 0 [some (.ref 230), some (.ref (600 + c)), none] [] M
  refine g_aload_n0 dX2_skipWord_0 rfl ?_
  refine g_aload_n1 dX2_skipWord_1 rfl ?_
  refine g_callVi1 dX2_skipWord_2 rfl vX2_78 hA.1 rfl (c_isWord hA hH he hK hc) (g_rm (by omega)) (Nat.le_of_ble_eq_true rfl) (fun z2 M2 e2 => ?_)
  obtain ⟨rfl, e2, f2⟩ := e2
  refine g_istore_n2 dX2_skipWord_5 rfl rfl ?_
  refine g_iload_n2 dX2_skipWord_6 rfl ?_
  refine g_if_eqI (t := 14) dX2_skipWord_7 (by decide) rfl (fun c7 => ?_) (fun c7 => ?_)
  · -- 7 t
    have hn : ¬ isW t n e q0.2.2.2 := fun h => by have := f2.mpr h; omega
    clear f2
    refine g_iload_n2 dX2_skipWord_14 rfl ?_
    refine g_zretI dX2_skipWord_15 rfl (by omega) ?_
    first
      | (have hz := hn
         exact ⟨_, rfl, Or.inr ⟨hz, by omega, rfl⟩⟩)
      | exact ⟨_, rfl, Or.inl ⟨hy, by omega, e11.2.1, e11.1⟩⟩
  · -- 7 f
    have hy := f2.mp (by omega)
    clear f2
    refine g_aload_n0 dX2_skipWord_10 rfl ?_
    refine g_callVv0 dX2_skipWord_11 rfl vX2_66 hA.1 rfl (c_step hA hH d8.2.2.1 hK.1) (g_rm (by omega)) (Nat.le_of_ble_eq_true rfl) (fun M11 e11 => ?_)
    refine g_iload_n2 dX2_skipWord_14 rfl ?_
    refine g_zretI dX2_skipWord_15 rfl (by omega) ?_
    first
      | (have hz := hn
         exact ⟨_, rfl, Or.inr ⟨hz, by omega, rfl⟩⟩)
      | exact ⟨_, rfl, Or.inl ⟨hy, by omega, e11.2.1, e11.1⟩⟩
set_option maxHeartbeats 1200000 in
theorem c_refuse {Γ : gW} {M : gM} (hA : g_Tape Γ) {k : Int32} : Ct Γ yX2_refuse μX2_refuse 0 [.ref 230, .int k] M (g_qi (fun z M1 => z.toInt = 0 ∧ M1 = g_u M 230 6 k)) := by
  refine g_enter rfl rfl rfl (Nat.le_of_ble_eq_true rfl) ?_
  show G Γ _ _ _ _ 0 [some (.ref 230), some (.int k)] [] M
  refine g_aload_n0 dX2_refuse_0 rfl ?_
  refine g_iload_n1 dX2_refuse_1 rfl ?_
  refine g_put dX2_refuse_2 rfl fX2_36 hA.1 rfl rfl rfl ?_
  refine g_iconstI dX2_refuse_5 rfl rfl (fun w5 h5 => ?_)
  refine g_zretI dX2_refuse_6 rfl (by omega) ?_
  exact ⟨_, rfl, h5, rfl⟩
