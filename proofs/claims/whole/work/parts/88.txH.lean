theorem RDP.st {t : Nat → Int} {n : Nat} {x : pR gTw} {M : gM} (h : RDP t n x M) : RD t n (pRho x) M := by
  cases x with
  | inl q => exact h
  | inr y => exact h.1
theorem RDP.t {t : Nat → Int} {n : Nat} {q : Int × Int} {M M' : gM} (h : RD t n (.inl q) M') : RDP t n (.inl q) M' := h
def RDL (t : Nat → Int) (n : Nat) (x : pR (gTw × Int × Int)) (z : Int) (M : gM) : Prop := match x with
  | .inl q => RD t n (.inl q) M
  | .inr (y, e) => RD t n (.inr e) M ∧ RP y.1 M ∧ z = y.2.1 + 2 * y.2.2
theorem RDL.of {t : Nat → Int} {n : Nat} {x : pR gTw} {M : gM} {l w z : Int} (h : RDP t n (pBd x (fun T1 e1 => pStop t n T1 e1)) M) (hz : z = l + 2 * w) : RDL t n (pBd x (fun T1 e1 => pStop t n (T1, l, w) e1)) z M := by
  cases x with
  | inl q => exact h
  | inr y =>
    obtain ⟨T1, e1⟩ := y
    show RDL t n (pStop t n (T1, l, w) e1) z M
    replace h : RDP t n (pStop t n T1 e1) M := h
    rw [pStop] at h ⊢
    split
    · rename_i hk
      rw [if_pos hk] at h
      exact ⟨h.1, h.2, hz⟩
    · rename_i hk
      rw [if_neg hk] at h
      exact h
set_option maxHeartbeats 1200000 in
theorem l_line2 {Γ : gW} {t : Nat → Int} {n : Nat} (hR : g_Ref Γ) {M : gM} (hH : HTx t n M) {x : pR gTw} (hX : RDP t n x M) {sn ru : Int32} {Q : Option Value → gM → Prop} (hQ : ∀ (M1 : gM) (z : Int32), RDP t n (pBd x (fun T1 e1 => pStop t n T1 e1)) M1 → frP M M1 → bn z = bn sn ||| bn ru → Q (some (.int z)) M1) : G Γ μX6_readLine (g_R 7) (0, 0) (g_Z Γ Q) 148 [some (.ref 300), some (.int sn), some (.int ru)] [] M := by
  have hD := hX.st
  refine g_aload_n0 dX6_readLine_148 rfl ?_
  refine g_geti dX6_readLine_149 rfl fX6_174 hR.1 rfl ?_
  refine g_if_neI (t := 168) dX6_readLine_152 (by decide) rfl (fun c152 => ?_) (fun c152 => ?_)
  · -- 152 t
    obtain ⟨q, rfl⟩ : ∃ q, x = .inl q := by
      cases x with
      | inl q => exact ⟨q, rfl⟩
      | inr y => exact absurd hD.1 c152
    refine g_aload_n0 dX6_readLine_168 rfl ?_
    refine g_geti dX6_readLine_169 rfl fX6_174 hR.1 rfl ?_
    refine g_if_neI (t := 179) dX6_readLine_172 (by decide) rfl (fun c172 => ?_) (fun c172 => ?_)
    · -- 172 t
      first
        | (have hz := e165
           have hq9 : RDP t n (pBd (.inr (T1, e1)) (fun T1 e1 => pStop t n T1 e1)) M165 := by
             show RDP t n (pStop t n T1 e1) M165
             rw [pStop, if_neg hk3]
             exact hz.1
           have hfr9 := hz.2.1.p
           refine g_iload_n1 dX6_readLine_179 rfl ?_
           refine g_iload_n2 dX6_readLine_180 rfl ?_
           refine g_iorB dX6_readLine_181 rfl  (fun w181 h181 => ?_)
           refine g_iret dX6_readLine_182 rfl ?_
           exact hQ _ _ hq9 hfr9 h181)
        | (exfalso; have hz := d1; omega)
        | (have hq9 : RDP t n (pBd (.inl q) (fun T1 e1 => pStop t n T1 e1)) M := hX
           have hfr9 : frP M M := frP.rf
           refine g_iload_n1 dX6_readLine_179 rfl ?_
           refine g_iload_n2 dX6_readLine_180 rfl ?_
           refine g_iorB dX6_readLine_181 rfl  (fun w181 h181 => ?_)
           refine g_iret dX6_readLine_182 rfl ?_
           exact hQ _ _ hq9 hfr9 h181)
    · -- 172 f
      first
        | (exfalso; have hz : (M165.1 300 21).toInt = 1 := e165.1.1; omega)
        | (exfalso; have hz := hD.1; have hz2 := hD.2.1; omega)
        | (refine g_aload_n0 dX6_readLine_175 rfl ?_
           refine g_callVv0 dX6_readLine_176 rfl vX6_192 hR.1 rfl (r_stepOn hR hH d8.2.2.1 d3) (g_rm (by omega)) (Nat.le_of_ble_eq_true rfl) (fun M176 e176 => ?_)
           have hq9 : RDP t n (pBd (.inr (T1, e1)) (fun T1 e1 => pStop t n T1 e1)) M176 := by
             show RDP t n (pStop t n T1 e1) M176
             rw [pStop, if_pos hk3]
             exact ⟨RD.s e176.1 d1 d8.2.2.1 e176.2, hX.2.t e176.1.t⟩
           have hfr9 := e176.1.t.p
           refine g_iload_n1 dX6_readLine_179 rfl ?_
           refine g_iload_n2 dX6_readLine_180 rfl ?_
           refine g_iorB dX6_readLine_181 rfl  (fun w181 h181 => ?_)
           refine g_iret dX6_readLine_182 rfl ?_
           exact hQ _ _ hq9 hfr9 h181)
  · -- 152 f
    obtain ⟨⟨T1, e1⟩, rfl⟩ : ∃ y, x = .inr y := by
      cases x with
      | inl q => exact absurd (hD.1.symm.trans c152) hD.2.1
      | inr y => exact ⟨y, rfl⟩
    obtain ⟨d1, d2, d3, d4, d5, d6, -⟩ := id hD
    have d8 := tk_rng (t := t) d2
    refine g_aload_n0 dX6_readLine_155 rfl ?_
    refine g_geti dX6_readLine_156 rfl fX6_151 hR.1 rfl ?_
    refine g_iconstI dX6_readLine_159 rfl rfl (fun w159 h159 => ?_)
    refine g_icmp_eqI (t := 168) dX6_readLine_160 (by decide) rfl (fun c160 => ?_) (fun c160 => ?_)
    · -- 160 t
      have hk3 : tkK t n e1 = 3 := by omega
      refine g_aload_n0 dX6_readLine_168 rfl ?_
      refine g_geti dX6_readLine_169 rfl fX6_174 hR.1 rfl ?_
      refine g_if_neI (t := 179) dX6_readLine_172 (by decide) rfl (fun c172 => ?_) (fun c172 => ?_)
      · -- 172 t
        first
          | (have hz := e165
             have hq9 : RDP t n (pBd (.inr (T1, e1)) (fun T1 e1 => pStop t n T1 e1)) M165 := by
               show RDP t n (pStop t n T1 e1) M165
               rw [pStop, if_neg hk3]
               exact hz.1
             have hfr9 := hz.2.1.p
             refine g_iload_n1 dX6_readLine_179 rfl ?_
             refine g_iload_n2 dX6_readLine_180 rfl ?_
             refine g_iorB dX6_readLine_181 rfl  (fun w181 h181 => ?_)
             refine g_iret dX6_readLine_182 rfl ?_
             exact hQ _ _ hq9 hfr9 h181)
          | (exfalso; have hz := d1; omega)
          | (have hq9 : RDP t n (pBd (.inl q) (fun T1 e1 => pStop t n T1 e1)) M := hX
             have hfr9 : frP M M := frP.rf
             refine g_iload_n1 dX6_readLine_179 rfl ?_
             refine g_iload_n2 dX6_readLine_180 rfl ?_
             refine g_iorB dX6_readLine_181 rfl  (fun w181 h181 => ?_)
             refine g_iret dX6_readLine_182 rfl ?_
             exact hQ _ _ hq9 hfr9 h181)
      · -- 172 f
        first
          | (exfalso; have hz : (M165.1 300 21).toInt = 1 := e165.1.1; omega)
          | (exfalso; have hz := hD.1; have hz2 := hD.2.1; omega)
          | (refine g_aload_n0 dX6_readLine_175 rfl ?_
             refine g_callVv0 dX6_readLine_176 rfl vX6_192 hR.1 rfl (r_stepOn hR hH d8.2.2.1 d3) (g_rm (by omega)) (Nat.le_of_ble_eq_true rfl) (fun M176 e176 => ?_)
             have hq9 : RDP t n (pBd (.inr (T1, e1)) (fun T1 e1 => pStop t n T1 e1)) M176 := by
               show RDP t n (pStop t n T1 e1) M176
               rw [pStop, if_pos hk3]
               exact ⟨RD.s e176.1 d1 d8.2.2.1 e176.2, hX.2.t e176.1.t⟩
             have hfr9 := e176.1.t.p
             refine g_iload_n1 dX6_readLine_179 rfl ?_
             refine g_iload_n2 dX6_readLine_180 rfl ?_
             refine g_iorB dX6_readLine_181 rfl  (fun w181 h181 => ?_)
             refine g_iret dX6_readLine_182 rfl ?_
             exact hQ _ _ hq9 hfr9 h181)
    · -- 160 f
      have hk3 : ¬ tkK t n e1 = 3 := by omega
      refine g_aload_n0 dX6_readLine_163 rfl ?_
      refine g_iconstI dX6_readLine_164 rfl rfl (fun w164 h164 => ?_)
      refine g_callVv1 dX6_readLine_165 rfl vX6_195 hR.1 rfl (r_wrong hR hD (by omega)) (g_rm (by omega)) (Nat.le_of_ble_eq_true rfl) (fun M165 e165 => ?_)
      rw [h164] at e165
      refine g_aload_n0 dX6_readLine_168 rfl ?_
      refine g_geti dX6_readLine_169 rfl fX6_174 hR.1 rfl ?_
      refine g_if_neI (t := 179) dX6_readLine_172 (by decide) rfl (fun c172 => ?_) (fun c172 => ?_)
      · -- 172 t
        first
          | (have hz := e165
             have hq9 : RDP t n (pBd (.inr (T1, e1)) (fun T1 e1 => pStop t n T1 e1)) M165 := by
               show RDP t n (pStop t n T1 e1) M165
               rw [pStop, if_neg hk3]
               exact hz.1
             have hfr9 := hz.2.1.p
             refine g_iload_n1 dX6_readLine_179 rfl ?_
             refine g_iload_n2 dX6_readLine_180 rfl ?_
             refine g_iorB dX6_readLine_181 rfl  (fun w181 h181 => ?_)
             refine g_iret dX6_readLine_182 rfl ?_
             exact hQ _ _ hq9 hfr9 h181)
          | (exfalso; have hz := d1; omega)
          | (have hq9 : RDP t n (pBd (.inl q) (fun T1 e1 => pStop t n T1 e1)) M := hX
             have hfr9 : frP M M := frP.rf
             refine g_iload_n1 dX6_readLine_179 rfl ?_
             refine g_iload_n2 dX6_readLine_180 rfl ?_
             refine g_iorB dX6_readLine_181 rfl  (fun w181 h181 => ?_)
             refine g_iret dX6_readLine_182 rfl ?_
             exact hQ _ _ hq9 hfr9 h181)
      · -- 172 f
        first
          | (exfalso; have hz : (M165.1 300 21).toInt = 1 := e165.1.1; omega)
          | (exfalso; have hz := hD.1; have hz2 := hD.2.1; omega)
          | (refine g_aload_n0 dX6_readLine_175 rfl ?_
             refine g_callVv0 dX6_readLine_176 rfl vX6_192 hR.1 rfl (r_stepOn hR hH d8.2.2.1 d3) (g_rm (by omega)) (Nat.le_of_ble_eq_true rfl) (fun M176 e176 => ?_)
             have hq9 : RDP t n (pBd (.inr (T1, e1)) (fun T1 e1 => pStop t n T1 e1)) M176 := by
               show RDP t n (pStop t n T1 e1) M176
               rw [pStop, if_pos hk3]
               exact ⟨RD.s e176.1 d1 d8.2.2.1 e176.2, hX.2.t e176.1.t⟩
             have hfr9 := e176.1.t.p
             refine g_iload_n1 dX6_readLine_179 rfl ?_
             refine g_iload_n2 dX6_readLine_180 rfl ?_
             refine g_iorB dX6_readLine_181 rfl  (fun w181 h181 => ?_)
             refine g_iret dX6_readLine_182 rfl ?_
             exact hQ _ _ hq9 hfr9 h181)
noncomputable def pMid (t : Nat → Int) (n : Nat) (T : gTw) (ρ : (Int × Int) ⊕ Nat) : pR gTw := (pBr ρ (fun e => pIf t n e w_person (pOne t n T e) (pIf t n e w_thing (pThg t n T e) (pIf t n e w_owes (pOwe t n T (tkE t n e)) (pIf t n e w_law (pLaw t n T (tkE t n e)) (pIf t n e w_within (pBd (pNum t n (tkE t n e) 0 9) (fun v e1 => .inr (upT T 0 3 v, e1))) (.inl (1, tkB t n e))))))))
set_option maxHeartbeats 1600000 in
theorem l_line1 {Γ : gW} {t : Nat → Int} {n : Nat} {T : gTw} {ρ : (Int × Int) ⊕ Nat} (hR : g_Ref Γ) (hKd : g_o Γ 400 (.inr (5, 5))) {M : gM} (hH : HTx t n M) (hD : RD t n ρ M) (hP : RP T M) (hV : PIV T) (hKm : ∀ j, j < 5 → (M.1 400 j).toInt = 615 + (j : Int)) {sn ru : Int32} (hr1 : ∀ e, ρ = .inr e → isW t n e w_law → ru.toInt = 1) (hr2 : ∀ e, ρ = .inr e → isW t n e w_within → ru.toInt = 2) (hr3 : ∀ e, ρ = .inr e → ru.toInt = 1 → isW t n e w_law) (hr4 : ∀ e, ρ = .inr e → ru.toInt = 2 → isW t n e w_within) (hl2 : ∀ e, ρ = .inr e → isW t n e w_law → T 0 2 = 0) {Q : Option Value → gM → Prop} (hk : ∀ M1 : gM, RDP t n (pMid t n T ρ) M1 → frP M M1 → G Γ μX6_readLine (g_R 7) (0, 0) (g_Z Γ Q) 148 [some (.ref 300), some (.int sn), some (.int ru)] [] M1) : G Γ μX6_readLine (g_R 7) (0, 0) (g_Z Γ Q) 39 [some (.ref 300), some (.int sn), some (.int ru)] [] M := by
  have b0 := hV.1.1
  have x7 := hH.2.1
  refine g_aload_n0 dX6_readLine_39 rfl ?_
  refine g_ldcS (c := 22) dX6_readLine_40 rfl rfl ?_
  refine g_callVi1 dX6_readLine_42 rfl vX6_188 hR.1 rfl (r_is (c := 22) hR hH hD rfl) (g_rm (by omega)) (Nat.le_of_ble_eq_true rfl) (fun z42 M42 e42 => ?_)
  obtain ⟨rfl, e42, f42⟩ := e42
  replace f42 : z42.toInt = 1 ↔ isR t n ρ w_person := f42
  refine g_if_eqI (t := 55) dX6_readLine_45 (by decide) rfl (fun c45 => ?_) (fun c45 => ?_)
  · -- 45 t
    have n_person : ¬ isR t n ρ w_person := fun h => by have := f42.mpr h; omega
    clear f42 e42
    refine g_aload_n0 dX6_readLine_55 rfl ?_
    refine g_ldcS (c := 24) dX6_readLine_56 rfl rfl ?_
    refine g_callVi1 dX6_readLine_58 rfl vX6_188 hR.1 rfl (r_is (c := 24) hR hH hD rfl) (g_rm (by omega)) (Nat.le_of_ble_eq_true rfl) (fun z58 M58 e58 => ?_)
    obtain ⟨rfl, e58, f58⟩ := e58
    replace f58 : z58.toInt = 1 ↔ isR t n ρ w_thing := f58
    refine g_if_eqI (t := 71) dX6_readLine_61 (by decide) rfl (fun c61 => ?_) (fun c61 => ?_)
    · -- 61 t
      have n_thing : ¬ isR t n ρ w_thing := fun h => by have := f58.mpr h; omega
      clear f58 e58
      refine g_aload_n0 dX6_readLine_71 rfl ?_
      refine g_ldcS (c := 26) dX6_readLine_72 rfl rfl ?_
      refine g_callVi1 dX6_readLine_74 rfl vX6_204 hR.1 rfl (r_passes (c := 26) hR hH hD rfl) (g_rm (by omega)) (Nat.le_of_ble_eq_true rfl) (fun z74 M74 e74 => ?_)
      refine g_if_eqI (t := 87) dX6_readLine_77 (by decide) rfl (fun c77 => ?_) (fun c77 => ?_)
      · -- 77 t
        obtain ⟨n_owes, hM74⟩ : ¬ isR t n ρ w_owes ∧ M74 = M58 := by
          rcases e74 with ⟨e9, h1, h2, h3, h4, h5⟩ | ⟨h1, h2, h3⟩
          · omega
          · exact ⟨h1, h3⟩
        clear e74
        subst M74
        refine g_iload_n2 dX6_readLine_87 rfl ?_
        refine g_iconstI dX6_readLine_88 rfl rfl (fun w88 h88 => ?_)
        refine g_icmp_neI (t := 110) dX6_readLine_89 (by decide) rfl (fun c89 => ?_) (fun c89 => ?_)
        · -- 89 t
          refine g_iload_n2 dX6_readLine_110 rfl ?_
          refine g_iconstI dX6_readLine_111 rfl rfl (fun w111 h111 => ?_)
          refine g_icmp_neI (t := 143) dX6_readLine_112 (by decide) rfl (fun c112 => ?_) (fun c112 => ?_)
          · -- 112 t
            refine g_aload_n0 dX6_readLine_143 rfl ?_
            refine g_iconstI dX6_readLine_144 rfl rfl (fun w144 h144 => ?_)
            refine g_callVv1 dX6_readLine_145 rfl vX6_195 hR.1 rfl (r_wrong hR hD (by omega)) (g_rm (by omega)) (Nat.le_of_ble_eq_true rfl) (fun M145 e145 => ?_)
            rw [h144] at e145
            first
              | (have hz := e49
                 refine hk _ ?_ hz.2
                 show RDP t n (pIf t n e w_person _ _) _
                 rw [pIf_pos y_person]; exact hz.1)
              | (have hz := e65
                 refine hk _ ?_ hz.2
                 show RDP t n (pIf t n e w_person _ _) _
                 rw [pIf_neg n_person, pIf_pos y_thing]; exact hz.1)
              | (have hz := e81
                 refine hk _ ?_ (frP.tr hf74.p hz.2)
                 show RDP t n (pIf t n e w_person _ _) _
                 rw [pIf_neg n_person, pIf_neg n_thing, pIf_pos y_owes]; exact hz.1)
              | (have hz := e145
                 refine hk _ ?_ hz.2.1.p
                 cases ρ with
                 | inl q => exact hz.1
                 | inr e =>
                   have hnl : ¬ isW t n e w_law := fun h => by have := hr1 e rfl h; omega
                   have hnw : ¬ isW t n e w_within := fun h => by have := hr2 e rfl h; omega
                   show RDP t n (pIf t n e w_person _ _) _
                   rw [pIf_neg n_person, pIf_neg n_thing, pIf_neg n_owes, pIf_neg hnl, pIf_neg hnw]; exact hz.1)
          · -- 112 f
            refine g_aload_n0 dX6_readLine_115 rfl ?_
            refine g_geti dX6_readLine_116 rfl fX6_174 hR.1 rfl ?_
            refine g_if_neI (t := 126) dX6_readLine_119 (by decide) rfl (fun c119 => ?_) (fun c119 => ?_)
            · -- 119 t
              obtain ⟨q, rfl⟩ := hD.bad (by omega)
              refine g_aload_n0 dX6_readLine_126 rfl ?_
              refine g_getr dX6_readLine_127 rfl fX6_25 hR.1 rfl ?_
              refine g_bipushI dX6_readLine_130 rfl rfl (fun w130 h130 => ?_)
              refine g_aload_n0 dX6_readLine_132 rfl ?_
              refine g_iconstI dX6_readLine_133 rfl rfl (fun w133 h133 => ?_)
              refine g_bipushI dX6_readLine_134 rfl rfl (fun w134 h134 => ?_)
              refine g_callVi2 dX6_readLine_136 rfl vX6_207 hR.1 rfl (r_readNumber hR hH hD) (g_rm (by omega)) (Nat.le_of_ble_eq_true rfl) (fun z136 M136 e136 => ?_)
              obtain hM136 : M136 = _ := by
                rcases e136 with ⟨q2, h1, h2, h3⟩ | ⟨e9, h1, h2⟩
                · exact h2
                · cases h1
              clear e136
              subst M136
              have hfin : RDP t n (.inl q) (g_u M58 402 7 z136) := RD.u hD (by decide)
              refine g_iastI dX6_readLine_139 rfl (rf_told hR) ⟨by omega, by omega⟩ ?_
              rw [show w130.toInt.toNat = 7 by omega]
              refine g_goto (t := 148) dX6_readLine_140 (by decide) ?_
              exact hk _ (by exact hfin) (frP.u (by omega))
            · -- 119 f
              obtain ⟨e, rfl⟩ := hD.good (by omega)
              obtain ⟨d1, d2, d3, d4, d5, d6, -⟩ := id hD
              have d8 := tk_rng (t := t) d2
              refine g_aload_n0 dX6_readLine_122 rfl ?_
              refine g_callVv0 dX6_readLine_123 rfl vX6_192 hR.1 rfl (r_stepOn hR hH d8.2.2.1 d3) (g_rm (by omega)) (Nat.le_of_ble_eq_true rfl) (fun M123 e123 => ?_)
              have yw : isW t n e w_within := hr4 e rfl (by omega)
              have nl : ¬ isW t n e w_law := fun h => by have := hr1 e rfl h; omega
              have hP5 := hP.t e123.1.t
              have hD5 := RD.s e123.1 d1 d8.2.2.1 e123.2
              refine g_aload_n0 dX6_readLine_126 rfl ?_
              refine g_getr dX6_readLine_127 rfl fX6_25 hR.1 rfl ?_
              refine g_bipushI dX6_readLine_130 rfl rfl (fun w130 h130 => ?_)
              refine g_aload_n0 dX6_readLine_132 rfl ?_
              refine g_iconstI dX6_readLine_133 rfl rfl (fun w133 h133 => ?_)
              refine g_bipushI dX6_readLine_134 rfl rfl (fun w134 h134 => ?_)
              refine g_callVi2 dX6_readLine_136 rfl vX6_207 hR.1 rfl (r_readNumber hR (hH.s e123.1) (ρ := pRho (α := Unit) (.inr ((), tkE t n e))) hD5) (g_rm (by omega)) (Nat.le_of_ble_eq_true rfl) (fun z136 M136 e136 => ?_)
              rw [h133, h134] at e136
              obtain ⟨hDb, fb, zbv⟩ := nx_num (X := (.inr ((), tkE t n e) : pR Unit)) hD5 e136
              replace hDb : RD t n (pRho (pNum t n (tkE t n e) 0 9)) M136 := hDb
              replace zbv : ∀ v e1, pNum t n (tkE t n e) 0 9 = .inr (v, e1) → z136.toInt = v := zbv
              clear e136
              have hfin : RDP t n (pBd (pNum t n (tkE t n e) 0 9) (fun v e1 => .inr (upT T 0 3 v, e1))) (g_u M136 402 7 z136) := by
                cases hx : pNum t n (tkE t n e) 0 9 with
                | inl q => rw [hx] at hDb; exact RD.u hDb (by decide)
                | inr y =>
                  obtain ⟨v, e1⟩ := y
                  rw [hx] at hDb
                  have hr := RP.set (x := z136) (i := 3) (hP5.t fb) (Or.inr rfl)
                  rw [zbv v e1 hx] at hr
                  exact ⟨RD.u hDb (by decide), hr⟩
              refine g_iastI dX6_readLine_139 rfl (rf_told hR) ⟨by omega, by omega⟩ ?_
              rw [show w130.toInt.toNat = 7 by omega]
              refine g_goto (t := 148) dX6_readLine_140 (by decide) ?_
              exact hk _ (by show RDP t n (pIf t n e w_person _ _) _; rw [pIf_neg n_person, pIf_neg n_thing, pIf_neg n_owes, pIf_neg nl, pIf_pos yw]; exact hfin) (frP.tr e123.1.t.p (frP.tr fb.p (frP.u (by omega))))
        · -- 89 f
          refine g_aload_n0 dX6_readLine_92 rfl ?_
          refine g_geti dX6_readLine_93 rfl fX6_174 hR.1 rfl ?_
          refine g_if_neI (t := 103) dX6_readLine_96 (by decide) rfl (fun c96 => ?_) (fun c96 => ?_)
          · -- 96 t
            obtain ⟨q, rfl⟩ := hD.bad (by omega)
            refine g_aload_n0 dX6_readLine_103 rfl ?_
            refine g_callVv0 dX6_readLine_104 rfl vX6_240 hR.1 rfl (r_readLaw hR hH hD hP (fun _ h => by cases h)) (g_rm (by omega)) (Nat.le_of_ble_eq_true rfl) (fun M104 e104 => ?_)
            refine g_goto (t := 148) dX6_readLine_107 (by decide) ?_
            exact hk _ (by exact e104.1) (frP.tr frP.rf e104.2)
          · -- 96 f
            obtain ⟨e, rfl⟩ := hD.good (by omega)
            obtain ⟨d1, d2, d3, d4, d5, d6, -⟩ := id hD
            have d8 := tk_rng (t := t) d2
            refine g_aload_n0 dX6_readLine_99 rfl ?_
            refine g_callVv0 dX6_readLine_100 rfl vX6_192 hR.1 rfl (r_stepOn hR hH d8.2.2.1 d3) (g_rm (by omega)) (Nat.le_of_ble_eq_true rfl) (fun M100 e100 => ?_)
            have yl : isW t n e w_law := hr3 e rfl (by omega)
            refine g_aload_n0 dX6_readLine_103 rfl ?_
            refine g_callVv0 dX6_readLine_104 rfl vX6_240 hR.1 rfl (r_readLaw hR (hH.s e100.1) (RD.s e100.1 d1 d8.2.2.1 e100.2) (hP.t e100.1.t) (fun _ _ => hl2 e rfl yl)) (g_rm (by omega)) (Nat.le_of_ble_eq_true rfl) (fun M104 e104 => ?_)
            refine g_goto (t := 148) dX6_readLine_107 (by decide) ?_
            exact hk _ (by show RDP t n (pIf t n e w_person _ _) _; rw [pIf_neg n_person, pIf_neg n_thing, pIf_neg n_owes, pIf_pos yl]; exact e104.1) (frP.tr e100.1.t.p e104.2)
      · -- 77 f
        obtain ⟨e, rfl, y_owes, hD74, hf74⟩ : ∃ e, ρ = .inr e ∧ isW t n e w_owes ∧ RD t n (.inr (tkE t n e)) M74 ∧ frT M58 M74 := by
          rcases e74 with ⟨e9, h1, h2, h3, h4, h5⟩ | ⟨h1, h2, h3⟩
          · exact ⟨e9, h1, h2, h4, h5⟩
          · omega
        clear e74
        refine g_aload_n0 dX6_readLine_80 rfl ?_
        refine g_callVv0 dX6_readLine_81 rfl vX6_237 hR.1 rfl (r_readOwes hR (hH.t hf74) hD74 (hP.t hf74) hV) (g_rm (by omega)) (Nat.le_of_ble_eq_true rfl) (fun M81 e81 => ?_)
        refine g_goto (t := 148) dX6_readLine_84 (by decide) ?_
        first
          | (have hz := e49
             refine hk _ ?_ hz.2
             show RDP t n (pIf t n e w_person _ _) _
             rw [pIf_pos y_person]; exact hz.1)
          | (have hz := e65
             refine hk _ ?_ hz.2
             show RDP t n (pIf t n e w_person _ _) _
             rw [pIf_neg n_person, pIf_pos y_thing]; exact hz.1)
          | (have hz := e81
             refine hk _ ?_ (frP.tr hf74.p hz.2)
             show RDP t n (pIf t n e w_person _ _) _
             rw [pIf_neg n_person, pIf_neg n_thing, pIf_pos y_owes]; exact hz.1)
          | (have hz := e145
             refine hk _ ?_ hz.2.1.p
             cases ρ with
             | inl q => exact hz.1
             | inr e =>
               have hnl : ¬ isW t n e w_law := fun h => by have := hr1 e rfl h; omega
               have hnw : ¬ isW t n e w_within := fun h => by have := hr2 e rfl h; omega
               show RDP t n (pIf t n e w_person _ _) _
               rw [pIf_neg n_person, pIf_neg n_thing, pIf_neg n_owes, pIf_neg hnl, pIf_neg hnw]; exact hz.1)
    · -- 61 f
      have y_thing := f58.mp (by omega)
      clear f58 e58
      obtain ⟨e, rfl⟩ : ∃ e, ρ = .inr e := by
        cases ρ with
        | inl q => exact y_thing.elim
        | inr e => exact ⟨e, rfl⟩
      refine g_aload_n0 dX6_readLine_64 rfl ?_
      refine g_callVv0 dX6_readLine_65 rfl vX6_232 hR.1 rfl (r_readThing hR hH hD hP hV) (g_rm (by omega)) (Nat.le_of_ble_eq_true rfl) (fun M65 e65 => ?_)
      refine g_goto (t := 148) dX6_readLine_68 (by decide) ?_
      first
        | (have hz := e49
           refine hk _ ?_ hz.2
           show RDP t n (pIf t n e w_person _ _) _
           rw [pIf_pos y_person]; exact hz.1)
        | (have hz := e65
           refine hk _ ?_ hz.2
           show RDP t n (pIf t n e w_person _ _) _
           rw [pIf_neg n_person, pIf_pos y_thing]; exact hz.1)
        | (have hz := e81
           refine hk _ ?_ (frP.tr hf74.p hz.2)
           show RDP t n (pIf t n e w_person _ _) _
           rw [pIf_neg n_person, pIf_neg n_thing, pIf_pos y_owes]; exact hz.1)
        | (have hz := e145
           refine hk _ ?_ hz.2.1.p
           cases ρ with
           | inl q => exact hz.1
           | inr e =>
             have hnl : ¬ isW t n e w_law := fun h => by have := hr1 e rfl h; omega
             have hnw : ¬ isW t n e w_within := fun h => by have := hr2 e rfl h; omega
             show RDP t n (pIf t n e w_person _ _) _
             rw [pIf_neg n_person, pIf_neg n_thing, pIf_neg n_owes, pIf_neg hnl, pIf_neg hnw]; exact hz.1)
  · -- 45 f
    have y_person := f42.mp (by omega)
    clear f42 e42
    obtain ⟨e, rfl⟩ : ∃ e, ρ = .inr e := by
      cases ρ with
      | inl q => exact y_person.elim
      | inr e => exact ⟨e, rfl⟩
    refine g_aload_n0 dX6_readLine_48 rfl ?_
    refine g_callVv0 dX6_readLine_49 rfl vX6_227 hR.1 rfl (r_readOne hR hKd hH hD hP hV hKm) (g_rm (by omega)) (Nat.le_of_ble_eq_true rfl) (fun M49 e49 => ?_)
    refine g_goto (t := 148) dX6_readLine_52 (by decide) ?_
    first
      | (have hz := e49
         refine hk _ ?_ hz.2
         show RDP t n (pIf t n e w_person _ _) _
         rw [pIf_pos y_person]; exact hz.1)
      | (have hz := e65
         refine hk _ ?_ hz.2
         show RDP t n (pIf t n e w_person _ _) _
         rw [pIf_neg n_person, pIf_pos y_thing]; exact hz.1)
      | (have hz := e81
         refine hk _ ?_ (frP.tr hf74.p hz.2)
         show RDP t n (pIf t n e w_person _ _) _
         rw [pIf_neg n_person, pIf_neg n_thing, pIf_pos y_owes]; exact hz.1)
      | (have hz := e145
         refine hk _ ?_ hz.2.1.p
         cases ρ with
         | inl q => exact hz.1
         | inr e =>
           have hnl : ¬ isW t n e w_law := fun h => by have := hr1 e rfl h; omega
           have hnw : ¬ isW t n e w_within := fun h => by have := hr2 e rfl h; omega
           show RDP t n (pIf t n e w_person _ _) _
           rw [pIf_neg n_person, pIf_neg n_thing, pIf_neg n_owes, pIf_neg hnl, pIf_neg hnw]; exact hz.1)
