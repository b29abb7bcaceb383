/-- what is there stays -/
def gKp (σ σ' : gGt) : Prop := σ.1 ≤ σ'.1 ∧ ∀ k, k < σ.1 → σ'.2.1 k = σ.2.1 k ∧ σ'.2.2.1 k = σ.2.2.1 k
theorem gKp.rf {σ : gGt} : gKp σ σ := ⟨Nat.le_refl _, fun _ _ => ⟨rfl, rfl⟩⟩
theorem gKp.tr {σ σ1 σ2 : gGt} (h : gKp σ σ1) (h2 : gKp σ1 σ2) : gKp σ σ2 := ⟨Nat.le_trans h.1 h2.1, fun k hk => ⟨by rw [(h2.2 k (Nat.lt_of_lt_of_le hk h.1)).1, (h.2 k hk).1], by rw [(h2.2 k (Nat.lt_of_lt_of_le hk h.1)).2, (h.2 k hk).2]⟩⟩
theorem gcome_kp {T : gTw} {b : Int} {σ : gGt} : gKp σ (gcome T b σ) := by
  by_cases h : ∃ k, k < σ.1 ∧ σ.2.1 k = T
  · rw [gcome_old h]; exact gKp.rf
  · by_cases h2 : σ.1 = 1000
    · rw [gcome_full h h2]; exact gKp.rf
    · rw [gcome_new h h2]; exact ⟨Nat.le_succ _, fun k hk => ⟨if_neg (by omega), if_neg (by omega)⟩⟩
theorem gTak_kp {T : gTw} {p u k : Nat} {b : Int} {σ : gGt} : gKp σ (gTak T p u b k σ) := by
  rw [gTak]; split
  · exact gcome_kp
  · exact gKp.rf
theorem gfold_kp {f : Nat → gGt → gGt} (hf : ∀ u σ, gKp σ (f u σ)) : ∀ (n : Nat) (σ : gGt), gKp σ (gfold f n σ) := by
  intro n
  induction n with
  | zero => intro σ; exact gKp.rf
  | succ n ih => intro σ; exact gKp.tr (ih σ) (hf n _)
theorem gSet_kp {T : gTw} {p u : Nat} {b : Int} {σ : gGt} : gKp σ (gSet T p b u σ) := by
  by_cases hf : fitT T p u
  · rw [gSet, if_pos hf]; exact gfold_kp (fun u σ => gTak_kp) _ _
  · rw [gSet, if_neg hf]; exact gKp.rf
theorem gPer_kp {T : gTw} {who p : Nat} {b : Int} {σ : gGt} : gKp σ (gPer T who b p σ) := by
  rw [gPer]; split
  · exact gfold_kp (fun u σ => gSet_kp) _ _
  · split
    · exact gKp.rf
    · exact gcome_kp
def frH (M M' : gM) : Prop := (∀ j, j ≠ 300 → j ≠ 438 → j ≠ 439 → j ≠ 440 → j ≠ 441 → j ≠ 442 → j ≠ 443 → M'.1 j = M.1 j) ∧ M'.2 = M.2 ∧ ∀ k, k ≠ 44 → k ≠ 45 → M'.1 300 k = M.1 300 k
theorem frH.rf {M : gM} : frH M M := ⟨fun _ _ _ _ _ _ _ _ => rfl, rfl, fun _ _ _ => rfl⟩
theorem frH.tr {M M1 M2 : gM} (h : frH M M1) (h2 : frH M1 M2) : frH M M2 := ⟨fun j a b c d e f g => by rw [h2.1 j a b c d e f g, h.1 j a b c d e f g], by rw [h2.2.1, h.2.1], fun k a b => by rw [h2.2.2 k a b, h.2.2 k a b]⟩
theorem frG.h {M M1 : gM} (h : frG M M1) : frH M M1 := ⟨fun j a b c d e _ g => h.1 j a b c d e g, h.2.1, h.2.2⟩
theorem CR.h {T : gTw} {M M' : gM} (h : CR T M) (hf : frH M M') : CR T M' := by
  unfold CR at h ⊢
  rw [hf.1 402 (by decide) (by decide) (by decide) (by decide) (by decide) (by decide) (by decide), hf.1 403 (by decide) (by decide) (by decide) (by decide) (by decide) (by decide) (by decide), hf.1 404 (by decide) (by decide) (by decide) (by decide) (by decide) (by decide) (by decide), hf.1 405 (by decide) (by decide) (by decide) (by decide) (by decide) (by decide) (by decide)]
  exact h
theorem WR.h {T : gTw} {M M' : gM} (h : WR T M) (hf : frH M M') : WR T M' := by
  unfold WR at h ⊢
  rw [hf.1 409 (by decide) (by decide) (by decide) (by decide) (by decide) (by decide) (by decide)]
  exact h
theorem GTR.m442 {T0 : gTw} {r0 f : Nat → Int32} {σ : gGt} {M : gM} (h : GTR T0 r0 σ M) : GTR T0 r0 σ (g_row M 442 f) := h
set_option maxHeartbeats 1200000 in
theorem l_get1 {Γ : gW} {M : gM} (hR : g_Ref Γ) {a b : Int32} {Q : Option Value → gM → Prop} (hk : ∀ i : Int32, G Γ μX6_get (g_R 5) (0, 0) (g_Z Γ Q) 49 [some (.ref 300), some (.int a), some (.int b), some (.int i), none, none] [] (rowI M 441 (fun _ => -1) 4096)) : ∀ (n9 : Nat) (i : Int32), 4096 - i.toInt.toNat = n9 → 0 ≤ i.toInt → i.toInt.toNat ≤ 4096 → G Γ μX6_get (g_R 5) (0, 0) (g_Z Γ Q) 29 [some (.ref 300), some (.int a), some (.int b), some (.int i), none, none] [] (rowI M 441 (fun _ => -1) i.toInt.toNat) := by
  intro n9
  induction n9 using Nat.strongRecOn with
  | ind n9 ih =>
    intro i hn hi0 hi1
    refine g_iload_n3 dX6_get_29 rfl ?_
    refine g_sipushI dX6_get_30 rfl rfl (fun w30 h30 => ?_)
    refine g_icmp_geI (t := 49) dX6_get_33 (by decide) rfl (fun c33 => ?_) (fun c33 => ?_)
    · -- 33 t
      have h := hk i
      rw [show 4096 = i.toInt.toNat by omega] at h
      exact h
    · -- 33 f
      refine g_aload_n0 dX6_get_36 rfl ?_
      refine g_getr dX6_get_37 rfl fX6_97 hR.1 rfl ?_
      refine g_iload_n3 dX6_get_40 rfl ?_
      refine g_iconstI dX6_get_41 rfl rfl (fun w41 h41 => ?_)
      refine g_iastI dX6_get_42 rfl (rf_heads hR) ⟨by omega, by omega⟩ ?_
      refine g_iincI3 dX6_get_43 rfl rfl rfl ⟨by omega, by omega⟩ (fun w43 h43 => ?_)
      refine g_goto (t := 29) dX6_get_46 (by decide) ?_
      have h := ih _ (by omega) w43 rfl (by omega) (by omega)
      rw [h43, show (i.toInt + 1).toNat = i.toInt.toNat + 1 by omega, ← rowI_step (x := w41) (i_ext (by rw [h41]; rfl))] at h
      exact h
set_option maxHeartbeats 1200000 in
theorem l_get2 {Γ : gW} {M : gM} (hR : g_Ref Γ) {a b : Int32} {z kI : Int32} {k : Nat} (hk : kI.toInt = (k : Int)) (hk2 : k < 1000) {Q : Option Value → gM → Prop} (hQ : ∀ i : Int32, G Γ μX6_get (g_R 5) (0, 0) (g_Z Γ Q) 125 [some (.ref 300), some (.int a), some (.int b), some (.int z), some (.int kI), some (.int i)] [] (rowI M 442 (stR M k) 30)) : ∀ (n9 : Nat) (i : Int32), 30 - i.toInt.toNat = n9 → 0 ≤ i.toInt → i.toInt.toNat ≤ 30 → G Γ μX6_get (g_R 5) (0, 0) (g_Z Γ Q) 92 [some (.ref 300), some (.int a), some (.int b), some (.int z), some (.int kI), some (.int i)] [] (rowI M 442 (stR M k) i.toInt.toNat) := by
  intro n9
  induction n9 using Nat.strongRecOn with
  | ind n9 ih =>
    intro i hn hi0 hi1
    refine g_iload5 dX6_get_92 rfl ?_
    refine g_bipushI dX6_get_94 rfl rfl (fun w94 h94 => ?_)
    refine g_icmp_geI (t := 125) dX6_get_96 (by decide) rfl (fun c96 => ?_) (fun c96 => ?_)
    · -- 96 t
      have h := hQ i
      rw [show 30 = i.toInt.toNat by omega] at h
      exact h
    · -- 96 f
      refine g_aload_n0 dX6_get_99 rfl ?_
      refine g_getr dX6_get_100 rfl fX6_100 hR.1 rfl ?_
      refine g_iload5 dX6_get_103 rfl ?_
      refine g_aload_n0 dX6_get_105 rfl ?_
      refine g_getr dX6_get_106 rfl fX6_88 hR.1 rfl ?_
      refine g_bipushI dX6_get_109 rfl rfl (fun w109 h109 => ?_)
      refine g_iload4 dX6_get_111 rfl ?_
      refine g_imulI dX6_get_113 rfl ⟨by rw [h109]; omega, by rw [h109]; omega⟩ (fun w113 h113 => ?_)
      rw [h109] at h113
      refine g_iload5 dX6_get_114 rfl ?_
      refine g_iaddI dX6_get_116 rfl ⟨by omega, by omega⟩ (fun w116 h116 => ?_)
      refine g_ialdI dX6_get_117 rfl (rf_states hR) ⟨by omega, by omega⟩ ?_
      have i117 : w116.toInt.toNat = 30 * k + i.toInt.toNat := by omega
      rw [rowI_ne (show (438 : Nat) ≠ 442 by decide), i117]
      clear i117
      refine g_iastI dX6_get_118 rfl (rf_row hR) ⟨by omega, by omega⟩ ?_
      refine g_iincI5 dX6_get_119 rfl rfl rfl ⟨by omega, by omega⟩ (fun w119 h119 => ?_)
      refine g_goto (t := 92) dX6_get_122 (by decide) ?_
      have h := ih _ (by omega) w119 rfl (by omega) (by omega)
      rw [h119, show (i.toInt + 1).toNat = i.toInt.toNat + 1 by omega, ← rowI_step (f := stR M k) (x := M.1 438 (30 * k + i.toInt.toNat)) rfl] at h
      exact h
set_option maxHeartbeats 1200000 in
theorem l_get3 {Γ : gW} {M0 : gM} {T0 T : gTw} {r0 : Nat → Int32} {σ0 : gGt} (hR : g_Ref Γ) (hI : INV T) (hX : TX T0 T) (hC0 : CR T M0) (hW0 : WR T M0) (hA0 : RW T (M0.1 442)) (hRX0 : RX T0 r0 (M0.1 442)) (hdy0 : (M0.1 300 12).toInt = T 0 4) {a b z kI : Int32} {k : Nat} (hkI : kI.toInt = (k : Int)) (hk2 : k < σ0.1) (ha : 0 ≤ a.toInt) {Q : Option Value → gM → Prop} (hk : ∀ (M : gM) (p : Int32), frG M0 M → GTR T0 r0 (gfold (gPer T a.toInt.toNat (σ0.2.2.1 k + 1)) (T 0 0).toNat σ0) M → G Γ μX6_get (g_R 5) (0, 0) (g_Z Γ Q) 198 [some (.ref 300), some (.int a), some (.int b), some (.int z), some (.int kI), some (.int p)] [] M) : ∀ (n9 : Nat) (p : Int32) (M : gM), 6 - p.toInt.toNat = n9 → 0 ≤ p.toInt → p.toInt ≤ T 0 0 → frG M0 M → GTR T0 r0 (gfold (gPer T a.toInt.toNat (σ0.2.2.1 k + 1)) p.toInt.toNat σ0) M → G Γ μX6_get (g_R 5) (0, 0) (g_Z Γ Q) 158 [some (.ref 300), some (.int a), some (.int b), some (.int z), some (.int kI), some (.int p)] [] M := by
  intro n9
  induction n9 using Nat.strongRecOn with
  | ind n9 ih =>
    intro p M h9 hp0 hp1 hfr hG
    have hO := hI.1
    have e442 : M.1 442 = M0.1 442 := hfr.1 442 (by decide) (by decide) (by decide) (by decide) (by decide) (by decide)
    have hC := CR.g hC0 hfr
    have hW := WR.g hW0 hfr
    have hA : RW T (M.1 442) := by rw [e442]; exact hA0
    have hRX : RX T0 r0 (M.1 442) := by rw [e442]; exact hRX0
    have hdy : (M.1 300 12).toInt = T 0 4 := by rw [hfr.2.2 12 (by decide) (by decide)]; exact hdy0
    obtain ⟨o_pe, o_th, o_la, o_wi, o_da, o_we, o_p, o_i⟩ := id hO
    obtain ⟨r_0, r_1, r_2, r_3, r_p, r_i⟩ := id hC
    have ep : ((2 ^ (T 0 1).toNat : Nat) : Int) = (2 : Int) ^ (T 0 1).toNat := by simp
    have hp12 : 2 ^ (T 0 1).toNat ≤ 2 ^ 12 := Nat.pow_le_pow_right (by decide) (by omega)
    have hp12e : (2 : Nat) ^ 12 = 4096 := rfl
    clear o_p o_i r_p r_i o_la o_da o_we
    obtain ⟨g1, g2, g3, g4, g5, -⟩ := id hG
    have hkp := gfold_kp (f := (gPer T a.toInt.toNat (σ0.2.2.1 k + 1))) (fun u σ => gPer_kp) p.toInt.toNat σ0
    obtain ⟨-, -, -, -, g6, g7, g8⟩ := g5 k (Nat.lt_of_lt_of_le hk2 hkp.1)
    have g9 := (hkp.2 k hk2).2
    have g10 := hkp.1
    rw [g9] at g6 g7 g8
    clear hkp g5 g9
    refine g_iload5 dX6_get_158 rfl ?_
    refine g_aload_n0 dX6_get_160 rfl ?_
    refine g_getr dX6_get_161 rfl fX6_25 hR.1 rfl ?_
    refine g_iconstI dX6_get_164 rfl rfl (fun w164 h164 => ?_)
    refine g_ialdI dX6_get_165 rfl (rf_told hR) ⟨by omega, by omega⟩ ?_
    have et165 : w164.toInt.toNat = 0 := by omega
    rw [et165]
    clear et165
    refine g_icmp_geI (t := 198) dX6_get_166 (by decide) rfl (fun c166 => ?_) (fun c166 => ?_)
    · -- 166 t
      refine hk M p hfr ?_
      first
        | (have hz := hend
           rw [gfold_tail (i := p.toInt.toNat) _ (by omega) (fun u _ _ => gPer_end (g4.elim (fun h => absurd h hz) id))]; exact hG)
        | (rw [show (T 0 0).toNat = p.toInt.toNat by omega]; exact hG)
    · -- 166 f
      refine g_aload_n0 dX6_get_169 rfl ?_
      refine g_geti dX6_get_170 rfl fX6_358 hR.1 rfl ?_
      refine g_if_neI (t := 198) dX6_get_173 (by decide) rfl (fun c173 => ?_) (fun c173 => ?_)
      · -- 173 t
        have hend : ¬ (gfold (gPer T a.toInt.toNat (σ0.2.2.1 k + 1)) p.toInt.toNat σ0).2.2.2 = 0 := by omega
        refine hk M p hfr ?_
        first
          | (have hz := hend
             rw [gfold_tail (i := p.toInt.toNat) _ (by omega) (fun u _ _ => gPer_end (g4.elim (fun h => absurd h hz) id))]; exact hG)
          | (rw [show (T 0 0).toNat = p.toInt.toNat by omega]; exact hG)
      · -- 173 f
        refine g_aload_n0 dX6_get_176 rfl ?_
        refine g_iload5 dX6_get_177 rfl ?_
        refine g_iload_n1 dX6_get_179 rfl ?_
        refine g_aload_n0 dX6_get_180 rfl ?_
        refine g_getr dX6_get_181 rfl fX6_91 hR.1 rfl ?_
        refine g_iload4 dX6_get_184 rfl ?_
        refine g_ialdI dX6_get_186 rfl (rf_steps hR) ⟨by omega, by omega⟩ ?_
        have i186 : kI.toInt.toNat = k := by omega
        rw [i186]
        clear i186
        refine g_iconstI dX6_get_187 rfl rfl (fun w187 h187 => ?_)
        refine g_iaddI dX6_get_188 rfl ⟨by omega, by omega⟩ (fun w188 h188 => ?_)
        refine g_callVv3 dX6_get_189 rfl vX6_368 hR.1 rfl (r_goOn hR hI hX hC hW hA hRX ⟨by omega, by omega⟩ ⟨hp0, by omega⟩ hG hdy ha) (g_rm (by omega)) (Nat.le_of_ble_eq_true rfl) (fun M189 e189 => ?_)
        rw [show w188.toInt = σ0.2.2.1 k + 1 by omega] at e189
        refine g_iincI5 dX6_get_192 rfl rfl rfl ⟨by omega, by omega⟩ (fun w192 h192 => ?_)
        refine g_goto (t := 158) dX6_get_195 (by decide) ?_
        have e1 : w192.toInt.toNat = p.toInt.toNat + 1 := by omega
        refine ih _ (by omega) _ _ rfl (by omega) (by omega) (frG.tr hfr e189.2) ?_
        rw [e1]
        exact e189.1
set_option maxHeartbeats 1200000 in
theorem l_get4 {Γ : gW} {M0 : gM} {T : gTw} {s0 : gGt × Int} {r0 : Nat → Int32} (hR : g_Ref Γ) (hI0 : INV T) (hC0 : CR T M0) (hW0 : WR T M0) (hdy0 : (M0.1 300 12).toInt = T 0 4) {a b : Int32} (ha : 0 ≤ a.toInt ∧ a.toInt < T 0 0) (hb : 0 ≤ b.toInt ∧ b.toInt < T 0 1) {Q : Option Value → gM → Prop} (hQ : ∀ (M : gM) (z : Int32), frH M0 M → z.toInt = (if (gfold (gStK a.toInt.toNat b.toInt.toNat) 1000 s0).1.2.2.2 = 0 then (gfold (gStK a.toInt.toNat b.toInt.toNat) 1000 s0).2 else -2) → Q (some (.int z)) M) : ∀ (n9 : Nat) (z k : Int32) (v5 : Option Value) (M : gM), 1000 - k.toInt.toNat = n9 → 0 ≤ k.toInt → k.toInt ≤ 1000 → frH M0 M → GTR T r0 (gfold (gStK a.toInt.toNat b.toInt.toNat) k.toInt.toNat s0).1 M → z.toInt = (gfold (gStK a.toInt.toNat b.toInt.toNat) k.toInt.toNat s0).2 → G Γ μX6_get (g_R 5) (0, 0) (g_Z Γ Q) 73 [some (.ref 300), some (.int a), some (.int b), some (.int z), some (.int k), v5] [] M := by
  intro n9
  induction n9 using Nat.strongRecOn with
  | ind n9 ih =>
    intro z k v5 M h9 hk0 hk1 hfr hG hz
    have hO := hI0.1
    have hC := CR.h hC0 hfr
    have hW := WR.h hW0 hfr
    have hdy : (M.1 300 12).toInt = T 0 4 := by rw [hfr.2.2 12 (by decide) (by decide)]; exact hdy0
    obtain ⟨o_pe, o_th, o_la, o_wi, o_da, o_we, o_p, o_i⟩ := id hO
    obtain ⟨r_0, r_1, r_2, r_3, r_p, r_i⟩ := id hC
    clear o_p o_i r_p r_i o_la o_da o_we
    obtain ⟨g1, g2, g3, g4, g5, -⟩ := id hG
    have hstop : ¬ (k.toInt.toNat < (gfold (gStK a.toInt.toNat b.toInt.toNat) k.toInt.toNat s0).1.1 ∧ (gfold (gStK a.toInt.toNat b.toInt.toNat) k.toInt.toNat s0).1.2.2.2 = 0) → gfold (gStK a.toInt.toNat b.toInt.toNat) 1000 s0 = (gfold (gStK a.toInt.toNat b.toInt.toNat) k.toInt.toNat s0) := fun h => by
      refine gfold_tail (i := k.toInt.toNat) 1000 (by omega) (fun u a _ => ?_)
      rw [gStK, if_neg (fun hc => h ⟨by omega, hc.2⟩)]
    refine g_iload4 dX6_get_73 rfl ?_
    refine g_aload_n0 dX6_get_75 rfl ?_
    refine g_geti dX6_get_76 rfl fX6_355 hR.1 rfl ?_
    refine g_icmp_geI (t := 204) dX6_get_79 (by decide) rfl (fun c79 => ?_) (fun c79 => ?_)
    · -- 79 t
      refine g_aload_n0 dX6_get_204 rfl ?_
      refine g_geti dX6_get_205 rfl fX6_358 hR.1 rfl ?_
      refine g_if_eqI (t := 216) dX6_get_208 (by decide) rfl (fun c208 => ?_) (fun c208 => ?_)
      · -- 208 t
        refine g_iload_n3 dX6_get_216 rfl ?_
        refine g_iret dX6_get_217 rfl ?_
        refine hQ _ _ hfr ?_
        first
          | (rw [hstop (by omega), if_neg (by omega)]; exact h211)
          | (rw [hstop (by omega), if_pos (by omega)]; exact hz)
      · -- 208 f
        refine g_bipushI dX6_get_211 rfl rfl (fun w211 h211 => ?_)
        refine g_goto (t := 217) dX6_get_213 (by decide) ?_
        refine g_iret dX6_get_217 rfl ?_
        refine hQ _ _ hfr ?_
        first
          | (rw [hstop (by omega), if_neg (by omega)]; exact h211)
          | (rw [hstop (by omega), if_pos (by omega)]; exact hz)
    · -- 79 f
      refine g_aload_n0 dX6_get_82 rfl ?_
      refine g_geti dX6_get_83 rfl fX6_358 hR.1 rfl ?_
      refine g_if_neI (t := 204) dX6_get_86 (by decide) rfl (fun c86 => ?_) (fun c86 => ?_)
      · -- 86 t
        refine g_aload_n0 dX6_get_204 rfl ?_
        refine g_geti dX6_get_205 rfl fX6_358 hR.1 rfl ?_
        refine g_if_eqI (t := 216) dX6_get_208 (by decide) rfl (fun c208 => ?_) (fun c208 => ?_)
        · -- 208 t
          refine g_iload_n3 dX6_get_216 rfl ?_
          refine g_iret dX6_get_217 rfl ?_
          refine hQ _ _ hfr ?_
          first
            | (rw [hstop (by omega), if_neg (by omega)]; exact h211)
            | (rw [hstop (by omega), if_pos (by omega)]; exact hz)
        · -- 208 f
          refine g_bipushI dX6_get_211 rfl rfl (fun w211 h211 => ?_)
          refine g_goto (t := 217) dX6_get_213 (by decide) ?_
          refine g_iret dX6_get_217 rfl ?_
          refine hQ _ _ hfr ?_
          first
            | (rw [hstop (by omega), if_neg (by omega)]; exact h211)
            | (rw [hstop (by omega), if_pos (by omega)]; exact hz)
      · -- 86 f
        refine g_iconstI dX6_get_89 rfl rfl (fun w89 h89 => ?_)
        refine g_istore5 dX6_get_90 rfl rfl ?_
        obtain ⟨t1, t2, t3, t4, t5, t6, t7⟩ := g5 k.toInt.toNat (by omega)
        clear g5 hstop
        refine g_fwd (l_get2 hR (M := M) (z := z) (kI := k) (k := k.toInt.toNat) (by omega) (by omega) (fun i => ?_) _ w89 rfl (by omega) (by omega)) (by rw [h89, show (0 : Int).toNat = 0 from rfl, rowI_0])
        obtain ⟨M2, hM2⟩ : ∃ M2, M2 = rowI M 442 (stR M k.toInt.toNat) 30 := ⟨_, rfl⟩
        refine g_fwd (M1 := M2) ?_ hM2
        have hfrA : frH M M2 := by rw [hM2]; exact ⟨fun j a b c d e f g => by rw [rowI_ne f], rfl, fun _ _ _ => rfl⟩
        obtain ⟨Tk, hTkk⟩ : ∃ Tk, Tk = (gfold (gStK a.toInt.toNat b.toInt.toNat) k.toInt.toNat s0).1.2.1 k.toInt.toNat := ⟨_, rfl⟩
        rw [← hTkk] at t1 t2 t3
        have tI := t1
        have tX := t2
        have tA : RW Tk (M2.1 442) := RW.ext t1.1 t3 (fun j hj => by rw [hM2, rowI_at, if_pos hj])
        have tRX : RX T r0 (M2.1 442) := RX.ext t4 (fun j hj => by rw [hM2, rowI_at, if_pos hj])
        have hG2 : GTR T r0 (gfold (gStK a.toInt.toNat b.toInt.toNat) k.toInt.toNat s0).1 M2 := by rw [hM2, rowI]; exact GTR.m442 hG
        have hTk := tX.o
        have hC2 := CR.h hC hfrA
        have hW2 := WR.h hW hfrA
        have hdy2 : (M2.1 300 12).toInt = T 0 4 := by rw [hfrA.2.2 12 (by decide) (by decide)]; exact hdy
        obtain ⟨-, -, -, a_h⟩ := tA.1 a.toInt.toNat (by rw [hTk]; omega)
        replace t5 : (M2.1 439 k.toInt.toNat).toInt = (gfold (gStK a.toInt.toNat b.toInt.toNat) k.toInt.toNat s0).1.2.2.1 k.toInt.toNat := by rw [hM2, rowI_ne (by decide)]; exact t5
        have a_1 := hTk 1
        clear hM2 t3 t4 hG
        rw [hTkk] at a_h tI tX tA hTk a_1
        refine g_aload_n0 dX6_get_125 rfl ?_
        refine g_getr dX6_get_126 rfl fX6_100 hR.1 rfl ?_
        refine g_iload_n2 dX6_get_129 rfl ?_
        refine g_ialdI dX6_get_130 rfl (rf_row hR) ⟨by omega, by omega⟩ ?_
        refine g_iload_n1 dX6_get_131 rfl ?_
        refine g_icmp_neI (t := 155) dX6_get_132 (by decide) rfl (fun c132 => ?_) (fun c132 => ?_)
        · -- 132 t
          have hnh : ¬ (hasT ((gfold (gStK a.toInt.toNat b.toInt.toNat) k.toInt.toNat s0).1.2.1 k.toInt.toNat) a.toInt.toNat).testBit b.toInt.toNat = true := fun h => by have := ((a_h b.toInt.toNat).mp h).2; omega
          refine g_iconstI dX6_get_155 rfl rfl (fun w155 h155 => ?_)
          refine g_istore5 dX6_get_156 rfl rfl ?_
          refine l_get3 (σ0 := (gfold (gStK a.toInt.toNat b.toInt.toNat) k.toInt.toNat s0).1) hR tI tX (CR.tx hC2 tX) (WR.tx hW2 tX) tA tRX (by rw [hdy2]; exact (hTk 4).symm) (k := k.toInt.toNat) (by omega) (by omega) ha.1 (fun M3 p hfr3 hG3 => ?_) _ _ _ rfl (by omega) (by rw [hTk]; omega) frG.rf (by rw [h155, show (0 : Int).toNat = 0 from rfl]; exact hG2)
          refine g_iincI4 dX6_get_198 rfl rfl rfl ⟨by omega, by omega⟩ (fun w198 h198 => ?_)
          refine g_goto (t := 73) dX6_get_201 (by decide) ?_
          have e1 : w198.toInt.toNat = k.toInt.toNat + 1 := by omega
          refine ih _ (by omega) _ _ _ _ rfl (by omega) (by omega) (frH.tr hfr (frH.tr hfrA hfr3.h)) ?_ ?_
          · rw [e1]
            show GTR T r0 (gStK a.toInt.toNat b.toInt.toNat k.toInt.toNat (gfold _ k.toInt.toNat s0)).1 _
            rw [gStK, if_pos ⟨by omega, by omega⟩, if_neg hnh]; exact hG3
          · rw [e1]
            show _ = (gStK a.toInt.toNat b.toInt.toNat k.toInt.toNat (gfold _ k.toInt.toNat s0)).2
            rw [gStK, if_pos ⟨by omega, by omega⟩, if_neg hnh]; exact hz
        · -- 132 f
          have hyh : (hasT ((gfold (gStK a.toInt.toNat b.toInt.toNat) k.toInt.toNat s0).1.2.1 k.toInt.toNat) a.toInt.toNat).testBit b.toInt.toNat = true := (a_h b.toInt.toNat).mpr ⟨by omega, by omega⟩
          refine g_iload_n3 dX6_get_135 rfl ?_
          refine g_iconstI dX6_get_136 rfl rfl (fun w136 h136 => ?_)
          refine g_icmp_neI (t := 150) dX6_get_137 (by decide) rfl (fun c137 => ?_) (fun c137 => ?_)
          · -- 137 t
            refine g_iload_n3 dX6_get_150 rfl ?_
            refine g_istore_n3 dX6_get_151 rfl rfl ?_
            refine g_goto (t := 198) dX6_get_152 (by decide) ?_
            refine g_iincI4 dX6_get_198 rfl rfl rfl ⟨by omega, by omega⟩ (fun w198 h198 => ?_)
            refine g_goto (t := 73) dX6_get_201 (by decide) ?_
            first
              | (have hq : z.toInt = -1 := by first | omega | exact hzz
                 have e1 : w198.toInt.toNat = k.toInt.toNat + 1 := by omega
                 refine ih _ (by omega) _ _ _ _ rfl (by omega) (by omega) (frH.tr hfr hfrA) ?_ ?_
                 · rw [e1]
                   show GTR T r0 (gStK a.toInt.toNat b.toInt.toNat k.toInt.toNat (gfold _ k.toInt.toNat s0)).1 _
                   rw [gStK, if_pos ⟨by omega, by omega⟩, if_pos hyh]; exact hG2
                 · rw [e1]
                   show _ = (gStK a.toInt.toNat b.toInt.toNat k.toInt.toNat (gfold _ k.toInt.toNat s0)).2
                   rw [gStK, if_pos ⟨by omega, by omega⟩, if_pos hyh]; show _ = if _ = -1 then _ else _; rw [← hz, if_pos hq]; exact t5)
              | (have hq : ¬ z.toInt = -1 := by omega
                 have e1 : w198.toInt.toNat = k.toInt.toNat + 1 := by omega
                 refine ih _ (by omega) _ _ _ _ rfl (by omega) (by omega) (frH.tr hfr hfrA) ?_ ?_
                 · rw [e1]
                   show GTR T r0 (gStK a.toInt.toNat b.toInt.toNat k.toInt.toNat (gfold _ k.toInt.toNat s0)).1 _
                   rw [gStK, if_pos ⟨by omega, by omega⟩, if_pos hyh]; exact hG2
                 · rw [e1]
                   show _ = (gStK a.toInt.toNat b.toInt.toNat k.toInt.toNat (gfold _ k.toInt.toNat s0)).2
                   rw [gStK, if_pos ⟨by omega, by omega⟩, if_pos hyh]; show _ = if _ = -1 then _ else _; rw [← hz, if_neg hq])
          · -- 137 f
            refine g_aload_n0 dX6_get_140 rfl ?_
            refine g_getr dX6_get_141 rfl fX6_91 hR.1 rfl ?_
            refine g_iload4 dX6_get_144 rfl ?_
            refine g_ialdI dX6_get_146 rfl (rf_steps hR) ⟨by omega, by omega⟩ ?_
            have i146 := t7
            clear i146
            refine g_goto (t := 151) dX6_get_147 (by decide) ?_
            refine g_istore_n3 dX6_get_151 rfl rfl ?_
            refine g_goto (t := 198) dX6_get_152 (by decide) ?_
            refine g_iincI4 dX6_get_198 rfl rfl rfl ⟨by omega, by omega⟩ (fun w198 h198 => ?_)
            refine g_goto (t := 73) dX6_get_201 (by decide) ?_
            first
              | (have hq : z.toInt = -1 := by first | omega | exact hzz
                 have e1 : w198.toInt.toNat = k.toInt.toNat + 1 := by omega
                 refine ih _ (by omega) _ _ _ _ rfl (by omega) (by omega) (frH.tr hfr hfrA) ?_ ?_
                 · rw [e1]
                   show GTR T r0 (gStK a.toInt.toNat b.toInt.toNat k.toInt.toNat (gfold _ k.toInt.toNat s0)).1 _
                   rw [gStK, if_pos ⟨by omega, by omega⟩, if_pos hyh]; exact hG2
                 · rw [e1]
                   show _ = (gStK a.toInt.toNat b.toInt.toNat k.toInt.toNat (gfold _ k.toInt.toNat s0)).2
                   rw [gStK, if_pos ⟨by omega, by omega⟩, if_pos hyh]; show _ = if _ = -1 then _ else _; rw [← hz, if_pos hq]; exact t5)
              | (have hq : ¬ z.toInt = -1 := by omega
                 have e1 : w198.toInt.toNat = k.toInt.toNat + 1 := by omega
                 refine ih _ (by omega) _ _ _ _ rfl (by omega) (by omega) (frH.tr hfr hfrA) ?_ ?_
                 · rw [e1]
                   show GTR T r0 (gStK a.toInt.toNat b.toInt.toNat k.toInt.toNat (gfold _ k.toInt.toNat s0)).1 _
                   rw [gStK, if_pos ⟨by omega, by omega⟩, if_pos hyh]; exact hG2
                 · rw [e1]
                   show _ = (gStK a.toInt.toNat b.toInt.toNat k.toInt.toNat (gfold _ k.toInt.toNat s0)).2
                   rw [gStK, if_pos ⟨by omega, by omega⟩, if_pos hyh]; show _ = if _ = -1 then _ else _; rw [← hz, if_neg hq])
set_option maxHeartbeats 1200000 in
theorem r_get {Γ : gW} {M : gM} {T : gTw} (hR : g_Ref Γ) (hI : INV T) (hS : RS T M) {a b : Int32} : Ct Γ yX6_get μX6_get 5 [.ref 300, .int a, .int b] M (g_qi (fun z M1 => (¬ ((0 ≤ a.toInt ∧ a.toInt < T 0 0) ∧ 0 ≤ b.toInt ∧ b.toInt < T 0 1) ∧ z.toInt = 0 ∧ M1 = g_u (g_u M 300 1 0) 300 1 1) ∨ (((0 ≤ a.toInt ∧ a.toInt < T 0 0) ∧ 0 ≤ b.toInt ∧ b.toInt < T 0 1) ∧ frH (g_u M 300 1 0) M1 ∧ z.toInt = getZ T a.toInt.toNat b.toInt.toNat))) := by
  have hO := hI.1
  have hS0 := RS.code (x := 0) hS
  obtain ⟨hC, hW, hA, hDy, hWe⟩ := id hS0
  obtain ⟨o_pe, o_th, o_la, o_wi, o_da, o_we, o_p, o_i⟩ := id hO
  obtain ⟨r_0, r_1, r_2, r_3, r_p, r_i⟩ := id hC
  refine g_enter rfl rfl rfl (Nat.le_of_ble_eq_true rfl) ?_
  show G Γ _ _ _ _ 0 [some (.ref 300), some (.int a), some (.int b), none, none, none] [] M
  refine g_aload_n0 dX6_get_0 rfl ?_
  refine g_iconst (v := 0) dX6_get_1 rfl rfl ?_
  refine g_put dX6_get_2 rfl fX6_128 hR.1 rfl rfl rfl ?_
  refine g_aload_n0 dX6_get_5 rfl ?_
  refine g_iload_n1 dX6_get_6 rfl ?_
  refine g_callVi1 dX6_get_7 rfl vX6_263 hR.1 rfl (r_isPerson hR hO hC) (g_rm (by omega)) (Nat.le_of_ble_eq_true rfl) (fun z7 M7 e7 => ?_)
  obtain ⟨e7a, e7, f7⟩ := e7
  subst e7a
  refine g_if_eqI (t := 21) dX6_get_10 (by decide) rfl (fun c10 => ?_) (fun c10 => ?_)
  · -- 10 t
    have hp : ¬ (0 ≤ a.toInt ∧ a.toInt < T 0 0) := fun h => by have := f7.mpr h; omega
    clear f7 e7
    refine g_aload_n0 dX6_get_21 rfl ?_
    refine g_iconst (v := 1) dX6_get_22 rfl rfl ?_
    refine g_callVi1 dX6_get_23 rfl vX6_243 hR.1 rfl (r_fail hR) (g_rm (by omega)) (Nat.le_of_ble_eq_true rfl) (fun z23 M23 e23 => ?_)
    obtain ⟨e23a, e23⟩ := e23
    subst e23a
    refine g_iret dX6_get_26 rfl ?_
    first
      | exact ⟨_, rfl, Or.inl ⟨fun h => hp h.1, e23, rfl⟩⟩
      | exact ⟨_, rfl, Or.inl ⟨fun h => ht h.2, e23, rfl⟩⟩
  · -- 10 f
    have hp := f7.mp (by omega)
    clear f7 e7
    refine g_aload_n0 dX6_get_13 rfl ?_
    refine g_iload_n2 dX6_get_14 rfl ?_
    refine g_callVi1 dX6_get_15 rfl vX6_276 hR.1 rfl (r_isThing hR hO hC) (g_rm (by omega)) (Nat.le_of_ble_eq_true rfl) (fun z15 M15 e15 => ?_)
    obtain ⟨e15a, e15, f15⟩ := e15
    subst e15a
    refine g_if_neI (t := 27) dX6_get_18 (by decide) rfl (fun c18 => ?_) (fun c18 => ?_)
    · -- 18 t
      have ht := f15.mp (by omega)
      clear f15 e15
      refine g_iconstI dX6_get_27 rfl rfl (fun w27 h27 => ?_)
      refine g_istore_n3 dX6_get_28 rfl rfl ?_
      refine g_fwd (l_get1 hR (M := g_u M 300 1 0) (a := a) (b := b) (fun i => ?_) _ w27 rfl (by omega) (by omega)) (by rw [h27, show (0 : Int).toNat = 0 from rfl, rowI_0])
      refine g_aload_n0 dX6_get_49 rfl ?_
      refine g_iconst (v := 0) dX6_get_50 rfl rfl ?_
      refine g_put dX6_get_51 rfl fX6_355 hR.1 rfl rfl rfl ?_
      refine g_aload_n0 dX6_get_54 rfl ?_
      refine g_iconst (v := 0) dX6_get_55 rfl rfl ?_
      refine g_put dX6_get_56 rfl fX6_358 hR.1 rfl rfl rfl ?_
      obtain ⟨M5, hM5⟩ : ∃ M5, M5 = g_u (g_u (rowI (g_u M 300 1 0) 441 (fun _ => -1) 4096) 300 44 0) 300 45 0 := ⟨_, rfl⟩
      refine g_fwd (M1 := M5) ?_ hM5
      have hf5 : frH (g_u M 300 1 0) M5 := by
        rw [hM5]
        refine ⟨fun j a b c d e f g => ?_, rfl, fun k a b => ?_⟩
        · rw [g_u_ne a, g_u_ne a, rowI_ne e]
        · rw [g_u_eq, if_neg b, g_u_eq, if_neg a]; rfl
      have e407 : M5.1 407 = M.1 407 := by rw [hM5]; rfl
      have hA5 : RW T (M5.1 407) := by rw [e407]; exact hA
      have hRX5 : RX T (M.1 407) (M5.1 407) := by rw [e407]; exact ⟨fun _ _ _ => rfl, fun _ _ _ => ⟨rfl, rfl, rfl⟩⟩
      have hG0 : GTR T (M.1 407) (0, (fun _ => T), (fun _ => 0), 0) M5 := by
        rw [hM5]
        refine ⟨rfl, Nat.zero_le _, rfl, Or.inl rfl, fun k hk => absurd hk (Nat.not_lt_zero k), fun f hf => ⟨Or.inl ?_, fun k hk => absurd hk (Nat.not_lt_zero k)⟩, fun k hk => absurd hk (Nat.not_lt_zero k)⟩
        rw [g_u_ne (by decide), g_u_ne (by decide), rowI_at, if_pos hf]; rfl
      clear hM5
      refine g_aload_n0 dX6_get_59 rfl ?_
      refine g_aload_n0 dX6_get_60 rfl ?_
      refine g_getr dX6_get_61 rfl fX6_41 hR.1 rfl ?_
      refine g_iconstI dX6_get_64 rfl rfl (fun w64 h64 => ?_)
      refine g_callVv2 dX6_get_65 rfl vX6_361 hR.1 rfl (r_come hR hG0 hI TX.rf (rf_now hR) hA5 hRX5 ⟨by omega, by omega⟩) (g_rm (by omega)) (Nat.le_of_ble_eq_true rfl) (fun M65 e65 => ?_)
      rw [h64] at e65
      refine g_iconstI dX6_get_68 rfl rfl (fun w68 h68 => ?_)
      refine g_istore_n3 dX6_get_69 rfl rfl ?_
      refine g_iconstI dX6_get_70 rfl rfl (fun w70 h70 => ?_)
      refine g_istore4 dX6_get_71 rfl rfl ?_
      refine l_get4 (r0 := M.1 407) hR hI (CR.h (CR.h hC hf5) e65.2.h) (WR.h (WR.h hW hf5) e65.2.h) (by rw [e65.2.2.2 12 (by decide) (by decide), hf5.2.2 12 (by decide) (by decide)]; exact hDy) hp ht (fun M9 z hf9 hz => ⟨_, rfl, Or.inr ⟨⟨hp, ht⟩, frH.tr (frH.tr hf5 e65.2.h) hf9, ?_⟩⟩) _ _ _ _ _ rfl (by omega) (by omega) frH.rf (s0 := (gcome T 0 (0, (fun _ => T), (fun _ => 0), 0), -1)) ?_ ?_
      · rw [h70, show (0 : Int).toNat = 0 from rfl]; exact e65.1
      · rw [h70, show (0 : Int).toNat = 0 from rfl]; exact h68
      · unfold getZ gGet; exact hz
    · -- 18 f
      have ht : ¬ (0 ≤ b.toInt ∧ b.toInt < T 0 1) := fun h => by have := f15.mpr h; omega
      clear f15 e15
      refine g_aload_n0 dX6_get_21 rfl ?_
      refine g_iconst (v := 1) dX6_get_22 rfl rfl ?_
      refine g_callVi1 dX6_get_23 rfl vX6_243 hR.1 rfl (r_fail hR) (g_rm (by omega)) (Nat.le_of_ble_eq_true rfl) (fun z23 M23 e23 => ?_)
      obtain ⟨e23a, e23⟩ := e23
      subst e23a
      refine g_iret dX6_get_26 rfl ?_
      first
        | exact ⟨_, rfl, Or.inl ⟨fun h => hp h.1, e23, rfl⟩⟩
        | exact ⟨_, rfl, Or.inl ⟨fun h => ht h.2, e23, rfl⟩⟩
