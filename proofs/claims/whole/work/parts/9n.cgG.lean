theorem TX.two {T0 T T' : gTw} (h : TX T0 T) (h' : TX T0 T') : TX T T' := fun f i hf => by
  have e := h.o 0
  rw [h' f i (by omega), h f i (by omega)]
def frO (M M' : gM) : Prop := (∀ j, j ≠ 250 → j ≠ 252 → ¬ (203 ≤ j ∧ j ≤ 206) → M'.1 j = M.1 j) ∧ (∀ j, j ≠ 251 → j ≠ 253 → M'.2 j = M.2 j) ∧ ∀ k, k ≠ 4 → k ≠ 5 → M'.1 250 k = M.1 250 k
theorem frO.rf {M : gM} : frO M M := ⟨fun _ _ _ _ => rfl, fun _ _ _ => rfl, fun _ _ _ => rfl⟩
theorem frO.tr {M M1 M2 : gM} (h : frO M M1) (h2 : frO M1 M2) : frO M M2 := ⟨fun j a b c => by rw [h2.1 j a b c, h.1 j a b c], fun j a b => by rw [h2.2.1 j a b, h.2.1 j a b], fun k a b => by rw [h2.2.2 k a b, h.2.2 k a b]⟩
theorem frN1.o {M M1 : gM} (h : frN1 M M1) : frO M M1 := ⟨fun j a b _ => h.1 j a b, h.2.1, h.2.2⟩
theorem frQ.o {M M1 : gM} (h : frQ M M1) : frO M M1 := ⟨fun j _ _ c => h.1 j (by omega) (by omega) (by omega) (by omega), fun j _ _ => by rw [h.2], fun k _ _ => by rw [h.1 250 (by decide) (by decide) (by decide) (by decide)]⟩
theorem frO.gift {M : gM} {g k : Nat} {s n v : Int32} : frO M (giftM M 200 g s n v k) := ⟨fun j _ _ c => gm_o (by omega), fun _ _ _ => rfl, fun k _ _ => by rw [gm_o (by decide)]⟩
theorem frO.tbt {M M1 : gM} (h : frO M M1) (ht : TBt M 200) : TBt M1 200 := TBt.far ht (h.1 207 (by decide) (by decide) (by decide)) (h.1 209 (by decide) (by decide) (by decide)) (h.1 210 (by decide) (by decide) (by decide))
theorem GC.q {T0 : gTw} {σ : gGt} {M M' : gM} (h : GC T0 σ M) (hf : frQ M M') : GC T0 σ M' := GC.ext h (by rw [hf.1 250 (by decide) (by decide) (by decide) (by decide)]) (by rw [hf.1 250 (by decide) (by decide) (by decide) (by decide)]) (hf.1 252 (by decide) (by decide) (by decide) (by decide)) (by rw [hf.2])
theorem GC.gift {T0 : gTw} {σ : gGt} {M : gM} {g k : Nat} {s n v : Int32} (h : GC T0 σ M) : GC T0 σ (giftM M 200 g s n v k) := GC.ext h (by rw [gm_o (by decide)]) (by rw [gm_o (by decide)]) (gm_o (by decide)) rfl
/-- the town stands at the state k of those found -/
def GH (T0 T : gTw) (k : Nat) (σ : gGt) (M : gM) : Prop := GC T0 σ M ∧ k < σ.1 ∧ σ.2.1 k = T ∧ tv M 200 = T ∧ TBt M 200
theorem GH.kp {σ σ' : gGt} {k : Nat} {T : gTw} (h : gKp σ σ') (hk : k < σ.1) (e : σ.2.1 k = T) : k < σ'.1 ∧ σ'.2.1 k = T := ⟨Nat.lt_of_lt_of_le hk h.1, by rw [(h.2 k hk).1]; exact e⟩
set_option maxHeartbeats 1200000 in
theorem l_ss {Γ : gW} (hA : g_Get Γ) {T0 T : gTw} (hI : INV T) (hX : TX T0 T) {k : Nat} {kI : Int32} (hkI : kI.toInt = (k : Int)) {b : Int} {p : Nat} {pI : Int32} (hpI : pI.toInt = (p : Int)) (hp : (p : Int) < T 0 0) {u : Nat} {uI : Int32} (huI : uI.toInt = (u : Int)) (hfit : fitT T p u) {σ0 : gGt} {M0 : gM} {sd ot : Int32} (hsd : sd.toInt = sandT T p u) (hot : ot.toInt = T 5 p) {Q : Option Value → gM → Prop} (hQ : ∀ M : gM, GH T0 T k (gfold (gTak T p u b) (T 0 0).toNat σ0) M → frO M0 M → Q none M) : ∀ (n9 : Nat) (j : Int32) (σc : gGt) (M : gM), 6 - j.toInt.toNat = n9 → 0 ≤ j.toInt → j.toInt ≤ T 0 0 → GH T0 T k σc M → frO M0 M → gfold (gTak T p u b) j.toInt.toNat σ0 = σc → G Γ μX1_spreadSet (g_R 2) (0, 0) (g_Z Γ Q) 25 [some (.ref 250), some (.int kI), some (.int pI), some (.int uI), some (.int sd), some (.int ot), some (.int j)] [] M := by
  intro n9
  induction n9 using Nat.strongRecOn with
  | ind n9 ih =>
    intro j σc M h9 hj0 hj1 hH hF hw
    obtain ⟨hG, hk1, hk2, hT, hTt⟩ := hH
    have hO := hI.1
    have hb0 := hO.1
    have hB : TB M 200 := TB.of (by rw [hT]; exact hO) hTt
    obtain ⟨g1, g2, g3, g4, g5, -⟩ := id hG
    have t00 : (M.1 200 0).toInt = T 0 0 := by rw [← hT]; exact (tv0 (by decide)).symm
    have hu12 : u < 4096 := by
      have := sub_le hfit.2.1
      have := (hO.2.2.2.2.2.2.1 p (by omega)).2.2.2.2.2.1
      unfold hasT at *
      omega
    refine g_iload6 dX1_spreadSet_25 rfl ?_
    refine g_aload_n0 dX1_spreadSet_27 rfl ?_
    refine g_getr dX1_spreadSet_28 rfl fX1_25 hA.1 rfl ?_
    refine g_geti dX1_spreadSet_31 rfl fX1_62 hA.2.2.2.2.1 rfl ?_
    refine g_icmp_geI (t := 91) dX1_spreadSet_34 (by decide) rfl (fun c34 => ?_) (fun c34 => ?_)
    · -- 34 t
      have hend : gfold (gTak T p u b) (T 0 0).toNat σ0 = σc := by rw [show (T 0 0).toNat = j.toInt.toNat by omega]; exact hw
      refine g_vret dX1_spreadSet_91 rfl ?_
      exact hQ M ⟨by rw [hend]; exact hG, by rw [hend]; exact hk1, by rw [hend]; exact hk2, hT, hTt⟩ hF
    · -- 34 f
      refine g_aload_n0 dX1_spreadSet_37 rfl ?_
      refine g_geti dX1_spreadSet_38 rfl fX1_33 hA.1 rfl ?_
      refine g_if_neI (t := 91) dX1_spreadSet_41 (by decide) rfl (fun c41 => ?_) (fun c41 => ?_)
      · -- 41 t
        have hend : gfold (gTak T p u b) (T 0 0).toNat σ0 = σc := by
          have hge : gEnd σc := g4.elim (fun h => by omega) id
          rw [gfold_tail (i := j.toInt.toNat) _ (by omega) (fun v _ _ => by rw [hw]; exact gTak_end hge), hw]
        refine g_vret dX1_spreadSet_91 rfl ?_
        exact hQ M ⟨by rw [hend]; exact hG, by rw [hend]; exact hk1, by rw [hend]; exact hk2, hT, hTt⟩ hF
      · -- 41 f
        have h00 : σc.2.2.2 = 0 := by omega
        refine g_iload6 dX1_spreadSet_44 rfl ?_
        refine g_iload_n2 dX1_spreadSet_46 rfl ?_
        refine g_icmp_eqI (t := 85) dX1_spreadSet_47 (by decide) rfl (fun c47 => ?_) (fun c47 => ?_)
        · -- 47 t
          have hskip : ¬ (¬ j.toInt.toNat = p ∧ (T 5 p = -1 ∨ T 5 p = (j.toInt.toNat : Int))) := fun h => h.1 (by omega)
          refine g_iincI6 dX1_spreadSet_85 rfl rfl rfl ⟨by omega, by omega⟩ (fun w85 h85 => ?_)
          refine g_goto (t := 25) dX1_spreadSet_88 (by decide) ?_
          have e1 : w85.toInt.toNat = j.toInt.toNat + 1 := by omega
          first
            | (have hz := hskip
               refine ih _ (show 6 - w85.toInt.toNat < n9 by omega) w85 _ M rfl (by omega) (by omega) ⟨hG, hk1, hk2, hT, hTt⟩ hF ?_
               rw [e1]
               show gTak T p u b j.toInt.toNat (gfold _ j.toInt.toNat σ0) = σc
               rw [hw, gTak, if_neg hz])
            | (have hz := hgo
               have hF8 : frO M M82 := frO.tr hF7 (frO.tr e77.2.o e82.1.o)
               refine ih _ (show 6 - w85.toInt.toNat < n9 by omega) w85 _ M82 rfl (by omega) (by omega) ⟨GC.q e77.1 e82.1, hkp.1, hkp.2, e82.2, frO.tbt hF8 hTt⟩ (frO.tr hF hF8) ?_
               rw [e1]
               show gTak T p u b j.toInt.toNat (gfold _ j.toInt.toNat σ0) = _
               rw [hw, gTak, if_pos hz])
        · -- 47 f
          refine g_iload5 dX1_spreadSet_50 rfl ?_
          refine g_iconstI dX1_spreadSet_52 rfl rfl (fun w52 h52 => ?_)
          refine g_icmp_eqI (t := 63) dX1_spreadSet_53 (by decide) rfl (fun c53 => ?_) (fun c53 => ?_)
          · -- 53 t
            refine g_aload_n0 dX1_spreadSet_63 rfl ?_
            refine g_getr dX1_spreadSet_64 rfl fX1_25 hA.1 rfl ?_
            refine g_iload_n2 dX1_spreadSet_67 rfl ?_
            refine g_iload_n3 dX1_spreadSet_68 rfl ?_
            refine g_iload4 dX1_spreadSet_69 rfl ?_
            refine g_iload6 dX1_spreadSet_71 rfl ?_
            have hgo : ¬ j.toInt.toNat = p ∧ (T 5 p = -1 ∨ T 5 p = (j.toInt.toNat : Int)) := by omega
            have hcan : canG T p u (sandT T p u) j.toInt.toNat := by
              have h := (fit_can hO hp hfit hI.2.2).1
              exact ⟨h.1, by omega, fun e => hgo.1 e.symm, h.2.2.2⟩
            have hsr : 0 ≤ sandT T p u ∧ sandT T p u ≤ T 3 p := ⟨hcan.2.2.2.2.1, hcan.2.2.2.2.2⟩
            have hbp := hO.2.2.2.2.2.2.1 p (by omega)
            refine g_callVv4 dX1_spreadSet_73 rfl vX1_87 hA.2.2.2.2.1 rfl (c_makeGift hA.2.2.2.2 (TBw.of hB) (by omega) (by omega) (by omega) (by omega)) (g_rm (by omega)) (Nat.le_of_ble_eq_true rfl) (fun M73 e73 => ?_)
            obtain ⟨v, hv, e73⟩ := e73
            rw [show pI.toInt.toNat = p by omega] at e73
            rw [show uI.toInt.toNat = u by omega] at hv
            have hbu : bn uI = u := bn_lit huI
            have e3 : (M.1 (200 + 3) p).toInt = T 3 p := by rw [← hT]; exact (tvp (f := 3) (by decide) (by omega)).symm
            have hT7 : tv M73 200 = giftT T p u (sandT T p u) j.toInt.toNat := by
              rw [e73, v_gift hB (by omega) (by omega) (fun e => hgo.1 e.symm) (by omega) (by omega) (by rw [hbu]; exact hv), hT, hbu, hsd]
            have hG7 : GC T0 σc M73 := by rw [e73]; exact GC.gift hG
            have hF7 : frO M M73 := by rw [e73]; exact frO.gift
            have e00 := hX.o 0
            have hI7 := INV.gift hI hcan
            have hX7 := TX.gift (g := p) (s := u) (k := j.toInt.toNat) (n := sandT T p u) hX (by omega) (by omega)
            clear e73
            refine g_aload_n0 dX1_spreadSet_76 rfl ?_
            refine g_callVv0 dX1_spreadSet_77 rfl vX1_47 hA.1 rfl (c_noteState (b := b) hA hG7 h00 hI7 hX7 hT7) (g_rm (by omega)) (Nat.le_of_ble_eq_true rfl) (fun M77 e77 => ?_)
            have hkp := GH.kp (gcome_kp (T := giftT T p u (sandT T p u) j.toInt.toNat) (b := b) (σ := σc)) hk1 hk2
            have hrow : ∀ q, q < 6 → ln (M77.2 251 (6 * k + q)) = PKr T q := fun q hq => by
              have := (e77.1.2.2.2.2.1 k hkp.1).2.2 q hq
              rw [hkp.2] at this
              exact this
            refine g_aload_n0 dX1_spreadSet_80 rfl ?_
            refine g_iload_n1 dX1_spreadSet_81 rfl ?_
            refine g_callVv1 dX1_spreadSet_82 rfl vX1_50 hA.1 rfl (c_load (k := k) (Tk := T) (T := giftT T p u (sandT T p u) j.toInt.toNat) hA hO (TX.two hX7 hX) hkI (by omega) (by rw [← hT7]; exact tv_far (fun i a c => e77.2.1 i (by omega) (by omega))) hrow) (g_rm (by omega)) (Nat.le_of_ble_eq_true rfl) (fun M82 e82 => ?_)
            refine g_iincI6 dX1_spreadSet_85 rfl rfl rfl ⟨by omega, by omega⟩ (fun w85 h85 => ?_)
            refine g_goto (t := 25) dX1_spreadSet_88 (by decide) ?_
            have e1 : w85.toInt.toNat = j.toInt.toNat + 1 := by omega
            first
              | (have hz := hskip
                 refine ih _ (show 6 - w85.toInt.toNat < n9 by omega) w85 _ M rfl (by omega) (by omega) ⟨hG, hk1, hk2, hT, hTt⟩ hF ?_
                 rw [e1]
                 show gTak T p u b j.toInt.toNat (gfold _ j.toInt.toNat σ0) = σc
                 rw [hw, gTak, if_neg hz])
              | (have hz := hgo
                 have hF8 : frO M M82 := frO.tr hF7 (frO.tr e77.2.o e82.1.o)
                 refine ih _ (show 6 - w85.toInt.toNat < n9 by omega) w85 _ M82 rfl (by omega) (by omega) ⟨GC.q e77.1 e82.1, hkp.1, hkp.2, e82.2, frO.tbt hF8 hTt⟩ (frO.tr hF hF8) ?_
                 rw [e1]
                 show gTak T p u b j.toInt.toNat (gfold _ j.toInt.toNat σ0) = _
                 rw [hw, gTak, if_pos hz])
          · -- 53 f
            refine g_iload5 dX1_spreadSet_56 rfl ?_
            refine g_iload6 dX1_spreadSet_58 rfl ?_
            refine g_icmp_neI (t := 85) dX1_spreadSet_60 (by decide) rfl (fun c60 => ?_) (fun c60 => ?_)
            · -- 60 t
              have hskip : ¬ (¬ j.toInt.toNat = p ∧ (T 5 p = -1 ∨ T 5 p = (j.toInt.toNat : Int))) := fun h => by omega
              refine g_iincI6 dX1_spreadSet_85 rfl rfl rfl ⟨by omega, by omega⟩ (fun w85 h85 => ?_)
              refine g_goto (t := 25) dX1_spreadSet_88 (by decide) ?_
              have e1 : w85.toInt.toNat = j.toInt.toNat + 1 := by omega
              first
                | (have hz := hskip
                   refine ih _ (show 6 - w85.toInt.toNat < n9 by omega) w85 _ M rfl (by omega) (by omega) ⟨hG, hk1, hk2, hT, hTt⟩ hF ?_
                   rw [e1]
                   show gTak T p u b j.toInt.toNat (gfold _ j.toInt.toNat σ0) = σc
                   rw [hw, gTak, if_neg hz])
                | (have hz := hgo
                   have hF8 : frO M M82 := frO.tr hF7 (frO.tr e77.2.o e82.1.o)
                   refine ih _ (show 6 - w85.toInt.toNat < n9 by omega) w85 _ M82 rfl (by omega) (by omega) ⟨GC.q e77.1 e82.1, hkp.1, hkp.2, e82.2, frO.tbt hF8 hTt⟩ (frO.tr hF hF8) ?_
                   rw [e1]
                   show gTak T p u b j.toInt.toNat (gfold _ j.toInt.toNat σ0) = _
                   rw [hw, gTak, if_pos hz])
            · -- 60 f
              refine g_aload_n0 dX1_spreadSet_63 rfl ?_
              refine g_getr dX1_spreadSet_64 rfl fX1_25 hA.1 rfl ?_
              refine g_iload_n2 dX1_spreadSet_67 rfl ?_
              refine g_iload_n3 dX1_spreadSet_68 rfl ?_
              refine g_iload4 dX1_spreadSet_69 rfl ?_
              refine g_iload6 dX1_spreadSet_71 rfl ?_
              have hgo : ¬ j.toInt.toNat = p ∧ (T 5 p = -1 ∨ T 5 p = (j.toInt.toNat : Int)) := by omega
              have hcan : canG T p u (sandT T p u) j.toInt.toNat := by
                have h := (fit_can hO hp hfit hI.2.2).1
                exact ⟨h.1, by omega, fun e => hgo.1 e.symm, h.2.2.2⟩
              have hsr : 0 ≤ sandT T p u ∧ sandT T p u ≤ T 3 p := ⟨hcan.2.2.2.2.1, hcan.2.2.2.2.2⟩
              have hbp := hO.2.2.2.2.2.2.1 p (by omega)
              refine g_callVv4 dX1_spreadSet_73 rfl vX1_87 hA.2.2.2.2.1 rfl (c_makeGift hA.2.2.2.2 (TBw.of hB) (by omega) (by omega) (by omega) (by omega)) (g_rm (by omega)) (Nat.le_of_ble_eq_true rfl) (fun M73 e73 => ?_)
              obtain ⟨v, hv, e73⟩ := e73
              rw [show pI.toInt.toNat = p by omega] at e73
              rw [show uI.toInt.toNat = u by omega] at hv
              have hbu : bn uI = u := bn_lit huI
              have e3 : (M.1 (200 + 3) p).toInt = T 3 p := by rw [← hT]; exact (tvp (f := 3) (by decide) (by omega)).symm
              have hT7 : tv M73 200 = giftT T p u (sandT T p u) j.toInt.toNat := by
                rw [e73, v_gift hB (by omega) (by omega) (fun e => hgo.1 e.symm) (by omega) (by omega) (by rw [hbu]; exact hv), hT, hbu, hsd]
              have hG7 : GC T0 σc M73 := by rw [e73]; exact GC.gift hG
              have hF7 : frO M M73 := by rw [e73]; exact frO.gift
              have e00 := hX.o 0
              have hI7 := INV.gift hI hcan
              have hX7 := TX.gift (g := p) (s := u) (k := j.toInt.toNat) (n := sandT T p u) hX (by omega) (by omega)
              clear e73
              refine g_aload_n0 dX1_spreadSet_76 rfl ?_
              refine g_callVv0 dX1_spreadSet_77 rfl vX1_47 hA.1 rfl (c_noteState (b := b) hA hG7 h00 hI7 hX7 hT7) (g_rm (by omega)) (Nat.le_of_ble_eq_true rfl) (fun M77 e77 => ?_)
              have hkp := GH.kp (gcome_kp (T := giftT T p u (sandT T p u) j.toInt.toNat) (b := b) (σ := σc)) hk1 hk2
              have hrow : ∀ q, q < 6 → ln (M77.2 251 (6 * k + q)) = PKr T q := fun q hq => by
                have := (e77.1.2.2.2.2.1 k hkp.1).2.2 q hq
                rw [hkp.2] at this
                exact this
              refine g_aload_n0 dX1_spreadSet_80 rfl ?_
              refine g_iload_n1 dX1_spreadSet_81 rfl ?_
              refine g_callVv1 dX1_spreadSet_82 rfl vX1_50 hA.1 rfl (c_load (k := k) (Tk := T) (T := giftT T p u (sandT T p u) j.toInt.toNat) hA hO (TX.two hX7 hX) hkI (by omega) (by rw [← hT7]; exact tv_far (fun i a c => e77.2.1 i (by omega) (by omega))) hrow) (g_rm (by omega)) (Nat.le_of_ble_eq_true rfl) (fun M82 e82 => ?_)
              refine g_iincI6 dX1_spreadSet_85 rfl rfl rfl ⟨by omega, by omega⟩ (fun w85 h85 => ?_)
              refine g_goto (t := 25) dX1_spreadSet_88 (by decide) ?_
              have e1 : w85.toInt.toNat = j.toInt.toNat + 1 := by omega
              first
                | (have hz := hskip
                   refine ih _ (show 6 - w85.toInt.toNat < n9 by omega) w85 _ M rfl (by omega) (by omega) ⟨hG, hk1, hk2, hT, hTt⟩ hF ?_
                   rw [e1]
                   show gTak T p u b j.toInt.toNat (gfold _ j.toInt.toNat σ0) = σc
                   rw [hw, gTak, if_neg hz])
                | (have hz := hgo
                   have hF8 : frO M M82 := frO.tr hF7 (frO.tr e77.2.o e82.1.o)
                   refine ih _ (show 6 - w85.toInt.toNat < n9 by omega) w85 _ M82 rfl (by omega) (by omega) ⟨GC.q e77.1 e82.1, hkp.1, hkp.2, e82.2, frO.tbt hF8 hTt⟩ (frO.tr hF hF8) ?_
                   rw [e1]
                   show gTak T p u b j.toInt.toNat (gfold _ j.toInt.toNat σ0) = _
                   rw [hw, gTak, if_pos hz])
set_option maxHeartbeats 1200000 in
theorem c_spreadSet {Γ : gW} (hA : g_Get Γ) {T0 T : gTw} (hI : INV T) (hX : TX T0 T) {k : Nat} {kI : Int32} (hkI : kI.toInt = (k : Int)) {b : Int} {p : Nat} {pI : Int32} (hpI : pI.toInt = (p : Int)) (hp : (p : Int) < T 0 0) {u : Nat} {uI : Int32} (huI : uI.toInt = (u : Int)) (hfit : fitT T p u) {σ : gGt} {M : gM} (hH : GH T0 T k σ M) : Ct Γ yX1_spreadSet μX1_spreadSet 2 [.ref 250, .int kI, .int pI, .int uI] M (g_qv (fun M1 => GH T0 T k (gfold (gTak T p u b) (T 0 0).toNat σ) M1 ∧ frO M M1)) := by
  have hO := hI.1
  have hb0 := hO.1
  obtain ⟨hG, hk1, hk2, hT, hTt⟩ := id hH
  have hB : TB M 200 := TB.of (by rw [hT]; exact hO) hTt
  have hu12 : u < 4096 := by
    have := sub_le hfit.2.1
    have := (hO.2.2.2.2.2.2.1 p (by omega)).2.2.2.2.2.1
    unfold hasT at *
    omega
  refine g_enter rfl rfl rfl (Nat.le_of_ble_eq_true rfl) ?_
  show G Γ _ _ _ _ 0 [some (.ref 250), some (.int kI), some (.int pI), some (.int uI), none, none, none] [] M
  refine g_aload_n0 dX1_spreadSet_0 rfl ?_
  refine g_getr dX1_spreadSet_1 rfl fX1_25 hA.1 rfl ?_
  refine g_iload_n2 dX1_spreadSet_4 rfl ?_
  refine g_iload_n3 dX1_spreadSet_5 rfl ?_
  refine g_callVi2 dX1_spreadSet_6 rfl vX1_80 hA.2.2.2.2.1 rfl (c_sandFor hA.2.2.2.2 hB (by omega) (by omega)) (g_rm (by omega)) (Nat.le_of_ble_eq_true rfl) (fun z6 M6 e6 => ?_)
  obtain ⟨rfl, e6⟩ := e6
  rw [show pI.toInt.toNat = p by omega, show uI.toInt.toNat = u by omega, v_sand (by omega), hT] at e6
  refine g_istore4 dX1_spreadSet_9 rfl rfl ?_
  refine g_aload_n0 dX1_spreadSet_11 rfl ?_
  refine g_getr dX1_spreadSet_12 rfl fX1_25 hA.1 rfl ?_
  refine g_getr dX1_spreadSet_15 rfl fX1_83 hA.2.2.2.2.1 rfl ?_
  refine g_iload_n2 dX1_spreadSet_18 rfl ?_
  refine g_ialdI dX1_spreadSet_19 rfl (tw_owedTo hA.2.2.2.2) ⟨by omega, by omega⟩ ?_
  rw [show pI.toInt.toNat = p by omega]
  have e5 : (M6.1 (200 + 5) p).toInt = T 5 p := by rw [← hT]; exact (tvp (f := 5) (by decide) (by omega)).symm
  refine g_istore5 dX1_spreadSet_20 rfl rfl ?_
  refine g_iconstI dX1_spreadSet_22 rfl rfl (fun w22 h22 => ?_)
  refine g_istore6 dX1_spreadSet_23 rfl rfl ?_
  exact l_ss hA hI hX hkI hpI hp huI hfit e6 e5 (fun M1 a c => ⟨rfl, a, c⟩) _ _ _ _ rfl (by omega) (by omega) hH frO.rf (by rw [h22]; rfl)
