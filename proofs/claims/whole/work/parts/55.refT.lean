theorem cntP_all {P : Nat → Prop} {n : Nat} : cntP P n = (n : Int) ↔ ∀ v, v < n → P v := by
  induction n with
  | zero => exact ⟨fun _ v hv => by omega, fun _ => rfl⟩
  | succ n ih =>
    have hr := cntP_rng P n
    by_cases h : P n
    · rw [cntP_yes h]
      constructor
      · intro e v hv
        by_cases hvn : v = n
        · subst hvn; exact h
        · exact ih.mp (by omega) v (by omega)
      · intro e
        have := ih.mpr (fun v hv => e v (by omega))
        omega
    · rw [cntP_no h]
      constructor
      · intro e; omega
      · intro e; exact absurd (e n (by omega)) h
/-- a set by which all weights up to n can be made -/
def allS (T : gTw) (n : Int) (u : Nat) : Prop := u < 2 ^ (T 0 1).toNat ∧ ∀ v : Nat, (v : Int) < n → mkS T u 0 (T 0 1).toNat (v + 1)
theorem all_wt {T : gTw} {n : Int} {u : Nat} (hO : TOK T) (hn : 1 ≤ n) (h : allS T n u) : n ≤ wtT T u := by
  obtain ⟨y, h1, -, h3, h4⟩ := h.2 (n - 1).toNat (by omega)
  have := wsum_mono (w := T 7) (n := 12) (u := y) (v := u) (fun i hi => (hO.2.2.2.2.2.2.2 i hi).1.1) (fun i _ hb => h1 i hb)
  have e1 : wsum (T 7) 12 y = wtT T y := rfl
  have e2 : wsum (T 7) 12 u = wtT T u := rfl
  omega
def fwM (M M' : gM) : Prop := (∀ j, j ≠ 446 → M'.1 j = M.1 j) ∧ M'.2 = M.2
theorem CR.fw {T : gTw} {M M' : gM} (h : CR T M) (hf : fwM M M') : CR T M' := by
  unfold CR at h ⊢
  rw [hf.1 402 (by decide), hf.1 403 (by decide), hf.1 404 (by decide), hf.1 405 (by decide)]
  exact h
theorem WR.fw {T : gTw} {M M' : gM} (h : WR T M) (hf : fwM M M') : WR T M' := by
  unfold WR at h ⊢
  rw [hf.1 409 (by decide)]
  exact h
set_option maxHeartbeats 1200000 in
theorem l_fewest {Γ : gW} {M0 : gM} {T : gTw} (hR : g_Ref Γ) (hO : TOK T) (hC : CR T M0) (hW : WR T M0) {n : Int32} (hn : 1 ≤ n.toInt ∧ n.toInt ≤ 999) {Q : Option Value → gM → Prop} (hQ : ∀ (z : Int32) (M : gM), fwM M0 M → CH (allS T n.toInt) popc z.toInt → Q (some (.int z)) M) : ∀ (n9 : Nat) (b s : Int32) (M : gM), ((2 : Int) ^ (T 0 1).toNat - s.toInt).toNat = n9 → 0 ≤ s.toInt → s.toInt ≤ (2 : Int) ^ (T 0 1).toNat → fwM M0 M → CH (fun u => allS T n.toInt u ∧ (u : Int) < s.toInt) popc b.toInt → G Γ μX6_fewest (g_R 1) (0, 0) (g_Z Γ Q) 26 [some (.ref 300), some (.int n), some (.int b), some (.int s)] [] M := by
  intro n9
  induction n9 using Nat.strongRecOn with
  | ind n9 ih =>
    intro b s M h9 hs0 hs1 hfw hch
    have hC2 := CR.fw hC hfw
    have hW2 := WR.fw hW hfw
    obtain ⟨o_pe, o_th, o_la, o_wi, o_da, o_we, o_p, o_i⟩ := id hO
    obtain ⟨r_0, r_1, r_2, r_3, r_p, r_i⟩ := id hC
    clear o_p o_i r_p r_i o_la o_da o_we
    have ep : ((2 ^ (T 0 1).toNat : Nat) : Int) = (2 : Int) ^ (T 0 1).toNat := by simp
    have hp12 : 2 ^ (T 0 1).toNat ≤ 2 ^ 12 := Nat.pow_le_pow_right (by decide) (by omega)
    have hp12e : (2 : Nat) ^ 12 = 4096 := rfl
    have m402 := hfw.1 402 (by decide)
    have hnext : ∀ u : Nat, (allS T n.toInt u ∧ (u : Int) < s.toInt + 1) ↔ ((allS T n.toInt u ∧ (u : Int) < s.toInt) ∨ (u = s.toInt.toNat ∧ allS T n.toInt u)) := fun u => by
      constructor
      · rintro ⟨h1, h2⟩
        by_cases h : (u : Int) < s.toInt
        · exact Or.inl ⟨h1, h⟩
        · exact Or.inr ⟨by omega, h1⟩
      · rintro (⟨h1, h2⟩ | ⟨h1, h2⟩)
        · exact ⟨h1, by omega⟩
        · exact ⟨h2, by omega⟩
    refine g_iload_n3 dX6_fewest_26 rfl ?_
    refine g_iconstI dX6_fewest_27 rfl rfl (fun w27 h27 => ?_)
    refine g_aload_n0 dX6_fewest_28 rfl ?_
    refine g_getr dX6_fewest_29 rfl fX6_25 hR.1 rfl ?_
    refine g_iconstI dX6_fewest_32 rfl rfl (fun w32 h32 => ?_)
    refine g_ialdI dX6_fewest_33 rfl (rf_told hR) ⟨by omega, by omega⟩ ?_
    have et33 : w32.toInt.toNat = 1 := by omega
    rw [et33, m402]
    clear et33
    refine g_ishlB dX6_fewest_34 rfl ⟨by omega, by omega⟩ (fun w34 h34 => ?_)
    have hpw : 2 ^ (M0.1 402 1).toInt.toNat < 4294967296 := by rw [r_1]; omega
    rw [bn_lit (n := 1) h27, Nat.shiftLeft_eq, Nat.one_mul, Nat.mod_eq_of_lt hpw, r_1] at h34
    have e34 : w34.toInt = (2 : Int) ^ (T 0 1).toNat := by rw [i_bn (by omega), h34, ep]
    clear hpw h34
    refine g_icmp_geI (t := 89) dX6_fewest_35 (by decide) rfl (fun c35 => ?_) (fun c35 => ?_)
    · -- 35 t
      refine g_iload_n2 dX6_fewest_89 rfl ?_
      refine g_iret dX6_fewest_90 rfl ?_
      refine hQ _ _ hfw (ch_congr (fun u => ⟨fun h => h.1, fun h => ⟨h, ?_⟩⟩) (fun _ _ => rfl) hch)
      have := h.1
      omega
    · -- 35 f
      refine g_aload_n0 dX6_fewest_38 rfl ?_
      refine g_iload_n3 dX6_fewest_39 rfl ?_
      refine g_callVi1 dX6_fewest_40 rfl vX6_273 hR.1 rfl (r_weightOf hR hO hC2 hW2 hs0) (g_rm (by omega)) (Nat.le_of_ble_eq_true rfl) (fun z40 M40 e40 => ?_)
      obtain ⟨rfl, e40⟩ := e40
      have hsn : s.toInt.toNat < 2 ^ (T 0 1).toNat := by omega
      rw [← wsum_ext (w := T 7) hsn (show (T 0 1).toNat ≤ 12 by omega)] at e40
      have e40 : z40.toInt = wtT T s.toInt.toNat := e40
      refine g_iload_n1 dX6_fewest_43 rfl ?_
      refine g_icmp_ltI (t := 83) dX6_fewest_44 (by decide) rfl (fun c44 => ?_) (fun c44 => ?_)
      · -- 44 t
        have hno : ¬ allS T n.toInt s.toInt.toNat := fun h => by have := all_wt hO hn.1 h; omega
        have hfw2 := hfw
        refine g_iincI3 dX6_fewest_83 rfl rfl rfl ⟨by omega, by omega⟩ (fun w83 h83 => ?_)
        refine g_goto (t := 26) dX6_fewest_86 (by decide) ?_
        rw [← h83] at hnext
        have esn : ((s.toInt.toNat : Nat) : Int) = s.toInt := by omega
        first
          | (have hz := hno
             exact ih _ (by omega) _ _ _ rfl (by omega) (by omega) hfw2 (ch_congr (fun u => ⟨fun h => (hnext u).mpr (Or.inl h), fun h => ((hnext u).mp h).elim id (fun h => absurd (h.1 ▸ h.2) hno)⟩) (fun _ _ => rfl) hch))
          | (have hz := hyes
             have hnx : ∀ u : Nat, (allS T n.toInt u ∧ (u : Int) < w83.toInt) ↔ ((allS T n.toInt u ∧ (u : Int) < s.toInt) ∨ u = s.toInt.toNat) := fun u => (hnext u).trans ⟨fun h => h.elim Or.inl (fun h => Or.inr h.1), fun h => h.elim Or.inl (fun h => Or.inr ⟨h, h ▸ hz⟩)⟩
             first
               | (have hq := c60; exact ih _ (by omega) _ _ _ rfl (by omega) (by omega) hfw2 (by rw [← esn]; exact ch_new hch (Or.inr ⟨b.toInt.toNat, by omega, by omega⟩) hnx))
               | exact ih _ (by omega) _ _ _ rfl (by omega) (by omega) hfw2 (by rw [← esn]; exact ch_new hch (Or.inl (by omega)) hnx))
          | (have hfw2 := hfw
             by_cases hz : allS T n.toInt s.toInt.toNat
             · have hnx : ∀ u : Nat, (allS T n.toInt u ∧ (u : Int) < w83.toInt) ↔ ((allS T n.toInt u ∧ (u : Int) < s.toInt) ∨ u = s.toInt.toNat) := fun u => (hnext u).trans ⟨fun h => h.elim Or.inl (fun h => Or.inr h.1), fun h => h.elim Or.inl (fun h => Or.inr ⟨h, h ▸ hz⟩)⟩
               exact ih _ (by omega) _ _ _ rfl (by omega) (by omega) hfw2 (ch_keep hch (fun m hm => by rw [show b.toInt.toNat = m by omega] at e57; omega) (by omega) (fun u hu => by have := hu.2; omega) hnx)
             · have hno := hz
               exact ih _ (by omega) _ _ _ rfl (by omega) (by omega) hfw2 (ch_congr (fun u => ⟨fun h => (hnext u).mpr (Or.inl h), fun h => ((hnext u).mp h).elim id (fun h => absurd (h.1 ▸ h.2) hno)⟩) (fun _ _ => rfl) hch))
      · -- 44 f
        refine g_iload_n2 dX6_fewest_47 rfl ?_
        refine g_iconstI dX6_fewest_48 rfl rfl (fun w48 h48 => ?_)
        refine g_icmp_eqI (t := 66) dX6_fewest_49 (by decide) rfl (fun c49 => ?_) (fun c49 => ?_)
        · -- 49 t
          refine g_aload_n0 dX6_fewest_66 rfl ?_
          refine g_iload_n3 dX6_fewest_67 rfl ?_
          refine g_iconstI dX6_fewest_68 rfl rfl (fun w68 h68 => ?_)
          refine g_callVv2 dX6_fewest_69 rfl vX6_377 hR.1 rfl (r_tellWeights hR hO hC2 hW2 hs0) (g_rm (by omega)) (Nat.le_of_ble_eq_true rfl) (fun M69 e69 => ?_)
          have hfw2 : fwM M0 M69 := ⟨fun j hj => by rw [e69.1 j hj]; exact hfw.1 j hj, by rw [e69.2.1]; exact hfw.2⟩
          refine g_aload_n0 dX6_fewest_72 rfl ?_
          refine g_iload_n1 dX6_fewest_73 rfl ?_
          refine g_callVi1 dX6_fewest_74 rfl vX6_380 hR.1 rfl (r_madeUpTo hR ⟨by omega, by omega⟩ (fun v hv => (e69.2.2 v hv).1)) (g_rm (by omega)) (Nat.le_of_ble_eq_true rfl) (fun z74 M74 e74 => ?_)
          obtain ⟨e74a, e74⟩ := e74
          subst e74a
          have hall : z74.toInt = n.toInt ↔ allS T n.toInt s.toInt.toNat := by
            rw [e74]
            have hc := cntP_all (P := fun v => (M74.1 446 (v + 1)).toInt = 1) (n := n.toInt.toNat)
            rw [show ((n.toInt.toNat : Nat) : Int) = n.toInt by omega] at hc
            rw [hc]
            constructor
            · intro h
              refine ⟨hsn, fun v hv => ?_⟩
              have h1 := (e69.2.2 (v + 1) (by omega)).2.mp (h v (by omega))
              rw [h68] at h1; exact h1
            · intro h v hv
              refine (e69.2.2 (v + 1) (by omega)).2.mpr ?_
              rw [h68]; exact h.2 v (by omega)
          refine g_iload_n1 dX6_fewest_77 rfl ?_
          refine g_icmp_neI (t := 83) dX6_fewest_78 (by decide) rfl (fun c78 => ?_) (fun c78 => ?_)
          · -- 78 t
            have hno : ¬ allS T n.toInt s.toInt.toNat := fun h => by have := hall.mpr h; omega
            clear hall
            refine g_iincI3 dX6_fewest_83 rfl rfl rfl ⟨by omega, by omega⟩ (fun w83 h83 => ?_)
            refine g_goto (t := 26) dX6_fewest_86 (by decide) ?_
            rw [← h83] at hnext
            have esn : ((s.toInt.toNat : Nat) : Int) = s.toInt := by omega
            first
              | (have hz := hno
                 exact ih _ (by omega) _ _ _ rfl (by omega) (by omega) hfw2 (ch_congr (fun u => ⟨fun h => (hnext u).mpr (Or.inl h), fun h => ((hnext u).mp h).elim id (fun h => absurd (h.1 ▸ h.2) hno)⟩) (fun _ _ => rfl) hch))
              | (have hz := hyes
                 have hnx : ∀ u : Nat, (allS T n.toInt u ∧ (u : Int) < w83.toInt) ↔ ((allS T n.toInt u ∧ (u : Int) < s.toInt) ∨ u = s.toInt.toNat) := fun u => (hnext u).trans ⟨fun h => h.elim Or.inl (fun h => Or.inr h.1), fun h => h.elim Or.inl (fun h => Or.inr ⟨h, h ▸ hz⟩)⟩
                 first
                   | (have hq := c60; exact ih _ (by omega) _ _ _ rfl (by omega) (by omega) hfw2 (by rw [← esn]; exact ch_new hch (Or.inr ⟨b.toInt.toNat, by omega, by omega⟩) hnx))
                   | exact ih _ (by omega) _ _ _ rfl (by omega) (by omega) hfw2 (by rw [← esn]; exact ch_new hch (Or.inl (by omega)) hnx))
              | (have hfw2 := hfw
                 by_cases hz : allS T n.toInt s.toInt.toNat
                 · have hnx : ∀ u : Nat, (allS T n.toInt u ∧ (u : Int) < w83.toInt) ↔ ((allS T n.toInt u ∧ (u : Int) < s.toInt) ∨ u = s.toInt.toNat) := fun u => (hnext u).trans ⟨fun h => h.elim Or.inl (fun h => Or.inr h.1), fun h => h.elim Or.inl (fun h => Or.inr ⟨h, h ▸ hz⟩)⟩
                   exact ih _ (by omega) _ _ _ rfl (by omega) (by omega) hfw2 (ch_keep hch (fun m hm => by rw [show b.toInt.toNat = m by omega] at e57; omega) (by omega) (fun u hu => by have := hu.2; omega) hnx)
                 · have hno := hz
                   exact ih _ (by omega) _ _ _ rfl (by omega) (by omega) hfw2 (ch_congr (fun u => ⟨fun h => (hnext u).mpr (Or.inl h), fun h => ((hnext u).mp h).elim id (fun h => absurd (h.1 ▸ h.2) hno)⟩) (fun _ _ => rfl) hch))
          · -- 78 f
            have hyes := hall.mp (by omega)
            clear hall
            refine g_iload_n3 dX6_fewest_81 rfl ?_
            refine g_istore_n2 dX6_fewest_82 rfl rfl ?_
            refine g_iincI3 dX6_fewest_83 rfl rfl rfl ⟨by omega, by omega⟩ (fun w83 h83 => ?_)
            refine g_goto (t := 26) dX6_fewest_86 (by decide) ?_
            rw [← h83] at hnext
            have esn : ((s.toInt.toNat : Nat) : Int) = s.toInt := by omega
            first
              | (have hz := hno
                 exact ih _ (by omega) _ _ _ rfl (by omega) (by omega) hfw2 (ch_congr (fun u => ⟨fun h => (hnext u).mpr (Or.inl h), fun h => ((hnext u).mp h).elim id (fun h => absurd (h.1 ▸ h.2) hno)⟩) (fun _ _ => rfl) hch))
              | (have hz := hyes
                 have hnx : ∀ u : Nat, (allS T n.toInt u ∧ (u : Int) < w83.toInt) ↔ ((allS T n.toInt u ∧ (u : Int) < s.toInt) ∨ u = s.toInt.toNat) := fun u => (hnext u).trans ⟨fun h => h.elim Or.inl (fun h => Or.inr h.1), fun h => h.elim Or.inl (fun h => Or.inr ⟨h, h ▸ hz⟩)⟩
                 first
                   | (have hq := c60; exact ih _ (by omega) _ _ _ rfl (by omega) (by omega) hfw2 (by rw [← esn]; exact ch_new hch (Or.inr ⟨b.toInt.toNat, by omega, by omega⟩) hnx))
                   | exact ih _ (by omega) _ _ _ rfl (by omega) (by omega) hfw2 (by rw [← esn]; exact ch_new hch (Or.inl (by omega)) hnx))
              | (have hfw2 := hfw
                 by_cases hz : allS T n.toInt s.toInt.toNat
                 · have hnx : ∀ u : Nat, (allS T n.toInt u ∧ (u : Int) < w83.toInt) ↔ ((allS T n.toInt u ∧ (u : Int) < s.toInt) ∨ u = s.toInt.toNat) := fun u => (hnext u).trans ⟨fun h => h.elim Or.inl (fun h => Or.inr h.1), fun h => h.elim Or.inl (fun h => Or.inr ⟨h, h ▸ hz⟩)⟩
                   exact ih _ (by omega) _ _ _ rfl (by omega) (by omega) hfw2 (ch_keep hch (fun m hm => by rw [show b.toInt.toNat = m by omega] at e57; omega) (by omega) (fun u hu => by have := hu.2; omega) hnx)
                 · have hno := hz
                   exact ih _ (by omega) _ _ _ rfl (by omega) (by omega) hfw2 (ch_congr (fun u => ⟨fun h => (hnext u).mpr (Or.inl h), fun h => ((hnext u).mp h).elim id (fun h => absurd (h.1 ▸ h.2) hno)⟩) (fun _ _ => rfl) hch))
        · -- 49 f
          have hb0 : 0 ≤ b.toInt ∧ b.toInt < s.toInt := by
            rcases hch with ⟨h, -⟩ | ⟨m, h, h1, -⟩
            · omega
            · have := h1.2; omega
          refine g_iload_n3 dX6_fewest_52 rfl ?_
          refine g_callSi1 dX6_fewest_53 rfl sX6_305 (r_bitsOf ⟨hs0, by omega⟩) (g_rm (by omega)) (Nat.le_of_ble_eq_true rfl) (fun z53 M53 e53 => ?_)
          obtain ⟨rfl, e53⟩ := e53
          refine g_iload_n2 dX6_fewest_56 rfl ?_
          refine g_callSi1 dX6_fewest_57 rfl sX6_305 (r_bitsOf ⟨by omega, by omega⟩) (g_rm (by omega)) (Nat.le_of_ble_eq_true rfl) (fun z57 M57 e57 => ?_)
          obtain ⟨rfl, e57⟩ := e57
          refine g_icmp_ltI (t := 66) dX6_fewest_60 (by decide) rfl (fun c60 => ?_) (fun c60 => ?_)
          · -- 60 t
            refine g_aload_n0 dX6_fewest_66 rfl ?_
            refine g_iload_n3 dX6_fewest_67 rfl ?_
            refine g_iconstI dX6_fewest_68 rfl rfl (fun w68 h68 => ?_)
            refine g_callVv2 dX6_fewest_69 rfl vX6_377 hR.1 rfl (r_tellWeights hR hO hC2 hW2 hs0) (g_rm (by omega)) (Nat.le_of_ble_eq_true rfl) (fun M69 e69 => ?_)
            have hfw2 : fwM M0 M69 := ⟨fun j hj => by rw [e69.1 j hj]; exact hfw.1 j hj, by rw [e69.2.1]; exact hfw.2⟩
            refine g_aload_n0 dX6_fewest_72 rfl ?_
            refine g_iload_n1 dX6_fewest_73 rfl ?_
            refine g_callVi1 dX6_fewest_74 rfl vX6_380 hR.1 rfl (r_madeUpTo hR ⟨by omega, by omega⟩ (fun v hv => (e69.2.2 v hv).1)) (g_rm (by omega)) (Nat.le_of_ble_eq_true rfl) (fun z74 M74 e74 => ?_)
            obtain ⟨e74a, e74⟩ := e74
            subst e74a
            have hall : z74.toInt = n.toInt ↔ allS T n.toInt s.toInt.toNat := by
              rw [e74]
              have hc := cntP_all (P := fun v => (M74.1 446 (v + 1)).toInt = 1) (n := n.toInt.toNat)
              rw [show ((n.toInt.toNat : Nat) : Int) = n.toInt by omega] at hc
              rw [hc]
              constructor
              · intro h
                refine ⟨hsn, fun v hv => ?_⟩
                have h1 := (e69.2.2 (v + 1) (by omega)).2.mp (h v (by omega))
                rw [h68] at h1; exact h1
              · intro h v hv
                refine (e69.2.2 (v + 1) (by omega)).2.mpr ?_
                rw [h68]; exact h.2 v (by omega)
            refine g_iload_n1 dX6_fewest_77 rfl ?_
            refine g_icmp_neI (t := 83) dX6_fewest_78 (by decide) rfl (fun c78 => ?_) (fun c78 => ?_)
            · -- 78 t
              have hno : ¬ allS T n.toInt s.toInt.toNat := fun h => by have := hall.mpr h; omega
              clear hall
              refine g_iincI3 dX6_fewest_83 rfl rfl rfl ⟨by omega, by omega⟩ (fun w83 h83 => ?_)
              refine g_goto (t := 26) dX6_fewest_86 (by decide) ?_
              rw [← h83] at hnext
              have esn : ((s.toInt.toNat : Nat) : Int) = s.toInt := by omega
              first
                | (have hz := hno
                   exact ih _ (by omega) _ _ _ rfl (by omega) (by omega) hfw2 (ch_congr (fun u => ⟨fun h => (hnext u).mpr (Or.inl h), fun h => ((hnext u).mp h).elim id (fun h => absurd (h.1 ▸ h.2) hno)⟩) (fun _ _ => rfl) hch))
                | (have hz := hyes
                   have hnx : ∀ u : Nat, (allS T n.toInt u ∧ (u : Int) < w83.toInt) ↔ ((allS T n.toInt u ∧ (u : Int) < s.toInt) ∨ u = s.toInt.toNat) := fun u => (hnext u).trans ⟨fun h => h.elim Or.inl (fun h => Or.inr h.1), fun h => h.elim Or.inl (fun h => Or.inr ⟨h, h ▸ hz⟩)⟩
                   first
                     | (have hq := c60; exact ih _ (by omega) _ _ _ rfl (by omega) (by omega) hfw2 (by rw [← esn]; exact ch_new hch (Or.inr ⟨b.toInt.toNat, by omega, by omega⟩) hnx))
                     | exact ih _ (by omega) _ _ _ rfl (by omega) (by omega) hfw2 (by rw [← esn]; exact ch_new hch (Or.inl (by omega)) hnx))
                | (have hfw2 := hfw
                   by_cases hz : allS T n.toInt s.toInt.toNat
                   · have hnx : ∀ u : Nat, (allS T n.toInt u ∧ (u : Int) < w83.toInt) ↔ ((allS T n.toInt u ∧ (u : Int) < s.toInt) ∨ u = s.toInt.toNat) := fun u => (hnext u).trans ⟨fun h => h.elim Or.inl (fun h => Or.inr h.1), fun h => h.elim Or.inl (fun h => Or.inr ⟨h, h ▸ hz⟩)⟩
                     exact ih _ (by omega) _ _ _ rfl (by omega) (by omega) hfw2 (ch_keep hch (fun m hm => by rw [show b.toInt.toNat = m by omega] at e57; omega) (by omega) (fun u hu => by have := hu.2; omega) hnx)
                   · have hno := hz
                     exact ih _ (by omega) _ _ _ rfl (by omega) (by omega) hfw2 (ch_congr (fun u => ⟨fun h => (hnext u).mpr (Or.inl h), fun h => ((hnext u).mp h).elim id (fun h => absurd (h.1 ▸ h.2) hno)⟩) (fun _ _ => rfl) hch))
            · -- 78 f
              have hyes := hall.mp (by omega)
              clear hall
              refine g_iload_n3 dX6_fewest_81 rfl ?_
              refine g_istore_n2 dX6_fewest_82 rfl rfl ?_
              refine g_iincI3 dX6_fewest_83 rfl rfl rfl ⟨by omega, by omega⟩ (fun w83 h83 => ?_)
              refine g_goto (t := 26) dX6_fewest_86 (by decide) ?_
              rw [← h83] at hnext
              have esn : ((s.toInt.toNat : Nat) : Int) = s.toInt := by omega
              first
                | (have hz := hno
                   exact ih _ (by omega) _ _ _ rfl (by omega) (by omega) hfw2 (ch_congr (fun u => ⟨fun h => (hnext u).mpr (Or.inl h), fun h => ((hnext u).mp h).elim id (fun h => absurd (h.1 ▸ h.2) hno)⟩) (fun _ _ => rfl) hch))
                | (have hz := hyes
                   have hnx : ∀ u : Nat, (allS T n.toInt u ∧ (u : Int) < w83.toInt) ↔ ((allS T n.toInt u ∧ (u : Int) < s.toInt) ∨ u = s.toInt.toNat) := fun u => (hnext u).trans ⟨fun h => h.elim Or.inl (fun h => Or.inr h.1), fun h => h.elim Or.inl (fun h => Or.inr ⟨h, h ▸ hz⟩)⟩
                   first
                     | (have hq := c60; exact ih _ (by omega) _ _ _ rfl (by omega) (by omega) hfw2 (by rw [← esn]; exact ch_new hch (Or.inr ⟨b.toInt.toNat, by omega, by omega⟩) hnx))
                     | exact ih _ (by omega) _ _ _ rfl (by omega) (by omega) hfw2 (by rw [← esn]; exact ch_new hch (Or.inl (by omega)) hnx))
                | (have hfw2 := hfw
                   by_cases hz : allS T n.toInt s.toInt.toNat
                   · have hnx : ∀ u : Nat, (allS T n.toInt u ∧ (u : Int) < w83.toInt) ↔ ((allS T n.toInt u ∧ (u : Int) < s.toInt) ∨ u = s.toInt.toNat) := fun u => (hnext u).trans ⟨fun h => h.elim Or.inl (fun h => Or.inr h.1), fun h => h.elim Or.inl (fun h => Or.inr ⟨h, h ▸ hz⟩)⟩
                     exact ih _ (by omega) _ _ _ rfl (by omega) (by omega) hfw2 (ch_keep hch (fun m hm => by rw [show b.toInt.toNat = m by omega] at e57; omega) (by omega) (fun u hu => by have := hu.2; omega) hnx)
                   · have hno := hz
                     exact ih _ (by omega) _ _ _ rfl (by omega) (by omega) hfw2 (ch_congr (fun u => ⟨fun h => (hnext u).mpr (Or.inl h), fun h => ((hnext u).mp h).elim id (fun h => absurd (h.1 ▸ h.2) hno)⟩) (fun _ _ => rfl) hch))
          · -- 60 f
            refine g_goto (t := 83) dX6_fewest_63 (by decide) ?_
            refine g_iincI3 dX6_fewest_83 rfl rfl rfl ⟨by omega, by omega⟩ (fun w83 h83 => ?_)
            refine g_goto (t := 26) dX6_fewest_86 (by decide) ?_
            rw [← h83] at hnext
            have esn : ((s.toInt.toNat : Nat) : Int) = s.toInt := by omega
            first
              | (have hz := hno
                 exact ih _ (by omega) _ _ _ rfl (by omega) (by omega) hfw2 (ch_congr (fun u => ⟨fun h => (hnext u).mpr (Or.inl h), fun h => ((hnext u).mp h).elim id (fun h => absurd (h.1 ▸ h.2) hno)⟩) (fun _ _ => rfl) hch))
              | (have hz := hyes
                 have hnx : ∀ u : Nat, (allS T n.toInt u ∧ (u : Int) < w83.toInt) ↔ ((allS T n.toInt u ∧ (u : Int) < s.toInt) ∨ u = s.toInt.toNat) := fun u => (hnext u).trans ⟨fun h => h.elim Or.inl (fun h => Or.inr h.1), fun h => h.elim Or.inl (fun h => Or.inr ⟨h, h ▸ hz⟩)⟩
                 first
                   | (have hq := c60; exact ih _ (by omega) _ _ _ rfl (by omega) (by omega) hfw2 (by rw [← esn]; exact ch_new hch (Or.inr ⟨b.toInt.toNat, by omega, by omega⟩) hnx))
                   | exact ih _ (by omega) _ _ _ rfl (by omega) (by omega) hfw2 (by rw [← esn]; exact ch_new hch (Or.inl (by omega)) hnx))
              | (have hfw2 := hfw
                 by_cases hz : allS T n.toInt s.toInt.toNat
                 · have hnx : ∀ u : Nat, (allS T n.toInt u ∧ (u : Int) < w83.toInt) ↔ ((allS T n.toInt u ∧ (u : Int) < s.toInt) ∨ u = s.toInt.toNat) := fun u => (hnext u).trans ⟨fun h => h.elim Or.inl (fun h => Or.inr h.1), fun h => h.elim Or.inl (fun h => Or.inr ⟨h, h ▸ hz⟩)⟩
                   exact ih _ (by omega) _ _ _ rfl (by omega) (by omega) hfw2 (ch_keep hch (fun m hm => by rw [show b.toInt.toNat = m by omega] at e57; omega) (by omega) (fun u hu => by have := hu.2; omega) hnx)
                 · have hno := hz
                   exact ih _ (by omega) _ _ _ rfl (by omega) (by omega) hfw2 (ch_congr (fun u => ⟨fun h => (hnext u).mpr (Or.inl h), fun h => ((hnext u).mp h).elim id (fun h => absurd (h.1 ▸ h.2) hno)⟩) (fun _ _ => rfl) hch))
set_option maxHeartbeats 1200000 in
theorem r_fewest {Γ : gW} {M : gM} {T : gTw} (hR : g_Ref Γ) (hO : TOK T) (hS : RS T M) {n : Int32} : Ct Γ yX6_fewest μX6_fewest 1 [.ref 300, .int n] M (g_qi (fun z M1 => (¬ (1 ≤ n.toInt ∧ n.toInt ≤ 999) ∧ z.toInt = 0 ∧ M1 = g_u (g_u M 300 1 0) 300 1 1) ∨ ((1 ≤ n.toInt ∧ n.toInt ≤ 999) ∧ fwM (g_u M 300 1 0) M1 ∧ CH (allS T n.toInt) popc z.toInt))) := by
  have hS0 := RS.code (x := 0) hS
  obtain ⟨hC, hW, hA, hDy, hWe⟩ := id hS0
  obtain ⟨o_pe, o_th, o_la, o_wi, o_da, o_we, o_p, o_i⟩ := id hO
  obtain ⟨r_0, r_1, r_2, r_3, r_p, r_i⟩ := id hC
  refine g_enter rfl rfl rfl (Nat.le_of_ble_eq_true rfl) ?_
  show G Γ _ _ _ _ 0 [some (.ref 300), some (.int n), none, none] [] M
  refine g_aload_n0 dX6_fewest_0 rfl ?_
  refine g_iconst (v := 0) dX6_fewest_1 rfl rfl ?_
  refine g_put dX6_fewest_2 rfl fX6_128 hR.1 rfl rfl rfl ?_
  refine g_iload_n1 dX6_fewest_5 rfl ?_
  refine g_iconstI dX6_fewest_6 rfl rfl (fun w6 h6 => ?_)
  refine g_sipushI dX6_fewest_7 rfl rfl (fun w7 h7 => ?_)
  refine g_callSi3 dX6_fewest_10 rfl sX6_131 (r_isIn) (g_rm (by omega)) (Nat.le_of_ble_eq_true rfl) (fun z10 M10 e10 => ?_)
  obtain ⟨e10a, e10, f10⟩ := e10
  subst e10a
  refine g_if_neI (t := 22) dX6_fewest_13 (by decide) rfl (fun c13 => ?_) (fun c13 => ?_)
  · -- 13 t
    have hn : 1 ≤ n.toInt ∧ n.toInt ≤ 999 := by have := f10.mp (by omega); omega
    clear f10 e10
    have hpos := two_pos (T 0 1).toNat
    refine g_iconstI dX6_fewest_22 rfl rfl (fun w22 h22 => ?_)
    refine g_istore_n2 dX6_fewest_23 rfl rfl ?_
    refine g_iconstI dX6_fewest_24 rfl rfl (fun w24 h24 => ?_)
    refine g_istore_n3 dX6_fewest_25 rfl rfl ?_
    exact l_fewest hR hO hC hW hn (fun z M1 hf hz => ⟨_, rfl, Or.inr ⟨hn, hf, hz⟩⟩) _ _ _ _ rfl (by omega) (by omega) ⟨fun _ _ => rfl, rfl⟩ (by rw [h22]; exact Or.inl ⟨rfl, fun u hu => by have := hu.2; omega⟩)
  · -- 13 f
    have hn : ¬ (1 ≤ n.toInt ∧ n.toInt ≤ 999) := fun h => by have := f10.mpr (by omega); omega
    clear f10 e10
    refine g_aload_n0 dX6_fewest_16 rfl ?_
    refine g_iconst (v := 1) dX6_fewest_17 rfl rfl ?_
    refine g_callVi1 dX6_fewest_18 rfl vX6_243 hR.1 rfl (r_fail hR) (g_rm (by omega)) (Nat.le_of_ble_eq_true rfl) (fun z18 M18 e18 => ?_)
    obtain ⟨e18a, e18⟩ := e18
    subst e18a
    refine g_iret dX6_fewest_21 rfl ?_
    exact ⟨_, rfl, Or.inl ⟨hn, e18, rfl⟩⟩
