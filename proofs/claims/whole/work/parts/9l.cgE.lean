theorem i2s_ok {x : Int32} (h : 0 ≤ x.toInt ∧ x.toInt ≤ 1000) : vp_nar .short x.toInt16.toInt32 = x := by
  have h1 : ∀ j : Nat, j < 1001 → vp_nar .short (Int32.ofNat j).toInt16.toInt32 = Int32.ofNat j := by decide +kernel
  have h2 : x = Int32.ofNat x.toInt.toNat := i_ext (by rw [i_of (by omega)]; omega)
  have := h1 x.toInt.toNat (by omega)
  rw [← h2] at this
  exact this
/-- what noting a state may move -/
def frN1 (M M' : gM) : Prop := (∀ j, j ≠ 250 → j ≠ 252 → M'.1 j = M.1 j) ∧ (∀ j, j ≠ 251 → j ≠ 253 → M'.2 j = M.2 j) ∧ ∀ k, k ≠ 4 → k ≠ 5 → M'.1 250 k = M.1 250 k
theorem GC.none {T0 T : gTw} {σ : gGt} {M : gM} {k : Nat} (hG : GC T0 σ M) (hP : GC1 T0 T (M.2 253)) (h0 : slt M (hN (M.2 253) + k) = 0) (hb : ∀ d, d < k → ∃ j, j < σ.1 ∧ slt M (hN (M.2 253) + d) = (j : Int) + 1 ∧ ¬ σ.2.1 j = T) : ¬ ∃ j, j < σ.1 ∧ σ.2.1 j = T := by
  rintro ⟨j, hj, e⟩
  obtain ⟨-, -, -, -, g5, -, -, g8⟩ := hG
  have hgj := g5 j hj
  rw [e] at hgj
  have hrow := (pkr_eq hgj hP).mpr rfl
  have hh : hN (stL M j) = hN (M.2 253) := by rw [hN, hN, hS_ext hrow]
  obtain ⟨d, hd, hd1, hd2⟩ := g8 j hj
  rw [hh] at hd1 hd2
  rcases Nat.lt_trichotomy d k with q | q | q
  · obtain ⟨i, hi, h1, h2⟩ := hb d q
    have : i = j := by omega
    rw [this] at h2
    exact h2 e
  · rw [q] at hd1; omega
  · exact hd2 k q h0
theorem GC.full {T0 T : gTw} {σ : gGt} {M : gM} {b : Int} {x : Int32} (hG : GC T0 σ M) (hn : ¬ ∃ j, j < σ.1 ∧ σ.2.1 j = T) (h1 : σ.1 = 1000) (hx : x.toInt = 1) : GC T0 (gcome T b σ) (g_u M 250 5 x) := by
  rw [gcome_full hn h1]
  obtain ⟨g1, g2, g3, g4, g5, g6⟩ := hG
  have e2 : (g_u M 250 5 x).1 252 = M.1 252 := g_u_ne (by decide)
  refine ⟨by rw [g_u_eq, if_neg (by decide)]; exact g1, g2, by rw [g_u_eq, if_pos rfl]; exact hx, Or.inr ⟨h1, rfl⟩, g5, ?_⟩
  unfold GCs slt at g6 ⊢
  rw [e2]; exact g6
theorem GC.add {T0 T : gTw} {σ : gGt} {M : gM} {b : Int} {k : Nat} {x : Int32} (hG : GC T0 σ M) (h00 : σ.2.2.2 = 0) (hP : GC1 T0 T (M.2 253)) (hk : k < 2048) (h0 : slt M (hN (M.2 253) + k) = 0) (hb : ∀ d, d < k → ∃ j, j < σ.1 ∧ slt M (hN (M.2 253) + d) = (j : Int) + 1 ∧ ¬ σ.2.1 j = T) (hlt : σ.1 < 1000) (hx : x.toInt = (σ.1 : Int) + 1) {f : Nat → Int64} (hf1 : ∀ q, q < 6 * σ.1 → f q = M.2 251 q) (hf2 : ∀ q, q < 6 → f (6 * σ.1 + q) = M.2 253 q) : GC T0 (gcome T b σ) (g_u (g_u (g_rowL M 251 f) 250 4 x) 252 ((hN (M.2 253) + k) % 2048) x) := by
  have hno := GC.none hG hP h0 hb
  rw [gcome_new hno (by omega)]
  obtain ⟨g1, g2, g3, g4, g5, g6, g7, g8⟩ := hG
  obtain ⟨M', hM'⟩ : ∃ M', M' = g_u (g_u (g_rowL M 251 f) 250 4 x) 252 ((hN (M.2 253) + k) % 2048) x := ⟨_, rfl⟩
  rw [← hM']
  have hmod : (hN (M.2 253) + k) % 2048 < 2048 := Nat.mod_lt _ (by decide)
  have s1 : ∀ s, slt M' s = if s % 2048 = (hN (M.2 253) + k) % 2048 then (σ.1 : Int) + 1 else slt M s := fun s => by
    rw [slt, hM', g_u_eq]
    split
    · exact hx
    · rw [g_u_ne (by decide)]; rfl
  have st1 : ∀ j, j < σ.1 → stL M' j = fun q => if 6 * j + q < 6 * σ.1 then stL M j q else f (6 * j + q) := fun j hj => by
    funext q
    have e : M'.2 251 = f := by rw [hM']; show (g_rowL M 251 f).2 251 = f; exact g_rowL_at
    show M'.2 251 (6 * j + q) = _
    rw [e]
    by_cases hq : 6 * j + q < 6 * σ.1
    · rw [if_pos hq, hf1 _ hq]; rfl
    · rw [if_neg hq]
  have st6 : ∀ j, j < σ.1 → ∀ q, q < 6 → stL M' j q = stL M j q := fun j hj q hq => by rw [st1 j hj]; exact if_pos (by omega)
  have stN : ∀ q, q < 6 → stL M' σ.1 q = M.2 253 q := fun q hq => by
    have e : M'.2 251 = f := by rw [hM']; show (g_rowL M 251 f).2 251 = f; exact g_rowL_at
    show M'.2 251 (6 * σ.1 + q) = _
    rw [e]; exact hf2 q hq
  have hh : ∀ j, j < σ.1 → hN (stL M' j) = hN (stL M j) := fun j hj => by rw [hN, hN, hS_ext (st6 j hj)]
  have hhN : hN (stL M' σ.1) = hN (M.2 253) := by rw [hN, hN, hS_ext stN]
  have hz : slt M ((hN (M.2 253) + k) % 2048) = 0 := by rw [slt_mod]; exact h0
  refine ⟨?_, by show σ.1 + 1 ≤ 1000; omega, ?_, Or.inl h00, fun j hj => ?_, fun s hs => ?_, fun s s' hs hs' he hne => ?_, fun j hj => ?_⟩
  · rw [hM', g_u_ne (by decide), g_u_eq, if_pos rfl, hx]; rfl
  · rw [hM', g_u_ne (by decide), g_u_eq, if_neg (by decide)]; exact g3
  · show GC1 T0 (if j = σ.1 then T else σ.2.1 j) (stL M' j)
    by_cases hjn : j = σ.1
    · rw [if_pos hjn, hjn]
      exact ⟨hP.1, hP.2.1, fun q hq => by rw [stN q hq]; exact hP.2.2 q hq⟩
    · rw [if_neg hjn]
      have hj' : j < σ.1 := by have : j < σ.1 + 1 := hj; omega
      have := g5 j hj'
      exact ⟨this.1, this.2.1, fun q hq => by rw [st6 j hj' q hq]; exact this.2.2 q hq⟩
  · rw [s1]
    show _ ∧ _ ≤ ((σ.1 + 1 : Nat) : Int)
    have := g6 s hs
    split <;> omega
  · rw [s1, s1] at he
    rw [s1] at hne
    rw [Nat.mod_eq_of_lt hs] at he hne
    rw [Nat.mod_eq_of_lt hs'] at he
    have a := g6 s hs
    have a' := g6 s' hs'
    by_cases q : s = (hN (M.2 253) + k) % 2048
    · by_cases q' : s' = (hN (M.2 253) + k) % 2048
      · omega
      · rw [if_pos q, if_neg q'] at he; omega
    · by_cases q' : s' = (hN (M.2 253) + k) % 2048
      · rw [if_neg q, if_pos q'] at he; omega
      · rw [if_neg q, if_neg q'] at he
        rw [if_neg q] at hne
        exact g7 s s' hs hs' he hne
  · by_cases hjn : j = σ.1
    · refine ⟨k, hk, ?_, fun d' hd' => ?_⟩
      · rw [hjn, hhN, s1, if_pos rfl]
      · rw [hjn, hhN, s1]
        obtain ⟨i, hi, h1, h2⟩ := hb d' hd'
        split <;> omega
    · have hj' : j < σ.1 := by have : j < σ.1 + 1 := hj; omega
      obtain ⟨d, hd, hd1, hd2⟩ := g8 j hj'
      refine ⟨d, hd, ?_, fun d' hd' => ?_⟩
      · rw [hh j hj', s1]
        have : ¬ (hN (stL M j) + d) % 2048 = (hN (M.2 253) + k) % 2048 := fun q => by
          rw [← slt_mod, q, hz] at hd1; omega
        rw [if_neg this]; exact hd1
      · rw [hh j hj', s1]
        have := hd2 d' hd'
        split
        · omega
        · exact this
set_option maxHeartbeats 1200000 in
theorem l_ns {Γ : gW} (hA : g_Get Γ) {T0 T : gTw} {σ : gGt} {M : gM} (hG : GC T0 σ M) (hP : GC1 T0 T (M.2 253)) {Q : Option Value → gM → Prop} (hQ : (∃ j, j < σ.1 ∧ σ.2.1 j = T) → Q none M) (hk : ∀ s k : Int32, 0 ≤ k.toInt → k.toInt < 2048 → s.toInt = (((hN (M.2 253) + k.toInt.toNat) % 2048 : Nat) : Int) → slt M (hN (M.2 253) + k.toInt.toNat) = 0 → (∀ d, d < k.toInt.toNat → ∃ j, j < σ.1 ∧ slt M (hN (M.2 253) + d) = (j : Int) + 1 ∧ ¬ σ.2.1 j = T) → G Γ μX1_noteState (g_R 1) (0, 0) (g_Z Γ Q) 57 [some (.ref 250), some (.int s), some (.int k)] [] M) : ∀ (n9 : Nat) (s k : Int32), 2048 - k.toInt.toNat = n9 → 0 ≤ k.toInt → k.toInt ≤ 2048 → s.toInt = (((hN (M.2 253) + k.toInt.toNat) % 2048 : Nat) : Int) → (∀ d, d < k.toInt.toNat → ∃ j, j < σ.1 ∧ slt M (hN (M.2 253) + d) = (j : Int) + 1 ∧ ¬ σ.2.1 j = T) → G Γ μX1_noteState (g_R 1) (0, 0) (g_Z Γ Q) 11 [some (.ref 250), some (.int s), some (.int k)] [] M := by
  intro n9
  induction n9 using Nat.strongRecOn with
  | ind n9 ih =>
    intro s k h9 hk0 hk1 hs hb
    have hml : (hN (M.2 253) + k.toInt.toNat) % 2048 < 2048 := Nat.mod_lt _ (by decide)
    obtain ⟨g1, g2, g3, g4, g5, g6, g7, g8⟩ := id hG
    have hsl : (M.1 252 s.toInt.toNat).toInt = slt M (hN (M.2 253) + k.toInt.toNat) := by rw [slt, show s.toInt.toNat = (hN (M.2 253) + k.toInt.toNat) % 2048 by omega]
    have hsr := g6 _ hml
    rw [slt_mod, ← hsl] at hsr
    refine g_iload_n2 dX1_noteState_11 rfl ?_
    refine g_sipushI dX1_noteState_12 rfl rfl (fun w12 h12 => ?_)
    refine g_icmp_geI (t := 57) dX1_noteState_15 (by decide) rfl (fun c15 => ?_) (fun c15 => ?_)
    · -- 15 t
      exfalso
      obtain ⟨d, hd, hd0⟩ := slots_free hG.2.2.2.2.2 g2 (hN (M.2 253))
      obtain ⟨j, hj, h1, -⟩ := hb d (by omega)
      omega
    · -- 15 f
      refine g_aload_n0 dX1_noteState_18 rfl ?_
      refine g_getr dX1_noteState_19 rfl fX1_15 hA.1 rfl ?_
      refine g_iload_n1 dX1_noteState_22 rfl ?_
      refine g_saldI dX1_noteState_23 rfl hA.2.2.1 ⟨by omega, by omega⟩ ?_
      refine g_if_eqI (t := 57) dX1_noteState_24 (by decide) rfl (fun c24 => ?_) (fun c24 => ?_)
      · -- 24 t
        exact hk s k hk0 (by omega) hs (by rw [← hsl]; omega) hb
      · -- 24 f
        refine g_aload_n0 dX1_noteState_27 rfl ?_
        refine g_aload_n0 dX1_noteState_28 rfl ?_
        refine g_getr dX1_noteState_29 rfl fX1_15 hA.1 rfl ?_
        refine g_iload_n1 dX1_noteState_32 rfl ?_
        refine g_saldI dX1_noteState_33 rfl hA.2.2.1 ⟨by omega, by omega⟩ ?_
        refine g_iconstI dX1_noteState_34 rfl rfl (fun w34 h34 => ?_)
        refine g_isubI dX1_noteState_35 rfl ⟨by omega, by omega⟩ (fun w35 h35 => ?_)
        refine g_callVi1 dX1_noteState_36 rfl vX1_98 hA.1 rfl (c_isPacked (k := ((M.1 252 s.toInt.toNat).toInt - 1).toNat) hA (by omega) (by omega)) (g_rm (by omega)) (Nat.le_of_ble_eq_true rfl) (fun z36 M36 e36 => ?_)
        obtain ⟨hMM, e36, f36⟩ := e36
        subst M36
        refine g_if_eqI (t := 43) dX1_noteState_39 (by decide) rfl (fun c39 => ?_) (fun c39 => ?_)
        · -- 39 t
          have hnp : ¬ σ.2.1 ((M.1 252 s.toInt.toNat).toInt - 1).toNat = T := fun q => by
            have := f36.mpr ((pkr_eq (g5 _ (by omega)) hP).mpr q)
            omega
          clear f36 e36
          refine g_iload_n1 dX1_noteState_43 rfl ?_
          refine g_iconstI dX1_noteState_44 rfl rfl (fun w44 h44 => ?_)
          refine g_iaddI dX1_noteState_45 rfl ⟨by omega, by omega⟩ (fun w45 h45 => ?_)
          refine g_sipushI dX1_noteState_46 rfl rfl (fun w46 h46 => ?_)
          refine g_iandB dX1_noteState_49 rfl  (fun w49 h49 => ?_)
          have hw45 : bn w45 = (hN (M.2 253) + k.toInt.toNat) % 2048 + 1 := bn_lit (by omega)
          rw [hw45, bn_lit (n := 2047) h46, Nat.and_two_pow_sub_one_eq_mod _ 11] at h49
          refine g_istore_n1 dX1_noteState_50 rfl rfl ?_
          refine g_iincI2 dX1_noteState_51 rfl rfl rfl ⟨by omega, by omega⟩ (fun w51 h51 => ?_)
          refine g_goto (t := 11) dX1_noteState_54 (by decide) ?_
          have hmm := Nat.mod_lt ((hN (M.2 253) + k.toInt.toNat) % 2048 + 1) (by decide : 0 < 2 ^ 11)
          refine ih _ (show 2048 - w51.toInt.toNat < n9 by omega) w49 w51 rfl (by omega) (by omega) ?_ (fun d hd => ?_)
          · rw [i_bn (by omega), h49, show w51.toInt.toNat = k.toInt.toNat + 1 by omega]
            congr 1
            omega
          · by_cases hdk : d = k.toInt.toNat
            · refine ⟨((M.1 252 s.toInt.toNat).toInt - 1).toNat, by omega, ?_, hnp⟩
              rw [hdk, ← hsl]; omega
            · exact hb d (by omega)
        · -- 39 f
          have hyp : σ.2.1 ((M.1 252 s.toInt.toNat).toInt - 1).toNat = T := (pkr_eq (g5 _ (by omega)) hP).mp (f36.mp (by omega))
          clear f36 e36
          refine g_vret dX1_noteState_42 rfl ?_
          exact hQ ⟨_, by omega, hyp⟩
