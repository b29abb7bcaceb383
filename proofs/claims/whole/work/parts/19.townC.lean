def bc1 (x : Int32) : Int32 := x - (i_ushr x 1 &&& 1431655765)
def bc2 (x : Int32) : Int32 := (x &&& 858993459) + (i_ushr x 2 &&& 858993459)
def bc3 (x : Int32) : Int32 := (x + i_ushr x 4) &&& 252645135
def bc4 (x : Int32) : Int32 := x + i_ushr x 8
def bc5 (x : Int32) : Int32 := x + i_ushr x 16
def bcI (x : Int32) : Int32 := bc5 (bc4 (bc3 (bc2 (bc1 x)))) &&& 63
/-- how many things a set has -/
def popc (s : Nat) : Int := wsum (fun _ => 1) 12 s
theorem bc_all : ∀ i : Nat, i < 64 → ∀ j : Nat, j < 64 → (bcI (Int32.ofNat (64 * i + j))).toInt = popc (64 * i + j) := by decide +kernel
theorem bc_pop {x : Int32} (h : 0 ≤ x.toInt ∧ x.toInt < 4096) : (bcI x).toInt = popc x.toInt.toNat := by
  have h0 : ∀ j : Nat, j < 4096 → (Int32.ofNat j).toInt = j := fun j hj => by
    rw [Int32.toInt_ofNat', show Int32.size = 4294967296 from rfl, Int.bmod_eq_of_le (by omega) (by omega)]
  have e : x = Int32.ofNat x.toInt.toNat := i_ext (by rw [h0 _ (by omega)]; omega)
  have := bc_all (x.toInt.toNat / 64) (by omega) (x.toInt.toNat % 64) (by omega)
  rw [Nat.div_add_mod, ← e] at this
  exact this
set_option maxHeartbeats 4000000 in
theorem c_bitCount {Γ : gW} {M : gM} {x : Int32} (hx : 0 ≤ x.toInt ∧ x.toInt < 4096) : Ct Γ yJ6_bitCount_0f7a4 μJ6_bc 0 [.int x] M (g_qi (fun z M1 => M1 = M ∧ z.toInt = popc x.toInt.toNat)) := by
  refine g_enter rfl rfl rfl (Nat.le_of_ble_eq_true rfl) ?_
  show G Γ _ _ _ _ 0 [some (.int x)] [] M
  refine g_iload_n0 dJ6_bitCount_0f7a4_0 rfl ?_
  refine g_iload_n0 dJ6_bitCount_0f7a4_1 rfl ?_
  refine g_iconst (v := 1) dJ6_bitCount_0f7a4_2 rfl rfl ?_
  refine g_iushr (v := i_ushr _ _) dJ6_bitCount_0f7a4_3 rfl rfl ?_
  refine g_ldcw dJ6_bitCount_0f7a4_4 rfl jc_265 ?_
  refine g_iand dJ6_bitCount_0f7a4_7 rfl ?_
  refine g_isub dJ6_bitCount_0f7a4_8 rfl ?_
  refine g_istore_n0 dJ6_bitCount_0f7a4_9 rfl ?_
  refine g_iload_n0 dJ6_bitCount_0f7a4_10 rfl ?_
  refine g_ldcw dJ6_bitCount_0f7a4_11 rfl jc_266 ?_
  refine g_iand dJ6_bitCount_0f7a4_14 rfl ?_
  refine g_iload_n0 dJ6_bitCount_0f7a4_15 rfl ?_
  refine g_iconst (v := 2) dJ6_bitCount_0f7a4_16 rfl rfl ?_
  refine g_iushr (v := i_ushr _ _) dJ6_bitCount_0f7a4_17 rfl rfl ?_
  refine g_ldcw dJ6_bitCount_0f7a4_18 rfl jc_266 ?_
  refine g_iand dJ6_bitCount_0f7a4_21 rfl ?_
  refine g_iadd dJ6_bitCount_0f7a4_22 rfl ?_
  refine g_istore_n0 dJ6_bitCount_0f7a4_23 rfl ?_
  refine g_iload_n0 dJ6_bitCount_0f7a4_24 rfl ?_
  refine g_iload_n0 dJ6_bitCount_0f7a4_25 rfl ?_
  refine g_iconst (v := 4) dJ6_bitCount_0f7a4_26 rfl rfl ?_
  refine g_iushr (v := i_ushr _ _) dJ6_bitCount_0f7a4_27 rfl rfl ?_
  refine g_iadd dJ6_bitCount_0f7a4_28 rfl ?_
  refine g_ldcw dJ6_bitCount_0f7a4_29 rfl jc_267 ?_
  refine g_iand dJ6_bitCount_0f7a4_32 rfl ?_
  refine g_istore_n0 dJ6_bitCount_0f7a4_33 rfl ?_
  refine g_iload_n0 dJ6_bitCount_0f7a4_34 rfl ?_
  refine g_iload_n0 dJ6_bitCount_0f7a4_35 rfl ?_
  refine g_bipush (v := 8) dJ6_bitCount_0f7a4_36 rfl rfl ?_
  refine g_iushr (v := i_ushr _ _) dJ6_bitCount_0f7a4_38 rfl rfl ?_
  refine g_iadd dJ6_bitCount_0f7a4_39 rfl ?_
  refine g_istore_n0 dJ6_bitCount_0f7a4_40 rfl ?_
  refine g_iload_n0 dJ6_bitCount_0f7a4_41 rfl ?_
  refine g_iload_n0 dJ6_bitCount_0f7a4_42 rfl ?_
  refine g_bipush (v := 16) dJ6_bitCount_0f7a4_43 rfl rfl ?_
  refine g_iushr (v := i_ushr _ _) dJ6_bitCount_0f7a4_45 rfl rfl ?_
  refine g_iadd dJ6_bitCount_0f7a4_46 rfl ?_
  refine g_istore_n0 dJ6_bitCount_0f7a4_47 rfl ?_
  refine g_iload_n0 dJ6_bitCount_0f7a4_48 rfl ?_
  refine g_bipush (v := 63) dJ6_bitCount_0f7a4_49 rfl rfl ?_
  refine g_iand dJ6_bitCount_0f7a4_51 rfl ?_
  refine g_iret dJ6_bitCount_0f7a4_52 rfl ?_
  exact ⟨_, rfl, rfl, bc_pop hx⟩
def NF (M : gM) (t p : Nat) (a z : Int) : Prop := (may M t p ∧ NX M t (has M t p) a (lgt M t p - (M.1 (t + 3) p).toInt) (hvy M t p) z) ∨ (¬ may M t p ∧ z = -1)
theorem lgt_rng {M : gM} {t p : Nat} (hB : TB M t) (hp : p < 6) : 1 ≤ lgt M t p ∧ lgt M t p ≤ 2000 := by
  have := (hB.2.1 p hp).2.2.2.1
  have := hB.1.2.2.2.1
  rw [lgt]; split <;> omega
theorem hvy_rng {M : gM} {t p : Nat} (hB : TB M t) (hp : p < 6) : 0 ≤ hvy M t p ∧ hvy M t p ≤ 2009 := by
  have := (hB.2.1 p hp).2.2.2.1
  have := hB.1.2.2.2.1
  rw [hvy]; omega
set_option maxHeartbeats 4000000 in
theorem c_nextFit {Γ : gW} {t : Nat} {M : gM} (hT : g_Town Γ t) (hB : TB M t) {p : Int32} (hp : 0 ≤ p.toInt ∧ p.toInt < 6) {a : Int32} (ha : a.toInt = -1 ∨ (0 ≤ a.toInt ∧ sub (bn a) (has M t p.toInt.toNat))) : Ct Γ yX3_nextFit μX3_nextFit 2 [.ref t, .int p, .int a] M (g_qi (fun z M1 => M1 = M ∧ NF M t p.toInt.toNat a.toInt z.toInt)) := by
  have hb0 := hB.1
  obtain ⟨h_pe, h_th, h_la, h_wi, h_da, h_we⟩ := id hb0
  have hb1 := hB.2.1 p.toInt.toNat (by omega)
  obtain ⟨h_k, h_g, h_s, h_o, h_ot, h_h⟩ := id hb1
  have hlr := lgt_rng (p := p.toInt.toNat) hB (by omega)
  have hhr := hvy_rng (p := p.toInt.toNat) hB (by omega)
  refine g_enter rfl rfl rfl (Nat.le_of_ble_eq_true rfl) ?_
  show G Γ _ _ _ _ 0 [some (.ref t), some (.int p), some (.int a)] [] M
  refine g_aload_n0 dX3_nextFit_0 rfl ?_
  refine g_iload_n1 dX3_nextFit_1 rfl ?_
  refine g_callVi1 dX3_nextFit_2 rfl vX3_96 hT.1 rfl (c_mayAnswer hT hB hp) (g_rm (by omega)) (Nat.le_of_ble_eq_true rfl) (fun z2 M2 e2 => ?_)
  obtain ⟨rfl, e2, f2⟩ := e2
  refine g_if_neI (t := 10) dX3_nextFit_5 (by decide) rfl (fun c5 => ?_) (fun c5 => ?_)
  · -- 5 t
    refine g_aload_n0 dX3_nextFit_10 rfl ?_
    refine g_aload_n0 dX3_nextFit_11 rfl ?_
    refine g_getr dX3_nextFit_12 rfl fX3_46 hT.1 rfl ?_
    refine g_iload_n1 dX3_nextFit_15 rfl ?_
    refine g_ialdI dX3_nextFit_16 rfl (tw_has hT) ⟨by omega, by omega⟩ ?_
    refine g_iload_n2 dX3_nextFit_17 rfl ?_
    refine g_aload_n0 dX3_nextFit_18 rfl ?_
    refine g_iload_n1 dX3_nextFit_19 rfl ?_
    refine g_callVi1 dX3_nextFit_20 rfl vX3_84 hT.1 rfl (c_lightest hT hB hp) (g_rm (by omega)) (Nat.le_of_ble_eq_true rfl) (fun z20 M20 e20 => ?_)
    obtain ⟨rfl, e20⟩ := e20
    refine g_aload_n0 dX3_nextFit_23 rfl ?_
    refine g_getr dX3_nextFit_24 rfl fX3_37 hT.1 rfl ?_
    refine g_iload_n1 dX3_nextFit_27 rfl ?_
    refine g_ialdI dX3_nextFit_28 rfl (tw_sand hT) ⟨by omega, by omega⟩ ?_
    refine g_isubI dX3_nextFit_29 rfl ⟨by omega, by omega⟩ (fun w29 h29 => ?_)
    refine g_aload_n0 dX3_nextFit_30 rfl ?_
    refine g_iload_n1 dX3_nextFit_31 rfl ?_
    refine g_callVi1 dX3_nextFit_32 rfl vX3_87 hT.1 rfl (c_heaviest hT hB hp) (g_rm (by omega)) (Nat.le_of_ble_eq_true rfl) (fun z32 M32 e32 => ?_)
    obtain ⟨rfl, e32⟩ := e32
    refine g_callVi4 dX3_nextFit_35 rfl vX3_100 hT.1 rfl (c_nextSet hT hB (f := M32.1 (t + 6) p.toInt.toNat) ⟨by omega, by omega⟩ ha) (g_rm (by omega)) (Nat.le_of_ble_eq_true rfl) (fun z35 M35 e35 => ?_)
    obtain ⟨rfl, e35⟩ := e35
    rw [h29, e20, e32] at e35
    refine g_iret dX3_nextFit_38 rfl ?_
    exact ⟨_, rfl, rfl, Or.inl ⟨f2.mp (by omega), e35⟩⟩
  · -- 5 f
    refine g_iconstI dX3_nextFit_8 rfl rfl (fun w8 h8 => ?_)
    refine g_iret dX3_nextFit_9 rfl ?_
    exact ⟨_, rfl, rfl, Or.inr ⟨fun h => by have := f2.mpr h; omega, h8⟩⟩
set_option maxHeartbeats 4000000 in
theorem c_leastFitOf {Γ : gW} {t : Nat} {M : gM} (hT : g_Town Γ t) (hB : TB M t) {f p : Int32} (hf : 0 ≤ f.toInt ∧ f.toInt < 4096) (hp : 0 ≤ p.toInt ∧ p.toInt < 6) : Ct Γ yX3_leastFitOf μX3_leastFitOf 2 [.ref t, .int f, .int p] M (g_qi (fun z M1 => M1 = M ∧ NX M t (bn f) (-1) (lgt M t p.toInt.toNat - (M.1 (t + 3) p.toInt.toNat).toInt) (hvy M t p.toInt.toNat) z.toInt)) := by
  have hb0 := hB.1
  obtain ⟨h_pe, h_th, h_la, h_wi, h_da, h_we⟩ := id hb0
  have hb1 := hB.2.1 p.toInt.toNat (by omega)
  obtain ⟨h_k, h_g, h_s, h_o, h_ot, h_h⟩ := id hb1
  have hlr := lgt_rng (p := p.toInt.toNat) hB (by omega)
  have hhr := hvy_rng (p := p.toInt.toNat) hB (by omega)
  refine g_enter rfl rfl rfl (Nat.le_of_ble_eq_true rfl) ?_
  show G Γ _ _ _ _ 0 [some (.ref t), some (.int f), some (.int p)] [] M
  refine g_aload_n0 dX3_leastFitOf_0 rfl ?_
  refine g_iload_n1 dX3_leastFitOf_1 rfl ?_
  refine g_iconstI dX3_leastFitOf_2 rfl rfl (fun w2 h2 => ?_)
  refine g_aload_n0 dX3_leastFitOf_3 rfl ?_
  refine g_iload_n2 dX3_leastFitOf_4 rfl ?_
  refine g_callVi1 dX3_leastFitOf_5 rfl vX3_84 hT.1 rfl (c_lightest hT hB hp) (g_rm (by omega)) (Nat.le_of_ble_eq_true rfl) (fun z5 M5 e5 => ?_)
  obtain ⟨rfl, e5⟩ := e5
  refine g_aload_n0 dX3_leastFitOf_8 rfl ?_
  refine g_getr dX3_leastFitOf_9 rfl fX3_37 hT.1 rfl ?_
  refine g_iload_n2 dX3_leastFitOf_12 rfl ?_
  refine g_ialdI dX3_leastFitOf_13 rfl (tw_sand hT) ⟨by omega, by omega⟩ ?_
  refine g_isubI dX3_leastFitOf_14 rfl ⟨by omega, by omega⟩ (fun w14 h14 => ?_)
  refine g_aload_n0 dX3_leastFitOf_15 rfl ?_
  refine g_iload_n2 dX3_leastFitOf_16 rfl ?_
  refine g_callVi1 dX3_leastFitOf_17 rfl vX3_87 hT.1 rfl (c_heaviest hT hB hp) (g_rm (by omega)) (Nat.le_of_ble_eq_true rfl) (fun z17 M17 e17 => ?_)
  obtain ⟨rfl, e17⟩ := e17
  refine g_callVi4 dX3_leastFitOf_20 rfl vX3_100 hT.1 rfl (c_nextSet hT hB hf (Or.inl h2)) (g_rm (by omega)) (Nat.le_of_ble_eq_true rfl) (fun z20 M20 e20 => ?_)
  obtain ⟨rfl, e20⟩ := e20
  rw [h14, e5, e17, h2] at e20
  refine g_iret dX3_leastFitOf_23 rfl ?_
  exact ⟨_, rfl, rfl, e20⟩
def taker (M : gM) (t p : Nat) : Int := if ¬ (M.1 (t + 5) p).toInt = -1 then (M.1 (t + 5) p).toInt else if (M.1 (t + 1) p).toInt = 3 ∧ ¬ hold M t (M.1 (t + 2) p).toInt.toNat = -1 ∧ ¬ hold M t (M.1 (t + 2) p).toInt.toNat = p then hold M t (M.1 (t + 2) p).toInt.toNat else if (p : Int) + 1 < (M.1 t 0).toInt then (p : Int) + 1 else 0
set_option maxHeartbeats 4000000 in
theorem c_takerFor {Γ : gW} {t : Nat} {M : gM} (hT : g_Town Γ t) (hB : TB M t) {p : Int32} (hp : 0 ≤ p.toInt ∧ p.toInt < 6) : Ct Γ yX3_takerFor μX3_takerFor 2 [.ref t, .int p] M (g_qi (fun z M1 => M1 = M ∧ z.toInt = taker M t p.toInt.toNat)) := by
  have hb0 := hB.1
  obtain ⟨h_pe, h_th, h_la, h_wi, h_da, h_we⟩ := id hb0
  have hb1 := hB.2.1 p.toInt.toNat (by omega)
  obtain ⟨h_k, h_g, h_s, h_o, h_ot, h_h⟩ := id hb1
  have ep : ((p.toInt.toNat : Nat) : Int) = p.toInt := by omega
  refine g_enter rfl rfl rfl (Nat.le_of_ble_eq_true rfl) ?_
  show G Γ _ _ _ _ 0 [some (.ref t), some (.int p), none] [] M
  refine g_aload_n0 dX3_takerFor_0 rfl ?_
  refine g_getr dX3_takerFor_1 rfl fX3_43 hT.1 rfl ?_
  refine g_iload_n1 dX3_takerFor_4 rfl ?_
  refine g_ialdI dX3_takerFor_5 rfl (tw_owedTo hT) ⟨by omega, by omega⟩ ?_
  refine g_iconstI dX3_takerFor_6 rfl rfl (fun w6 h6 => ?_)
  refine g_icmp_eqI (t := 17) dX3_takerFor_7 (by decide) rfl (fun c7 => ?_) (fun c7 => ?_)
  · -- 7 t
    refine g_aload_n0 dX3_takerFor_17 rfl ?_
    refine g_getr dX3_takerFor_18 rfl fX3_30 hT.1 rfl ?_
    refine g_iload_n1 dX3_takerFor_21 rfl ?_
    refine g_ialdI dX3_takerFor_22 rfl (tw_kind hT) ⟨by omega, by omega⟩ ?_
    refine g_iconstI dX3_takerFor_23 rfl rfl (fun w23 h23 => ?_)
    refine g_icmp_neI (t := 50) dX3_takerFor_24 (by decide) rfl (fun c24 => ?_) (fun c24 => ?_)
    · -- 24 t
      refine g_iload_n1 dX3_takerFor_50 rfl ?_
      refine g_iconstI dX3_takerFor_51 rfl rfl (fun w51 h51 => ?_)
      refine g_iaddI dX3_takerFor_52 rfl ⟨by omega, by omega⟩ (fun w52 h52 => ?_)
      refine g_aload_n0 dX3_takerFor_53 rfl ?_
      refine g_geti dX3_takerFor_54 rfl fX3_9 hT.1 rfl ?_
      refine g_icmp_geI (t := 66) dX3_takerFor_57 (by decide) rfl (fun c57 => ?_) (fun c57 => ?_)
      · -- 57 t
        refine g_iconstI dX3_takerFor_66 rfl rfl (fun w66 h66 => ?_)
        refine g_iret dX3_takerFor_67 rfl ?_
        refine ⟨_, rfl, rfl, ?_⟩
        rw [taker, if_neg (by omega), if_neg (by intro hh; obtain ⟨a1, a2, a3⟩ := hh; first | omega | (rw [← e34] at a2 a3; omega)), ep]
        first | rw [if_pos (by omega)]; omega | rw [if_neg (by omega)]; omega
      · -- 57 f
        refine g_iload_n1 dX3_takerFor_60 rfl ?_
        refine g_iconstI dX3_takerFor_61 rfl rfl (fun w61 h61 => ?_)
        refine g_iaddI dX3_takerFor_62 rfl ⟨by omega, by omega⟩ (fun w62 h62 => ?_)
        refine g_goto (t := 67) dX3_takerFor_63 (by decide) ?_
        refine g_iret dX3_takerFor_67 rfl ?_
        refine ⟨_, rfl, rfl, ?_⟩
        rw [taker, if_neg (by omega), if_neg (by intro hh; obtain ⟨a1, a2, a3⟩ := hh; first | omega | (rw [← e34] at a2 a3; omega)), ep]
        first | rw [if_pos (by omega)]; omega | rw [if_neg (by omega)]; omega
    · -- 24 f
      refine g_aload_n0 dX3_takerFor_27 rfl ?_
      refine g_aload_n0 dX3_takerFor_28 rfl ?_
      refine g_getr dX3_takerFor_29 rfl fX3_34 hT.1 rfl ?_
      refine g_iload_n1 dX3_takerFor_32 rfl ?_
      refine g_ialdI dX3_takerFor_33 rfl (tw_goal hT) ⟨by omega, by omega⟩ ?_
      refine g_callVi1 dX3_takerFor_34 rfl vX3_107 hT.1 rfl (c_holderOf hT hB ⟨by omega, by omega⟩) (g_rm (by omega)) (Nat.le_of_ble_eq_true rfl) (fun z34 M34 e34 => ?_)
      obtain ⟨rfl, e34⟩ := e34
      refine g_istore_n2 dX3_takerFor_37 rfl rfl ?_
      refine g_iload_n2 dX3_takerFor_38 rfl ?_
      refine g_iconstI dX3_takerFor_39 rfl rfl (fun w39 h39 => ?_)
      refine g_icmp_eqI (t := 50) dX3_takerFor_40 (by decide) rfl (fun c40 => ?_) (fun c40 => ?_)
      · -- 40 t
        refine g_iload_n1 dX3_takerFor_50 rfl ?_
        refine g_iconstI dX3_takerFor_51 rfl rfl (fun w51 h51 => ?_)
        refine g_iaddI dX3_takerFor_52 rfl ⟨by omega, by omega⟩ (fun w52 h52 => ?_)
        refine g_aload_n0 dX3_takerFor_53 rfl ?_
        refine g_geti dX3_takerFor_54 rfl fX3_9 hT.1 rfl ?_
        refine g_icmp_geI (t := 66) dX3_takerFor_57 (by decide) rfl (fun c57 => ?_) (fun c57 => ?_)
        · -- 57 t
          refine g_iconstI dX3_takerFor_66 rfl rfl (fun w66 h66 => ?_)
          refine g_iret dX3_takerFor_67 rfl ?_
          refine ⟨_, rfl, rfl, ?_⟩
          rw [taker, if_neg (by omega), if_neg (by intro hh; obtain ⟨a1, a2, a3⟩ := hh; first | omega | (rw [← e34] at a2 a3; omega)), ep]
          first | rw [if_pos (by omega)]; omega | rw [if_neg (by omega)]; omega
        · -- 57 f
          refine g_iload_n1 dX3_takerFor_60 rfl ?_
          refine g_iconstI dX3_takerFor_61 rfl rfl (fun w61 h61 => ?_)
          refine g_iaddI dX3_takerFor_62 rfl ⟨by omega, by omega⟩ (fun w62 h62 => ?_)
          refine g_goto (t := 67) dX3_takerFor_63 (by decide) ?_
          refine g_iret dX3_takerFor_67 rfl ?_
          refine ⟨_, rfl, rfl, ?_⟩
          rw [taker, if_neg (by omega), if_neg (by intro hh; obtain ⟨a1, a2, a3⟩ := hh; first | omega | (rw [← e34] at a2 a3; omega)), ep]
          first | rw [if_pos (by omega)]; omega | rw [if_neg (by omega)]; omega
      · -- 40 f
        refine g_iload_n2 dX3_takerFor_43 rfl ?_
        refine g_iload_n1 dX3_takerFor_44 rfl ?_
        refine g_icmp_eqI (t := 50) dX3_takerFor_45 (by decide) rfl (fun c45 => ?_) (fun c45 => ?_)
        · -- 45 t
          refine g_iload_n1 dX3_takerFor_50 rfl ?_
          refine g_iconstI dX3_takerFor_51 rfl rfl (fun w51 h51 => ?_)
          refine g_iaddI dX3_takerFor_52 rfl ⟨by omega, by omega⟩ (fun w52 h52 => ?_)
          refine g_aload_n0 dX3_takerFor_53 rfl ?_
          refine g_geti dX3_takerFor_54 rfl fX3_9 hT.1 rfl ?_
          refine g_icmp_geI (t := 66) dX3_takerFor_57 (by decide) rfl (fun c57 => ?_) (fun c57 => ?_)
          · -- 57 t
            refine g_iconstI dX3_takerFor_66 rfl rfl (fun w66 h66 => ?_)
            refine g_iret dX3_takerFor_67 rfl ?_
            refine ⟨_, rfl, rfl, ?_⟩
            rw [taker, if_neg (by omega), if_neg (by intro hh; obtain ⟨a1, a2, a3⟩ := hh; first | omega | (rw [← e34] at a2 a3; omega)), ep]
            first | rw [if_pos (by omega)]; omega | rw [if_neg (by omega)]; omega
          · -- 57 f
            refine g_iload_n1 dX3_takerFor_60 rfl ?_
            refine g_iconstI dX3_takerFor_61 rfl rfl (fun w61 h61 => ?_)
            refine g_iaddI dX3_takerFor_62 rfl ⟨by omega, by omega⟩ (fun w62 h62 => ?_)
            refine g_goto (t := 67) dX3_takerFor_63 (by decide) ?_
            refine g_iret dX3_takerFor_67 rfl ?_
            refine ⟨_, rfl, rfl, ?_⟩
            rw [taker, if_neg (by omega), if_neg (by intro hh; obtain ⟨a1, a2, a3⟩ := hh; first | omega | (rw [← e34] at a2 a3; omega)), ep]
            first | rw [if_pos (by omega)]; omega | rw [if_neg (by omega)]; omega
        · -- 45 f
          refine g_iload_n2 dX3_takerFor_48 rfl ?_
          refine g_iret dX3_takerFor_49 rfl ?_
          refine ⟨_, rfl, rfl, ?_⟩
          rw [taker, if_neg (by omega), if_pos ⟨by omega, by rw [← e34]; omega, by rw [← e34, ep]; omega⟩, e34]
  · -- 7 f
    refine g_aload_n0 dX3_takerFor_10 rfl ?_
    refine g_getr dX3_takerFor_11 rfl fX3_43 hT.1 rfl ?_
    refine g_iload_n1 dX3_takerFor_14 rfl ?_
    refine g_ialdI dX3_takerFor_15 rfl (tw_owedTo hT) ⟨by omega, by omega⟩ ?_
    refine g_iret dX3_takerFor_16 rfl ?_
    refine ⟨_, rfl, rfl, ?_⟩
    rw [taker, if_pos (by omega)]
