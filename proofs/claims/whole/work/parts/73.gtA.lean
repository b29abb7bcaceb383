set_option maxHeartbeats 1200000 in
theorem l_foldOf {Γ : gW} {M : gM} {a : Nat} (ha : g_o Γ a (.inr (1, 30))) {Q : Option Value → gM → Prop} (hQ : ∀ z : Int32, z.toInt = (foN (M.1 a) : Int) → Q (some (.int z)) M) : ∀ (n9 : Nat) (v i : Int32), 30 - i.toInt.toNat = n9 → 0 ≤ i.toInt → i.toInt ≤ 30 → v = fold32 (M.1 a) i.toInt.toNat → G Γ μX6_foldOf (g_R 0) (0, 0) (g_Z Γ Q) 4 [some (.ref a), some (.int v), some (.int i)] [] M := by
  intro n9
  induction n9 using Nat.strongRecOn with
  | ind n9 ih =>
    intro v i h9 hi0 hi1 hv
    refine g_iload_n2 dX6_foldOf_4 rfl ?_
    refine g_bipushI dX6_foldOf_5 rfl rfl (fun w5 h5 => ?_)
    refine g_icmp_geI (t := 25) dX6_foldOf_7 (by decide) rfl (fun c7 => ?_) (fun c7 => ?_)
    · -- 7 t
      refine g_iload_n1 dX6_foldOf_25 rfl ?_
      refine g_sipushI dX6_foldOf_26 rfl rfl (fun w26 h26 => ?_)
      refine g_iandB dX6_foldOf_29 rfl  (fun w29 h29 => ?_)
      have e29 : bn w29 = foN (M.1 a) := by
        rw [h29, bn_lit (n := 4095) h26, hv, show i.toInt.toNat = 30 by omega]; rfl
      have hlt := foN_lt (M.1 a)
      refine g_iret dX6_foldOf_30 rfl ?_
      exact hQ _ (by rw [i_bn (by omega), e29])
    · -- 7 f
      refine g_bipush (v := 31) dX6_foldOf_10 rfl rfl ?_
      refine g_iload_n1 dX6_foldOf_12 rfl ?_
      refine g_imul dX6_foldOf_13 rfl ?_
      refine g_aload_n0 dX6_foldOf_14 rfl ?_
      refine g_iload_n2 dX6_foldOf_15 rfl ?_
      refine g_ialdI dX6_foldOf_16 rfl ha ⟨by omega, by omega⟩ ?_
      refine g_iadd dX6_foldOf_17 rfl ?_
      refine g_istore_n1 dX6_foldOf_18 rfl rfl ?_
      refine g_iincI2 dX6_foldOf_19 rfl rfl rfl ⟨by omega, by omega⟩ (fun w19 h19 => ?_)
      refine g_goto (t := 4) dX6_foldOf_22 (by decide) ?_
      exact ih _ (by omega) _ _ rfl (by omega) (by omega) (by rw [show w19.toInt.toNat = i.toInt.toNat + 1 by omega, fold32, ← hv])
set_option maxHeartbeats 1200000 in
theorem r_foldOf {Γ : gW} {M : gM} {a : Nat} (ha : g_o Γ a (.inr (1, 30)))  : Ct Γ yX6_foldOf μX6_foldOf 0 [.ref a] M (g_qi (fun z M1 => M1 = M ∧ z.toInt = (foN (M.1 a) : Int))) := by
  refine g_enter rfl rfl rfl (Nat.le_of_ble_eq_true rfl) ?_
  show G Γ _ _ _ _ 0 [some (.ref a), none, none] [] M
  refine g_iconstI dX6_foldOf_0 rfl rfl (fun w0 h0 => ?_)
  refine g_istore_n1 dX6_foldOf_1 rfl rfl ?_
  refine g_iconstI dX6_foldOf_2 rfl rfl (fun w2 h2 => ?_)
  refine g_istore_n2 dX6_foldOf_3 rfl rfl ?_
  exact l_foldOf ha (fun z hz => ⟨_, rfl, rfl, hz⟩) _ _ _ rfl (by omega) (by omega) (by rw [h2]; exact i_ext h0)
set_option maxHeartbeats 1200000 in
theorem l_isState {Γ : gW} {M : gM} (hR : g_Ref Γ) {a : Nat} (ha : g_o Γ a (.inr (1, 30))) {k : Nat} {kI : Int32} (hk : kI.toInt = (k : Int)) (hk2 : k < 1000) {Q : Option Value → gM → Prop} (hQ : ∀ z : Int32, (z.toInt = 0 ∨ z.toInt = 1) → (z.toInt = 1 ↔ ∀ j, j < 30 → stR M k j = M.1 a j) → Q (some (.int z)) M) : ∀ (n9 : Nat) (i : Int32), 30 - i.toInt.toNat = n9 → 0 ≤ i.toInt → i.toInt ≤ 30 → (∀ j, j < i.toInt.toNat → stR M k j = M.1 a j) → G Γ μX6_isState (g_R 0) (0, 0) (g_Z Γ Q) 2 [some (.ref 300), some (.int kI), some (.ref a), some (.int i)] [] M := by
  intro n9
  induction n9 using Nat.strongRecOn with
  | ind n9 ih =>
    intro i h9 hi0 hi1 hall
    refine g_iload_n3 dX6_isState_2 rfl ?_
    refine g_bipushI dX6_isState_3 rfl rfl (fun w3 h3 => ?_)
    refine g_icmp_geI (t := 33) dX6_isState_5 (by decide) rfl (fun c5 => ?_) (fun c5 => ?_)
    · -- 5 t
      refine g_iconstI dX6_isState_33 rfl rfl (fun w33 h33 => ?_)
      refine g_zretI dX6_isState_34 rfl (by omega) ?_
      exact hQ _ (by omega) ⟨fun _ j hj => hall j (by omega), fun _ => by omega⟩
    · -- 5 f
      refine g_aload_n0 dX6_isState_8 rfl ?_
      refine g_getr dX6_isState_9 rfl fX6_88 hR.1 rfl ?_
      refine g_bipushI dX6_isState_12 rfl rfl (fun w12 h12 => ?_)
      refine g_iload_n1 dX6_isState_14 rfl ?_
      refine g_imulI dX6_isState_15 rfl ⟨by rw [h12]; omega, by rw [h12]; omega⟩ (fun w15 h15 => ?_)
      rw [h12] at h15
      refine g_iload_n3 dX6_isState_16 rfl ?_
      refine g_iaddI dX6_isState_17 rfl ⟨by omega, by omega⟩ (fun w17 h17 => ?_)
      refine g_ialdI dX6_isState_18 rfl (rf_states hR) ⟨by omega, by omega⟩ ?_
      rw [show w17.toInt.toNat = 30 * k + i.toInt.toNat by omega]
      refine g_aload_n2 dX6_isState_19 rfl ?_
      refine g_iload_n3 dX6_isState_20 rfl ?_
      refine g_ialdI dX6_isState_21 rfl ha ⟨by omega, by omega⟩ ?_
      refine g_icmp_eqI (t := 27) dX6_isState_22 (by decide) rfl (fun c22 => ?_) (fun c22 => ?_)
      · -- 22 t
        refine g_iincI3 dX6_isState_27 rfl rfl rfl ⟨by omega, by omega⟩ (fun w27 h27 => ?_)
        refine g_goto (t := 2) dX6_isState_30 (by decide) ?_
        exact ih _ (by omega) _ rfl (by omega) (by omega) (fun j hj => by
          by_cases h : j < i.toInt.toNat
          · exact hall j h
          · rw [show j = i.toInt.toNat by omega]; exact i_ext c22)
      · -- 22 f
        refine g_iconstI dX6_isState_25 rfl rfl (fun w25 h25 => ?_)
        refine g_zretI dX6_isState_26 rfl (by omega) ?_
        exact hQ _ (by omega) ⟨fun h => by omega, fun h => absurd (h i.toInt.toNat (by omega)) (fun e => c22 (by rw [show M.1 438 (30 * k + i.toInt.toNat) = stR M k i.toInt.toNat from rfl, e]))⟩
set_option maxHeartbeats 1200000 in
theorem r_isState {Γ : gW} {M : gM} (hR : g_Ref Γ) {a : Nat} (ha : g_o Γ a (.inr (1, 30))) {k : Nat} {kI : Int32} (hk : kI.toInt = (k : Int)) (hk2 : k < 1000)  : Ct Γ yX6_isState μX6_isState 0 [.ref 300, .int kI, .ref a] M (g_qi (fun z M1 => M1 = M ∧ (z.toInt = 0 ∨ z.toInt = 1) ∧ (z.toInt = 1 ↔ ∀ j, j < 30 → stR M k j = M.1 a j))) := by
  refine g_enter rfl rfl rfl (Nat.le_of_ble_eq_true rfl) ?_
  show G Γ _ _ _ _ 0 [some (.ref 300), some (.int kI), some (.ref a), none] [] M
  refine g_iconstI dX6_isState_0 rfl rfl (fun w0 h0 => ?_)
  refine g_istore_n3 dX6_isState_1 rfl rfl ?_
  exact l_isState hR ha hk hk2 (fun z h1 h2 => ⟨_, rfl, rfl, h1, h2⟩) _ _ rfl (by omega) (by omega) (fun j hj => by rw [h0] at hj; exact absurd hj (Nat.not_lt_zero _))
/-- the row a laid at the end of the states, the first i cells -/
def layS (M : gM) (b a i : Nat) : gM := g_row M 438 (fun j => if b ≤ j ∧ j < b + i then M.1 a (j - b) else M.1 438 j)
theorem layS_0 {M : gM} {b a : Nat} : layS M b a 0 = M := by
  rw [layS]
  conv => rhs; rw [← g_row_self (M := M) (a := 438)]
  refine g_row_congr fun j => ?_
  rw [if_neg (by omega)]
theorem layS_step {M : gM} {b a i : Nat} : g_u (layS M b a i) 438 (b + i) (M.1 a i) = layS M b a (i + 1) := by
  rw [layS, g_u_row, layS]
  refine g_row_congr fun j => ?_
  by_cases h : j = b + i
  · rw [if_pos h, if_pos (by omega), show j - b = i by omega]
  · rw [if_neg h]
    by_cases h2 : b ≤ j ∧ j < b + i
    · rw [if_pos h2, if_pos (by omega)]
    · rw [if_neg h2, if_neg (by omega)]
/-- a state comes behind the m that there are -/
def cmM (M : gM) (m a f : Nat) (bI mI m1 : Int32) : gM := g_u (g_u (g_u (g_u (layS M (30 * m) a 30) 439 m bI) 440 m (M.1 441 f)) 441 f mI) 300 44 m1
theorem cm_438 {M : gM} {m a f : Nat} {bI mI m1 : Int32} {k : Nat} (hk : k < m) {j : Nat} (hj : j < 30) : stR (cmM M m a f bI mI m1) k j = stR M k j := by
  show (layS M (30 * m) a 30).1 438 (30 * k + j) = _
  rw [layS, g_row_at, if_neg (by omega)]; rfl
theorem cm_438n {M : gM} {m a f : Nat} {bI mI m1 : Int32} {j : Nat} (hj : j < 30) : stR (cmM M m a f bI mI m1) m j = M.1 a j := by
  show (layS M (30 * m) a 30).1 438 (30 * m + j) = _
  rw [layS, g_row_at, if_pos (by omega), show 30 * m + j - 30 * m = j by omega]
theorem cm_fo {M : gM} {m a f : Nat} {bI mI m1 : Int32} {k : Nat} (hk : k < m) : foN (stR (cmM M m a f bI mI m1) k) = foN (stR M k) := foN_ext (fun _ hj => cm_438 hk hj)
theorem cm_fon {M : gM} {m a f : Nat} {bI mI m1 : Int32} : foN (stR (cmM M m a f bI mI m1) m) = foN (M.1 a) := foN_ext (fun _ hj => cm_438n hj)
theorem cm_439 {M : gM} {m a f : Nat} {bI mI m1 : Int32} {k : Nat} : (cmM M m a f bI mI m1).1 439 k = if k = m then bI else M.1 439 k := by
  rw [cmM, g_u_ne (by decide), g_u_ne (by decide), g_u_ne (by decide), g_u_eq]; rfl
theorem cm_440 {M : gM} {m a f : Nat} {bI mI m1 : Int32} {k : Nat} : (cmM M m a f bI mI m1).1 440 k = if k = m then M.1 441 f else M.1 440 k := by
  rw [cmM, g_u_ne (by decide), g_u_ne (by decide), g_u_eq]; rfl
theorem cm_441 {M : gM} {m a f : Nat} {bI mI m1 : Int32} {k : Nat} : (cmM M m a f bI mI m1).1 441 k = if k = f then mI else M.1 441 k := by
  rw [cmM, g_u_ne (by decide), g_u_eq]; rfl
theorem cm_300 {M : gM} {m a f : Nat} {bI mI m1 : Int32} {k : Nat} : (cmM M m a f bI mI m1).1 300 k = if k = 44 then m1 else M.1 300 k := by
  rw [cmM, g_u_eq]; rfl
theorem GTR.new {T0 T : gTw} {r0 : Nat → Int32} {σ : gGt} {M : gM} {a : Nat} {bI mI m1 : Int32} (h : GTR T0 r0 σ M) (hI : INV T) (hX : TX T0 T) (hA : RW T (M.1 a)) (hRX : RX T0 r0 (M.1 a)) (hm : mI.toInt = (σ.1 : Int)) (hm1 : m1.toInt = (σ.1 : Int) + 1) (hlt : σ.1 < 1000) (hb : 0 ≤ bI.toInt ∧ bI.toInt ≤ (σ.1 : Int)) (hno : ¬ ∃ k, k < σ.1 ∧ σ.2.1 k = T) : GTR T0 r0 (gcome T bI.toInt σ) (cmM M σ.1 a (foN (M.1 a)) bI mI m1) := by
  rw [gcome_new hno (by omega)]
  obtain ⟨h1, h2, h3, h4, h5, h6, h7⟩ := h
  have h4' : σ.2.2.2 = 0 := h4.resolve_right (fun e => by have := e.1; omega)
  refine ⟨?_, by show σ.1 + 1 ≤ 1000; omega, ?_, Or.inl h4', fun k hk => ?_, fun f hf => ?_, fun j hj => ?_⟩
  · rw [cm_300, if_pos rfl]; show _ = ((σ.1 + 1 : Nat) : Int); omega
  · rw [cm_300, if_neg (by decide)]; exact h3
  · replace hk : k < σ.1 + 1 := hk
    by_cases hk2 : k = σ.1
    · subst hk2
      refine ⟨by show INV (if σ.1 = σ.1 then T else _); rw [if_pos rfl]; exact hI, by show TX T0 (if σ.1 = σ.1 then T else _); rw [if_pos rfl]; exact hX, ?_, RX.ext hRX (fun j hj => cm_438n hj), ?_, ?_⟩
      · show RW (if σ.1 = σ.1 then T else _) _
        rw [if_pos rfl]; exact RW.ext hI.1 hA (fun j hj => cm_438n hj)
      · show _ = if σ.1 = σ.1 then bI.toInt else _
        rw [cm_439, if_pos rfl, if_pos rfl]
      · show 0 ≤ (if σ.1 = σ.1 then bI.toInt else _) ∧ (if σ.1 = σ.1 then bI.toInt else _) ≤ _
        rw [if_pos rfl]; exact hb
    · obtain ⟨a1, a2, a3, a4, a5, a6⟩ := h5 k (by omega)
      have e1 : (if k = σ.1 then T else σ.2.1 k) = σ.2.1 k := if_neg hk2
      refine ⟨by show INV (if k = σ.1 then T else σ.2.1 k); rw [e1]; exact a1, by show TX T0 (if k = σ.1 then T else σ.2.1 k); rw [e1]; exact a2, ?_, RX.ext a4 (fun j hj => cm_438 (by omega) hj), ?_, ?_⟩
      · show RW (if k = σ.1 then T else σ.2.1 k) _
        rw [e1]; exact RW.ext a1.1 a3 (fun j hj => cm_438 (by omega) hj)
      · show _ = if k = σ.1 then bI.toInt else σ.2.2.1 k
        rw [cm_439, if_neg hk2, if_neg hk2]; exact a5
      · show 0 ≤ (if k = σ.1 then bI.toInt else σ.2.2.1 k) ∧ (if k = σ.1 then bI.toInt else σ.2.2.1 k) ≤ _
        rw [if_neg hk2]; exact a6
  · obtain ⟨b1, b2⟩ := h6 f hf
    refine ⟨?_, fun k hk hfk => ?_⟩
    · rw [cm_441]
      by_cases hff : f = foN (M.1 a)
      · rw [if_pos hff]; exact Or.inr ⟨σ.1, hm, Nat.lt_succ_self _, by rw [cm_fon, hff]⟩
      · rw [if_neg hff]
        rcases b1 with b1 | ⟨h, q1, q2, q3⟩
        · exact Or.inl b1
        · exact Or.inr ⟨h, q1, Nat.lt_succ_of_lt q2, by rw [cm_fo q2]; exact q3⟩
    · replace hk : k < σ.1 + 1 := hk
      rw [cm_441]
      by_cases hk2 : k = σ.1
      · subst hk2
        rw [cm_fon] at hfk
        rw [if_pos hfk.symm]; omega
      · rw [cm_fo (by omega)] at hfk
        by_cases hff : f = foN (M.1 a)
        · rw [if_pos hff]; omega
        · rw [if_neg hff]; exact b2 k (by omega) hfk
  · replace hj : j < σ.1 + 1 := hj
    by_cases hj2 : j = σ.1
    · subst hj2
      obtain ⟨b1, b2⟩ := h6 (foN (M.1 a)) (foN_lt _)
      refine ⟨?_, fun k hk hfk => ?_⟩
      · rw [cm_440, if_pos rfl]
        rcases b1 with b1 | ⟨h, q1, q2, q3⟩
        · exact Or.inl b1
        · exact Or.inr ⟨h, q1, q2, by rw [cm_fo q2, cm_fon]; exact q3⟩
      · rw [cm_440, if_pos rfl]
        rw [cm_fo hk, cm_fon] at hfk
        exact b2 k hk hfk
    · obtain ⟨b1, b2⟩ := h7 j (by omega)
      refine ⟨?_, fun k hk hfk => ?_⟩
      · rw [cm_440, if_neg hj2]
        rcases b1 with b1 | ⟨h, q1, q2, q3⟩
        · exact Or.inl b1
        · exact Or.inr ⟨h, q1, q2, by rw [cm_fo (by omega), cm_fo (by omega)]; exact q3⟩
      · rw [cm_440, if_neg hj2]
        rw [cm_fo (by omega), cm_fo (by omega)] at hfk
        exact b2 k hk hfk
theorem GTR.full {T0 T : gTw} {r0 : Nat → Int32} {σ : gGt} {M : gM} {b : Int} {x : Int32} (h : GTR T0 r0 σ M) (hno : ¬ ∃ k, k < σ.1 ∧ σ.2.1 k = T) (hm : σ.1 = 1000) (hx : x.toInt = 1) : GTR T0 r0 (gcome T b σ) (g_u M 300 45 x) := by
  rw [gcome_full hno hm]
  obtain ⟨h1, h2, h3, h4, h5, h6, h7⟩ := h
  exact ⟨by rw [g_u_eq, if_neg (by decide)]; exact h1, h2, by rw [g_u_eq, if_pos rfl]; exact hx, Or.inr ⟨hm, rfl⟩, h5, h6, h7⟩
set_option maxHeartbeats 1200000 in
theorem l_lay {Γ : gW} {M : gM} (hR : g_Ref Γ) {a : Nat} (ha : g_o Γ a (.inr (1, 30))) {m : Nat} (hm : (M.1 300 44).toInt = (m : Int)) (hm2 : m < 1000) {bI fI : Int32} {d : Nat} {Q : Option Value → gM → Prop} (hk1 : ∀ i : Int32, G Γ μX6_come (g_R d) (0, 0) (g_Z Γ Q) 93 [some (.ref 300), some (.ref a), some (.int bI), some (.int fI), some (.int i)] [] (layS M (30 * m) a 30)) : ∀ (n9 : Nat) (i : Int32), 30 - i.toInt.toNat = n9 → 0 ≤ i.toInt → i.toInt ≤ 30 → G Γ μX6_come (g_R d) (0, 0) (g_Z Γ Q) 61 [some (.ref 300), some (.ref a), some (.int bI), some (.int fI), some (.int i)] [] (layS M (30 * m) a i.toInt.toNat) := by
  intro n9
  induction n9 using Nat.strongRecOn with
  | ind n9 ih =>
    intro i h9 hi0 hi1
    have n438 : a ≠ 438 := g_o_ne ha (rf_states hR) (by decide)
    refine g_iload4 dX6_come_61 rfl ?_
    refine g_bipushI dX6_come_63 rfl rfl (fun w63 h63 => ?_)
    refine g_icmp_geI (t := 93) dX6_come_65 (by decide) rfl (fun c65 => ?_) (fun c65 => ?_)
    · -- 65 t
      rw [show i.toInt.toNat = 30 by omega]; exact hk1 i
    · -- 65 f
      refine g_aload_n0 dX6_come_68 rfl ?_
      refine g_getr dX6_come_69 rfl fX6_88 hR.1 rfl ?_
      refine g_bipushI dX6_come_72 rfl rfl (fun w72 h72 => ?_)
      refine g_aload_n0 dX6_come_74 rfl ?_
      refine g_geti dX6_come_75 rfl fX6_355 hR.1 rfl ?_
      rw [show (layS M (30 * m) a i.toInt.toNat).1 300 = M.1 300 from g_row_ne (by decide)]
      refine g_imulI dX6_come_78 rfl ⟨by rw [h72, hm]; omega, by rw [h72, hm]; omega⟩ (fun w78 h78 => ?_)
      rw [h72, hm] at h78
      refine g_iload4 dX6_come_79 rfl ?_
      refine g_iaddI dX6_come_81 rfl ⟨by omega, by omega⟩ (fun w81 h81 => ?_)
      refine g_aload_n1 dX6_come_82 rfl ?_
      refine g_iload4 dX6_come_83 rfl ?_
      refine g_ialdI dX6_come_85 rfl ha ⟨by omega, by omega⟩ ?_
      rw [show (layS M (30 * m) a i.toInt.toNat).1 a = M.1 a from g_row_ne n438]
      refine g_iastI dX6_come_86 rfl (rf_states hR) ⟨by omega, by omega⟩ ?_
      rw [show w81.toInt.toNat = 30 * m + i.toInt.toNat by omega, layS_step]
      refine g_iincI4 dX6_come_87 rfl rfl rfl ⟨by omega, by omega⟩ (fun w87 h87 => ?_)
      refine g_goto (t := 61) dX6_come_90 (by decide) ?_
      have h := ih _ (by omega) w87 rfl (by omega) (by omega)
      rw [h87, show (i.toInt + 1).toNat = i.toInt.toNat + 1 by omega] at h
      exact h
