theorem two_pos (n : Nat) : (0 : Int) < (2 : Int) ^ n := by
  have h := Nat.two_pow_pos n
  have e : ((2 ^ n : Nat) : Int) = (2 : Int) ^ n := by simp
  omega
theorem i_div {x y : Int32} (hx : 0 ≤ x.toInt) (hy : 0 < y.toInt) : (x / y).toInt = x.toInt / y.toInt := by
  have hr := i_rng x
  have h1 : x.toInt.tdiv y.toInt = x.toInt / y.toInt := Int.tdiv_eq_ediv_of_nonneg hx
  have h2 : 0 ≤ x.toInt / y.toInt := Int.ediv_nonneg hx (by omega)
  have h3 : x.toInt / y.toInt ≤ x.toInt := Int.ediv_le_self _ hx
  rw [Int32.toInt_div, h1]
  exact Int.bmod_eq_of_le (by omega) (by omega)
theorem i_rem {x y : Int32} (hx : 0 ≤ x.toInt) (hy : 0 < y.toInt) : (x - x / y * y).toInt = x.toInt % y.toInt := by
  have hr := i_rng x
  have h1 := i_div hx hy
  have h2 : 0 ≤ x.toInt / y.toInt * y.toInt := Int.mul_nonneg (Int.ediv_nonneg hx (by omega)) (by omega)
  have h3 : x.toInt / y.toInt * y.toInt ≤ x.toInt := Int.ediv_mul_le _ (by omega)
  have h4 : (x / y * y).toInt = x.toInt / y.toInt * y.toInt := by rw [i_mul (by rw [h1]; omega), h1]
  rw [i_sub (by rw [h4]; omega), h4, Int.emod_def, Int.mul_comm]
theorem g_iremI {Γ : gW} {μ : gY} {R : Room} {kn : Nat × Nat} {Z : gZ} {pc q : Nat} {lv : List (Option Value)} {st : List Value} {M : gM} {x y : Int32} (hd : decode μ.1 pc = .ok (.irem, 1)) (hq : pc + 1 = q) (h : 0 ≤ x.toInt ∧ 0 < y.toInt) (k : ∀ w : Int32, w.toInt = x.toInt % y.toInt → G Γ μ R kn Z q lv (.int w :: st) M) : G Γ μ R kn Z pc lv (.int y :: .int x :: st) M := g_irem hd hq (fun e => by have := h.2; rw [e] at this; exact absurd this (by decide)) (k _ (i_rem h.1 h.2))
theorem g_idivI {Γ : gW} {μ : gY} {R : Room} {kn : Nat × Nat} {Z : gZ} {pc q : Nat} {lv : List (Option Value)} {st : List Value} {M : gM} {x y : Int32} (hd : decode μ.1 pc = .ok (.idiv, 1)) (hq : pc + 1 = q) (h : 0 ≤ x.toInt ∧ 0 < y.toInt) (k : ∀ w : Int32, w.toInt = x.toInt / y.toInt → G Γ μ R kn Z q lv (.int w :: st) M) : G Γ μ R kn Z pc lv (.int y :: .int x :: st) M := g_idiv hd hq (fun e => by have := h.2; rw [e] at this; exact absurd this (by decide)) (k _ (i_div h.1 h.2))
theorem fstP_is {P : Nat → Bool} {m : Nat} (hm : P m = true) (hu : ∀ j, P j = true → j = m) : ∀ n k, k ≤ m → m < k + n → fstP P n k = (m : Int) := by
  intro n
  induction n with
  | zero => intro k h1 h2; omega
  | succ n ih =>
    intro k h1 h2
    rw [fstP]
    by_cases hk : k = m
    · subst hk; rw [if_pos hm]
    · rw [if_neg (fun h => hk (hu k h)), ih (k + 1) (by omega) (by omega)]
theorem fstP_none {P : Nat → Bool} : ∀ n k, (∀ j, k ≤ j → j < k + n → P j = false) → fstP P n k = -1 := by
  intro n
  induction n with
  | zero => intro k _; rfl
  | succ n ih =>
    intro k h
    rw [fstP, h k (by omega) (by omega), ih (k + 1) (fun j h1 h2 => h j (by omega) (by omega))]
    rfl
theorem fstP_lt {P : Nat → Bool} {B m : Nat} (hm : P m = true) (hB : m < B) (hu : ∀ j, j < B → P j = true → j = m) : ∀ n k, k ≤ m → k + n = B → fstP P n k = (m : Int) := by
  intro n
  induction n with
  | zero => intro k h1 h2; omega
  | succ n ih =>
    intro k h1 h2
    rw [fstP]
    by_cases hk : k = m
    · subst hk; rw [if_pos hm]
    · rw [if_neg (fun h => hk (hu k (by omega) h)), ih (k + 1) (by omega) (by omega)]
theorem RW.hold {T : gTw} {r : Nat → Int32} (h : RW T r) (h0 : 0 ≤ T 0 0) {i : Nat} (hi : (i : Int) < T 0 1) : holdT T i = (r i).toInt := by
  obtain ⟨h1, h2⟩ := h
  have hr := h2 i hi
  have e : ((r i).toInt.toNat : Int) = (r i).toInt := by omega
  rw [holdT, fstP_lt (B := (T 0 0).toNat) (m := (r i).toInt.toNat) ?_ (by omega) (fun j hj hb => ?_) _ _ (by omega) (by omega), e]
  · exact ((h1 _ (by omega)).2.2.2 i).mpr ⟨hi, by omega⟩
  · have := (((h1 j (by omega)).2.2.2 i).mp hb).2
    omega
theorem RW.hold0 {T : gTw} {r : Nat → Int32} (h : RW T r) (h0 : 0 ≤ T 0 0) {i : Nat} (hi : T 0 1 ≤ (i : Int)) : holdT T i = -1 := by
  refine fstP_none _ _ (fun j _ hj => ?_)
  cases hb : (hasT T j).testBit i
  · rfl
  · have := (((h.1 j (by omega)).2.2.2 i).mp hb).1
    omega
set_option maxHeartbeats 4000000 in
theorem r_whomOf {Γ : gW} {M : gM} {T : gTw} (hR : g_Ref Γ) (hO : TOK T) (hC : CR T M) {a : Nat} (ha : g_o Γ a (.inr (1, 30))) (hA : RW T (M.1 a)) {p : Int32} (hp : 0 ≤ p.toInt ∧ p.toInt < T 0 0) {w : Int32} (hw : w.toInt = T 5 p.toInt.toNat) : Ct Γ yX6_whomOf μX6_whomOf 0 [.ref 300, .ref a, .int p, .int w] M (g_qi (fun z M1 => M1 = M ∧ z.toInt = takerT T p.toInt.toNat)) := by
  obtain ⟨o_pe, o_th, o_la, o_wi, o_da, o_we, o_p, o_i⟩ := id hO
  obtain ⟨r_0, r_1, r_2, r_3, r_p, r_i⟩ := id hC
  have op := o_p p.toInt.toNat (by omega)
  obtain ⟨a_s, a_o, a_t, a_h⟩ := hA.1 p.toInt.toNat (by omega)
  have epn : ((p.toInt.toNat : Nat) : Int) = p.toInt := by omega
  have rp := r_p p.toInt.toNat (by omega)
  refine g_enter rfl rfl rfl (Nat.le_of_ble_eq_true rfl) ?_
  show G Γ _ _ _ _ 0 [some (.ref 300), some (.ref a), some (.int p), some (.int w)] [] M
  refine g_iload_n3 dX6_whomOf_0 rfl ?_
  refine g_iconstI dX6_whomOf_1 rfl rfl (fun w1 h1 => ?_)
  refine g_icmp_eqI (t := 7) dX6_whomOf_2 (by decide) rfl (fun c2 => ?_) (fun c2 => ?_)
  · -- 2 t
    refine g_aload_n0 dX6_whomOf_7 rfl ?_
    refine g_getr dX6_whomOf_8 rfl fX6_29 hR.1 rfl ?_
    refine g_iload_n2 dX6_whomOf_11 rfl ?_
    refine g_ialdI dX6_whomOf_12 rfl (rf_kind hR) ⟨by omega, by omega⟩ ?_
    refine g_iconstI dX6_whomOf_13 rfl rfl (fun w13 h13 => ?_)
    refine g_icmp_neI (t := 53) dX6_whomOf_14 (by decide) rfl (fun c14 => ?_) (fun c14 => ?_)
    · -- 14 t
      refine g_iload_n2 dX6_whomOf_53 rfl ?_
      refine g_iconstI dX6_whomOf_54 rfl rfl (fun w54 h54 => ?_)
      refine g_iaddI dX6_whomOf_55 rfl ⟨by omega, by omega⟩ (fun w55 h55 => ?_)
      refine g_aload_n0 dX6_whomOf_56 rfl ?_
      refine g_getr dX6_whomOf_57 rfl fX6_25 hR.1 rfl ?_
      refine g_iconstI dX6_whomOf_60 rfl rfl (fun w60 h60 => ?_)
      refine g_ialdI dX6_whomOf_61 rfl (rf_told hR) ⟨by omega, by omega⟩ ?_
      have et61 : w60.toInt.toNat = 0 := by omega
      rw [et61]
      refine g_iremI dX6_whomOf_62 rfl ⟨by omega, by omega⟩ (fun w62 h62 => ?_)
      refine g_iret dX6_whomOf_63 rfl ?_
      refine ⟨_, rfl, rfl, ?_⟩
      have hmod : w62.toInt = if p.toInt + 1 < T 0 0 then p.toInt + 1 else 0 := by
        rw [h62, r_0]
        split
        · rw [Int.emod_eq_of_lt (by omega) (by omega)]; omega
        · rw [show w55.toInt = T 0 0 by omega, Int.emod_self]
      have hno : ¬ (T 1 p.toInt.toNat = 3 ∧ ¬ holdT T (T 2 p.toInt.toNat).toNat = -1 ∧ ¬ holdT T (T 2 p.toInt.toNat).toNat = ((p.toInt.toNat : Nat) : Int)) := by
        rintro ⟨b1, b2, b3⟩
        first
          | omega
          | (have hh := RW.hold0 hA (by omega) (i := (T 2 p.toInt.toNat).toNat) (by omega); omega)
          | (rw [show (M.1 404 p.toInt.toNat).toInt.toNat = (T 2 p.toInt.toNat).toNat by omega] at *; omega)
      rw [takerT, if_neg (by omega), if_neg hno, epn, hmod]
    · -- 14 f
      refine g_aload_n0 dX6_whomOf_17 rfl ?_
      refine g_getr dX6_whomOf_18 rfl fX6_32 hR.1 rfl ?_
      refine g_iload_n2 dX6_whomOf_21 rfl ?_
      refine g_ialdI dX6_whomOf_22 rfl (rf_kindBy hR) ⟨by omega, by omega⟩ ?_
      refine g_aload_n0 dX6_whomOf_23 rfl ?_
      refine g_getr dX6_whomOf_24 rfl fX6_25 hR.1 rfl ?_
      refine g_iconstI dX6_whomOf_27 rfl rfl (fun w27 h27 => ?_)
      refine g_ialdI dX6_whomOf_28 rfl (rf_told hR) ⟨by omega, by omega⟩ ?_
      have et28 : w27.toInt.toNat = 1 := by omega
      rw [et28]
      refine g_icmp_geI (t := 53) dX6_whomOf_29 (by decide) rfl (fun c29 => ?_) (fun c29 => ?_)
      · -- 29 t
        refine g_iload_n2 dX6_whomOf_53 rfl ?_
        refine g_iconstI dX6_whomOf_54 rfl rfl (fun w54 h54 => ?_)
        refine g_iaddI dX6_whomOf_55 rfl ⟨by omega, by omega⟩ (fun w55 h55 => ?_)
        refine g_aload_n0 dX6_whomOf_56 rfl ?_
        refine g_getr dX6_whomOf_57 rfl fX6_25 hR.1 rfl ?_
        refine g_iconstI dX6_whomOf_60 rfl rfl (fun w60 h60 => ?_)
        refine g_ialdI dX6_whomOf_61 rfl (rf_told hR) ⟨by omega, by omega⟩ ?_
        have et61 : w60.toInt.toNat = 0 := by omega
        rw [et61]
        refine g_iremI dX6_whomOf_62 rfl ⟨by omega, by omega⟩ (fun w62 h62 => ?_)
        refine g_iret dX6_whomOf_63 rfl ?_
        refine ⟨_, rfl, rfl, ?_⟩
        have hmod : w62.toInt = if p.toInt + 1 < T 0 0 then p.toInt + 1 else 0 := by
          rw [h62, r_0]
          split
          · rw [Int.emod_eq_of_lt (by omega) (by omega)]; omega
          · rw [show w55.toInt = T 0 0 by omega, Int.emod_self]
        have hno : ¬ (T 1 p.toInt.toNat = 3 ∧ ¬ holdT T (T 2 p.toInt.toNat).toNat = -1 ∧ ¬ holdT T (T 2 p.toInt.toNat).toNat = ((p.toInt.toNat : Nat) : Int)) := by
          rintro ⟨b1, b2, b3⟩
          first
            | omega
            | (have hh := RW.hold0 hA (by omega) (i := (T 2 p.toInt.toNat).toNat) (by omega); omega)
            | (rw [show (M.1 404 p.toInt.toNat).toInt.toNat = (T 2 p.toInt.toNat).toNat by omega] at *; omega)
        rw [takerT, if_neg (by omega), if_neg hno, epn, hmod]
      · -- 29 f
        refine g_aload_n1 dX6_whomOf_32 rfl ?_
        refine g_aload_n0 dX6_whomOf_33 rfl ?_
        refine g_getr dX6_whomOf_34 rfl fX6_32 hR.1 rfl ?_
        refine g_iload_n2 dX6_whomOf_37 rfl ?_
        refine g_ialdI dX6_whomOf_38 rfl (rf_kindBy hR) ⟨by omega, by omega⟩ ?_
        have hr2 := hA.2 (M.1 404 p.toInt.toNat).toInt.toNat (by omega)
        have hho := RW.hold hA (by omega) (i := (M.1 404 p.toInt.toNat).toInt.toNat) (by omega)
        rw [show (M.1 404 p.toInt.toNat).toInt.toNat = (T 2 p.toInt.toNat).toNat by omega] at hho
        refine g_ialdI dX6_whomOf_39 rfl ha ⟨by omega, by omega⟩ ?_
        refine g_iload_n2 dX6_whomOf_40 rfl ?_
        refine g_icmp_eqI (t := 53) dX6_whomOf_41 (by decide) rfl (fun c41 => ?_) (fun c41 => ?_)
        · -- 41 t
          refine g_iload_n2 dX6_whomOf_53 rfl ?_
          refine g_iconstI dX6_whomOf_54 rfl rfl (fun w54 h54 => ?_)
          refine g_iaddI dX6_whomOf_55 rfl ⟨by omega, by omega⟩ (fun w55 h55 => ?_)
          refine g_aload_n0 dX6_whomOf_56 rfl ?_
          refine g_getr dX6_whomOf_57 rfl fX6_25 hR.1 rfl ?_
          refine g_iconstI dX6_whomOf_60 rfl rfl (fun w60 h60 => ?_)
          refine g_ialdI dX6_whomOf_61 rfl (rf_told hR) ⟨by omega, by omega⟩ ?_
          have et61 : w60.toInt.toNat = 0 := by omega
          rw [et61]
          refine g_iremI dX6_whomOf_62 rfl ⟨by omega, by omega⟩ (fun w62 h62 => ?_)
          refine g_iret dX6_whomOf_63 rfl ?_
          refine ⟨_, rfl, rfl, ?_⟩
          have hmod : w62.toInt = if p.toInt + 1 < T 0 0 then p.toInt + 1 else 0 := by
            rw [h62, r_0]
            split
            · rw [Int.emod_eq_of_lt (by omega) (by omega)]; omega
            · rw [show w55.toInt = T 0 0 by omega, Int.emod_self]
          have hno : ¬ (T 1 p.toInt.toNat = 3 ∧ ¬ holdT T (T 2 p.toInt.toNat).toNat = -1 ∧ ¬ holdT T (T 2 p.toInt.toNat).toNat = ((p.toInt.toNat : Nat) : Int)) := by
            rintro ⟨b1, b2, b3⟩
            first
              | omega
              | (have hh := RW.hold0 hA (by omega) (i := (T 2 p.toInt.toNat).toNat) (by omega); omega)
              | (rw [show (M.1 404 p.toInt.toNat).toInt.toNat = (T 2 p.toInt.toNat).toNat by omega] at *; omega)
          rw [takerT, if_neg (by omega), if_neg hno, epn, hmod]
        · -- 41 f
          refine g_aload_n1 dX6_whomOf_44 rfl ?_
          refine g_aload_n0 dX6_whomOf_45 rfl ?_
          refine g_getr dX6_whomOf_46 rfl fX6_32 hR.1 rfl ?_
          refine g_iload_n2 dX6_whomOf_49 rfl ?_
          refine g_ialdI dX6_whomOf_50 rfl (rf_kindBy hR) ⟨by omega, by omega⟩ ?_
          refine g_ialdI dX6_whomOf_51 rfl ha ⟨by omega, by omega⟩ ?_
          refine g_iret dX6_whomOf_52 rfl ?_
          refine ⟨_, rfl, rfl, ?_⟩
          rw [show (M.1 404 p.toInt.toNat).toInt.toNat = (T 2 p.toInt.toNat).toNat by omega] at *
          rw [takerT, if_neg (by omega), if_pos ⟨by omega, by omega, by omega⟩]; omega
  · -- 2 f
    refine g_iload_n3 dX6_whomOf_5 rfl ?_
    refine g_iret dX6_whomOf_6 rfl ?_
    refine ⟨_, rfl, rfl, ?_⟩
    rw [takerT, if_pos (by omega), hw]
set_option maxHeartbeats 4000000 in
theorem l_choiceOf {Γ : gW} {M : gM} {T : gTw} (hR : g_Ref Γ) (hO : TOK T) (hC : CR T M) (hW : WR T M) {a : Nat} (ha : g_o Γ a (.inr (1, 30))) (hA : RW T (M.1 a)) {p : Int32} (hp : 0 ≤ p.toInt ∧ p.toInt < T 0 0) {dy : Int32} (hnw : ¬ waitsT T p.toInt.toNat) {Q : Option Value → gM → Prop} (hQ : ∀ z : Int32, chosenT T p.toInt.toNat z.toInt → Q (some (.int z)) M) : ∀ (n : Nat) (b s : Int32), ((2 : Int) ^ (T 0 1).toNat - s.toInt).toNat = n → 0 ≤ s.toInt → s.toInt ≤ (2 : Int) ^ (T 0 1).toNat → CH (fun u => selT T p.toInt.toNat u ∧ (u : Int) < s.toInt) (rankT T p.toInt.toNat) b.toInt → G Γ μX6_choiceOf (g_R 3) (0, 0) (g_Z Γ Q) 28 [some (.ref 300), some (.ref a), some (.int p), some (.int dy), some (.int b), some (.int s)] [] M := by
  intro n
  induction n using Nat.strongRecOn with
  | ind n ih =>
    intro b s hn hs0 hs1 hch
    obtain ⟨o_pe, o_th, o_la, o_wi, o_da, o_we, o_p, o_i⟩ := id hO
    obtain ⟨r_0, r_1, r_2, r_3, r_p, r_i⟩ := id hC
    have op := o_p p.toInt.toNat (by omega)
    obtain ⟨a_s, a_o, a_t, a_h⟩ := hA.1 p.toInt.toNat (by omega)
    have epn : ((p.toInt.toNat : Nat) : Int) = p.toInt := by omega
    have ep : ((2 ^ (T 0 1).toNat : Nat) : Int) = (2 : Int) ^ (T 0 1).toNat := by simp
    have hp12 : 2 ^ (T 0 1).toNat ≤ 2 ^ 12 := Nat.pow_le_pow_right (by decide) (by omega)
    have hp12e : (2 : Nat) ^ 12 = 4096 := rfl
    have rp := r_p p.toInt.toNat (by omega)
    refine g_iload5 dX6_choiceOf_28 rfl ?_
    refine g_iconstI dX6_choiceOf_30 rfl rfl (fun w30 h30 => ?_)
    refine g_aload_n0 dX6_choiceOf_31 rfl ?_
    refine g_getr dX6_choiceOf_32 rfl fX6_25 hR.1 rfl ?_
    refine g_iconstI dX6_choiceOf_35 rfl rfl (fun w35 h35 => ?_)
    refine g_ialdI dX6_choiceOf_36 rfl (rf_told hR) ⟨by omega, by omega⟩ ?_
    have et36 : w35.toInt.toNat = 1 := by omega
    rw [et36]
    refine g_ishlB dX6_choiceOf_37 rfl ⟨by omega, by omega⟩ (fun w37 h37 => ?_)
    have hpw : 2 ^ (M.1 402 1).toInt.toNat < 4294967296 := by rw [r_1]; omega
    rw [bn_lit (n := 1) h30, Nat.shiftLeft_eq, Nat.one_mul, Nat.mod_eq_of_lt hpw, r_1] at h37
    have e37 : w37.toInt = (2 : Int) ^ (T 0 1).toNat := by rw [i_bn (by omega), h37, ep]
    refine g_icmp_geI (t := 113) dX6_choiceOf_38 (by decide) rfl (fun c38 => ?_) (fun c38 => ?_)
    · -- 38 t
      refine g_iload4 dX6_choiceOf_113 rfl ?_
      refine g_iret dX6_choiceOf_115 rfl ?_
      refine hQ _ (ch_congr (fun u => ⟨fun h => h.1, fun h => ⟨h, ?_⟩⟩) (fun _ _ => rfl) hch)
      have h1 := h.1.2.1
      have h2 : hasT T p.toInt.toNat < 2 ^ (T 0 1).toNat := by rw [← RW.has hA (p := p.toInt.toNat) (by omega)]; exact gat_lt _ _
      have h3 := sub_le h1
      omega
    · -- 38 f
      refine g_aload_n0 dX6_choiceOf_41 rfl ?_
      refine g_getr dX6_choiceOf_42 rfl fX6_29 hR.1 rfl ?_
      refine g_iload_n2 dX6_choiceOf_45 rfl ?_
      refine g_ialdI dX6_choiceOf_46 rfl (rf_kind hR) ⟨by omega, by omega⟩ ?_
      refine g_iconstI dX6_choiceOf_47 rfl rfl (fun w47 h47 => ?_)
      refine g_icmp_neI (t := 66) dX6_choiceOf_48 (by decide) rfl (fun c48 => ?_) (fun c48 => ?_)
      · -- 48 t
        refine g_aload_n0 dX6_choiceOf_66 rfl ?_
        refine g_aload_n1 dX6_choiceOf_67 rfl ?_
        refine g_iload_n2 dX6_choiceOf_68 rfl ?_
        refine g_iload5 dX6_choiceOf_69 rfl ?_
        refine g_callVi3 dX6_choiceOf_71 rfl vX6_301 hR.1 rfl (r_fits hR hO hC hW ha hA hp ⟨hs0, by omega⟩) (g_rm (by omega)) (Nat.le_of_ble_eq_true rfl) (fun z71 M71 e71 => ?_)
        obtain ⟨rfl, e71, f71⟩ := e71
        refine g_if_neI (t := 80) dX6_choiceOf_74 (by decide) rfl (fun c74 => ?_) (fun c74 => ?_)
        · -- 74 t
          refine g_iload4 dX6_choiceOf_80 rfl ?_
          refine g_iconstI dX6_choiceOf_82 rfl rfl (fun w82 h82 => ?_)
          refine g_icmp_eqI (t := 103) dX6_choiceOf_83 (by decide) rfl (fun c83 => ?_) (fun c83 => ?_)
          · -- 83 t
            refine g_iload5 dX6_choiceOf_103 rfl ?_
            refine g_istore4 dX6_choiceOf_105 rfl rfl ?_
            refine g_iincI5 dX6_choiceOf_107 rfl rfl rfl ⟨by omega, by omega⟩ (fun w107 h107 => ?_)
            refine g_goto (t := 28) dX6_choiceOf_110 (by decide) ?_
            have hnext : ∀ u : Nat, (selT T p.toInt.toNat u ∧ (u : Int) < s.toInt + 1) ↔ ((selT T p.toInt.toNat u ∧ (u : Int) < s.toInt) ∨ (u = s.toInt.toNat ∧ selT T p.toInt.toNat u)) := fun u => by
              constructor
              · rintro ⟨h1, h2⟩
                by_cases h : (u : Int) < s.toInt
                · exact Or.inl ⟨h1, h⟩
                · exact Or.inr ⟨by omega, h1⟩
              · rintro (⟨h1, h2⟩ | ⟨h1, h2⟩)
                · exact ⟨h1, by omega⟩
                · exact ⟨h2, by omega⟩
            rw [← h107] at hnext
            first
              | (have hns : ¬ selT T p.toInt.toNat s.toInt.toNat := by
                   intro hsl
                   first
                     | (have h3 := hsl.2.1 (by omega); rw [h3] at h61c; simp at h61c; omega)
                     | (have h3 := f71.mpr hsl.1; omega)
                 exact ih _ (by omega) _ _ rfl (by omega) (by omega) (ch_congr (fun u => ⟨fun h => (hnext u).mpr (Or.inl h), fun h => ((hnext u).mp h).elim id (fun h => absurd (h.1 ▸ h.2) hns)⟩) (fun _ _ => rfl) hch))
              | (have hsl : selT T p.toInt.toNat s.toInt.toNat := by
                   refine ⟨f71.mp (by omega), fun h3 => ?_, hnw⟩
                   first
                     | omega
                     | (cases hb : s.toInt.toNat.testBit (T 2 p.toInt.toNat).toNat
                        · rfl
                        · rw [hb] at h61c; simp at h61c; omega)
                 have hnx : ∀ u : Nat, (selT T p.toInt.toNat u ∧ (u : Int) < w107.toInt) ↔ ((selT T p.toInt.toNat u ∧ (u : Int) < s.toInt) ∨ u = s.toInt.toNat) := fun u => (hnext u).trans ⟨fun h => h.elim Or.inl (fun h => Or.inr h.1), fun h => h.elim Or.inl (fun h => Or.inr ⟨h, h ▸ hsl⟩)⟩
                 have esn : ((s.toInt.toNat : Nat) : Int) = s.toInt := by omega
                 first
                   | exact ih _ (by omega) _ _ rfl (by omega) (by omega) (ch_keep hch (fun m hm => by rw [show b.toInt.toNat = m by omega] at e97; omega) (by omega) (fun u hu => by have := hu.2; omega) hnx)
                   | exact ih _ (by omega) _ _ rfl (by omega) (by omega) (by rw [← esn]; exact ch_new hch (Or.inl (by omega)) hnx)
                   | exact ih _ (by omega) _ _ rfl (by omega) (by omega) (by rw [← esn]; exact ch_new hch (Or.inr ⟨b.toInt.toNat, by omega, by omega⟩) hnx))
          · -- 83 f
            refine g_aload_n0 dX6_choiceOf_86 rfl ?_
            refine g_iload_n2 dX6_choiceOf_87 rfl ?_
            refine g_iload5 dX6_choiceOf_88 rfl ?_
            refine g_callVi2 dX6_choiceOf_90 rfl vX6_308 hR.1 rfl (r_rankOf hR hO hC hp ⟨hs0, by omega⟩) (g_rm (by omega)) (Nat.le_of_ble_eq_true rfl) (fun z90 M90 e90 => ?_)
            obtain ⟨rfl, e90⟩ := e90
            have hb0 : 0 ≤ b.toInt ∧ b.toInt < s.toInt := by
              rcases hch with ⟨h, -⟩ | ⟨m, h, h1, -⟩
              · omega
              · have := h1.2; omega
            refine g_aload_n0 dX6_choiceOf_93 rfl ?_
            refine g_iload_n2 dX6_choiceOf_94 rfl ?_
            refine g_iload4 dX6_choiceOf_95 rfl ?_
            refine g_callVi2 dX6_choiceOf_97 rfl vX6_308 hR.1 rfl (r_rankOf hR hO hC hp ⟨by omega, by omega⟩) (g_rm (by omega)) (Nat.le_of_ble_eq_true rfl) (fun z97 M97 e97 => ?_)
            obtain ⟨rfl, e97⟩ := e97
            refine g_icmp_geI (t := 107) dX6_choiceOf_100 (by decide) rfl (fun c100 => ?_) (fun c100 => ?_)
            · -- 100 t
              refine g_iincI5 dX6_choiceOf_107 rfl rfl rfl ⟨by omega, by omega⟩ (fun w107 h107 => ?_)
              refine g_goto (t := 28) dX6_choiceOf_110 (by decide) ?_
              have hnext : ∀ u : Nat, (selT T p.toInt.toNat u ∧ (u : Int) < s.toInt + 1) ↔ ((selT T p.toInt.toNat u ∧ (u : Int) < s.toInt) ∨ (u = s.toInt.toNat ∧ selT T p.toInt.toNat u)) := fun u => by
                constructor
                · rintro ⟨h1, h2⟩
                  by_cases h : (u : Int) < s.toInt
                  · exact Or.inl ⟨h1, h⟩
                  · exact Or.inr ⟨by omega, h1⟩
                · rintro (⟨h1, h2⟩ | ⟨h1, h2⟩)
                  · exact ⟨h1, by omega⟩
                  · exact ⟨h2, by omega⟩
              rw [← h107] at hnext
              first
                | (have hns : ¬ selT T p.toInt.toNat s.toInt.toNat := by
                     intro hsl
                     first
                       | (have h3 := hsl.2.1 (by omega); rw [h3] at h61c; simp at h61c; omega)
                       | (have h3 := f71.mpr hsl.1; omega)
                   exact ih _ (by omega) _ _ rfl (by omega) (by omega) (ch_congr (fun u => ⟨fun h => (hnext u).mpr (Or.inl h), fun h => ((hnext u).mp h).elim id (fun h => absurd (h.1 ▸ h.2) hns)⟩) (fun _ _ => rfl) hch))
                | (have hsl : selT T p.toInt.toNat s.toInt.toNat := by
                     refine ⟨f71.mp (by omega), fun h3 => ?_, hnw⟩
                     first
                       | omega
                       | (cases hb : s.toInt.toNat.testBit (T 2 p.toInt.toNat).toNat
                          · rfl
                          · rw [hb] at h61c; simp at h61c; omega)
                   have hnx : ∀ u : Nat, (selT T p.toInt.toNat u ∧ (u : Int) < w107.toInt) ↔ ((selT T p.toInt.toNat u ∧ (u : Int) < s.toInt) ∨ u = s.toInt.toNat) := fun u => (hnext u).trans ⟨fun h => h.elim Or.inl (fun h => Or.inr h.1), fun h => h.elim Or.inl (fun h => Or.inr ⟨h, h ▸ hsl⟩)⟩
                   have esn : ((s.toInt.toNat : Nat) : Int) = s.toInt := by omega
                   first
                     | exact ih _ (by omega) _ _ rfl (by omega) (by omega) (ch_keep hch (fun m hm => by rw [show b.toInt.toNat = m by omega] at e97; omega) (by omega) (fun u hu => by have := hu.2; omega) hnx)
                     | exact ih _ (by omega) _ _ rfl (by omega) (by omega) (by rw [← esn]; exact ch_new hch (Or.inl (by omega)) hnx)
                     | exact ih _ (by omega) _ _ rfl (by omega) (by omega) (by rw [← esn]; exact ch_new hch (Or.inr ⟨b.toInt.toNat, by omega, by omega⟩) hnx))
            · -- 100 f
              refine g_iload5 dX6_choiceOf_103 rfl ?_
              refine g_istore4 dX6_choiceOf_105 rfl rfl ?_
              refine g_iincI5 dX6_choiceOf_107 rfl rfl rfl ⟨by omega, by omega⟩ (fun w107 h107 => ?_)
              refine g_goto (t := 28) dX6_choiceOf_110 (by decide) ?_
              have hnext : ∀ u : Nat, (selT T p.toInt.toNat u ∧ (u : Int) < s.toInt + 1) ↔ ((selT T p.toInt.toNat u ∧ (u : Int) < s.toInt) ∨ (u = s.toInt.toNat ∧ selT T p.toInt.toNat u)) := fun u => by
                constructor
                · rintro ⟨h1, h2⟩
                  by_cases h : (u : Int) < s.toInt
                  · exact Or.inl ⟨h1, h⟩
                  · exact Or.inr ⟨by omega, h1⟩
                · rintro (⟨h1, h2⟩ | ⟨h1, h2⟩)
                  · exact ⟨h1, by omega⟩
                  · exact ⟨h2, by omega⟩
              rw [← h107] at hnext
              first
                | (have hns : ¬ selT T p.toInt.toNat s.toInt.toNat := by
                     intro hsl
                     first
                       | (have h3 := hsl.2.1 (by omega); rw [h3] at h61c; simp at h61c; omega)
                       | (have h3 := f71.mpr hsl.1; omega)
                   exact ih _ (by omega) _ _ rfl (by omega) (by omega) (ch_congr (fun u => ⟨fun h => (hnext u).mpr (Or.inl h), fun h => ((hnext u).mp h).elim id (fun h => absurd (h.1 ▸ h.2) hns)⟩) (fun _ _ => rfl) hch))
                | (have hsl : selT T p.toInt.toNat s.toInt.toNat := by
                     refine ⟨f71.mp (by omega), fun h3 => ?_, hnw⟩
                     first
                       | omega
                       | (cases hb : s.toInt.toNat.testBit (T 2 p.toInt.toNat).toNat
                          · rfl
                          · rw [hb] at h61c; simp at h61c; omega)
                   have hnx : ∀ u : Nat, (selT T p.toInt.toNat u ∧ (u : Int) < w107.toInt) ↔ ((selT T p.toInt.toNat u ∧ (u : Int) < s.toInt) ∨ u = s.toInt.toNat) := fun u => (hnext u).trans ⟨fun h => h.elim Or.inl (fun h => Or.inr h.1), fun h => h.elim Or.inl (fun h => Or.inr ⟨h, h ▸ hsl⟩)⟩
                   have esn : ((s.toInt.toNat : Nat) : Int) = s.toInt := by omega
                   first
                     | exact ih _ (by omega) _ _ rfl (by omega) (by omega) (ch_keep hch (fun m hm => by rw [show b.toInt.toNat = m by omega] at e97; omega) (by omega) (fun u hu => by have := hu.2; omega) hnx)
                     | exact ih _ (by omega) _ _ rfl (by omega) (by omega) (by rw [← esn]; exact ch_new hch (Or.inl (by omega)) hnx)
                     | exact ih _ (by omega) _ _ rfl (by omega) (by omega) (by rw [← esn]; exact ch_new hch (Or.inr ⟨b.toInt.toNat, by omega, by omega⟩) hnx))
        · -- 74 f
          refine g_goto (t := 107) dX6_choiceOf_77 (by decide) ?_
          refine g_iincI5 dX6_choiceOf_107 rfl rfl rfl ⟨by omega, by omega⟩ (fun w107 h107 => ?_)
          refine g_goto (t := 28) dX6_choiceOf_110 (by decide) ?_
          have hnext : ∀ u : Nat, (selT T p.toInt.toNat u ∧ (u : Int) < s.toInt + 1) ↔ ((selT T p.toInt.toNat u ∧ (u : Int) < s.toInt) ∨ (u = s.toInt.toNat ∧ selT T p.toInt.toNat u)) := fun u => by
            constructor
            · rintro ⟨h1, h2⟩
              by_cases h : (u : Int) < s.toInt
              · exact Or.inl ⟨h1, h⟩
              · exact Or.inr ⟨by omega, h1⟩
            · rintro (⟨h1, h2⟩ | ⟨h1, h2⟩)
              · exact ⟨h1, by omega⟩
              · exact ⟨h2, by omega⟩
          rw [← h107] at hnext
          first
            | (have hns : ¬ selT T p.toInt.toNat s.toInt.toNat := by
                 intro hsl
                 first
                   | (have h3 := hsl.2.1 (by omega); rw [h3] at h61c; simp at h61c; omega)
                   | (have h3 := f71.mpr hsl.1; omega)
               exact ih _ (by omega) _ _ rfl (by omega) (by omega) (ch_congr (fun u => ⟨fun h => (hnext u).mpr (Or.inl h), fun h => ((hnext u).mp h).elim id (fun h => absurd (h.1 ▸ h.2) hns)⟩) (fun _ _ => rfl) hch))
            | (have hsl : selT T p.toInt.toNat s.toInt.toNat := by
                 refine ⟨f71.mp (by omega), fun h3 => ?_, hnw⟩
                 first
                   | omega
                   | (cases hb : s.toInt.toNat.testBit (T 2 p.toInt.toNat).toNat
                      · rfl
                      · rw [hb] at h61c; simp at h61c; omega)
               have hnx : ∀ u : Nat, (selT T p.toInt.toNat u ∧ (u : Int) < w107.toInt) ↔ ((selT T p.toInt.toNat u ∧ (u : Int) < s.toInt) ∨ u = s.toInt.toNat) := fun u => (hnext u).trans ⟨fun h => h.elim Or.inl (fun h => Or.inr h.1), fun h => h.elim Or.inl (fun h => Or.inr ⟨h, h ▸ hsl⟩)⟩
               have esn : ((s.toInt.toNat : Nat) : Int) = s.toInt := by omega
               first
                 | exact ih _ (by omega) _ _ rfl (by omega) (by omega) (ch_keep hch (fun m hm => by rw [show b.toInt.toNat = m by omega] at e97; omega) (by omega) (fun u hu => by have := hu.2; omega) hnx)
                 | exact ih _ (by omega) _ _ rfl (by omega) (by omega) (by rw [← esn]; exact ch_new hch (Or.inl (by omega)) hnx)
                 | exact ih _ (by omega) _ _ rfl (by omega) (by omega) (by rw [← esn]; exact ch_new hch (Or.inr ⟨b.toInt.toNat, by omega, by omega⟩) hnx))
      · -- 48 f
        refine g_iload5 dX6_choiceOf_51 rfl ?_
        refine g_aload_n0 dX6_choiceOf_53 rfl ?_
        refine g_getr dX6_choiceOf_54 rfl fX6_32 hR.1 rfl ?_
        refine g_iload_n2 dX6_choiceOf_57 rfl ?_
        refine g_ialdI dX6_choiceOf_58 rfl (rf_kindBy hR) ⟨by omega, by omega⟩ ?_
        refine g_ishrB dX6_choiceOf_59 rfl ⟨by omega, by omega, by omega⟩ (fun w59 h59 => ?_)
        refine g_iconstI dX6_choiceOf_60 rfl rfl (fun w60 h60 => ?_)
        refine g_iandB dX6_choiceOf_61 rfl  (fun w61 h61 => ?_)
        have hbit := bit_and1 s.toInt.toNat (T 2 p.toInt.toNat).toNat
        rw [h59, bn_lit (n := 1) h60, bn_toNat hs0, rp.2, hbit] at h61
        have h61c : w61.toInt = if s.toInt.toNat.testBit (T 2 p.toInt.toNat).toNat then 1 else 0 := by
          rw [i_bn (by rw [h61]; split <;> omega), h61]; split <;> rfl
        refine g_iconstI dX6_choiceOf_62 rfl rfl (fun w62 h62 => ?_)
        refine g_icmp_eqI (t := 107) dX6_choiceOf_63 (by decide) rfl (fun c63 => ?_) (fun c63 => ?_)
        · -- 63 t
          refine g_iincI5 dX6_choiceOf_107 rfl rfl rfl ⟨by omega, by omega⟩ (fun w107 h107 => ?_)
          refine g_goto (t := 28) dX6_choiceOf_110 (by decide) ?_
          have hnext : ∀ u : Nat, (selT T p.toInt.toNat u ∧ (u : Int) < s.toInt + 1) ↔ ((selT T p.toInt.toNat u ∧ (u : Int) < s.toInt) ∨ (u = s.toInt.toNat ∧ selT T p.toInt.toNat u)) := fun u => by
            constructor
            · rintro ⟨h1, h2⟩
              by_cases h : (u : Int) < s.toInt
              · exact Or.inl ⟨h1, h⟩
              · exact Or.inr ⟨by omega, h1⟩
            · rintro (⟨h1, h2⟩ | ⟨h1, h2⟩)
              · exact ⟨h1, by omega⟩
              · exact ⟨h2, by omega⟩
          rw [← h107] at hnext
          first
            | (have hns : ¬ selT T p.toInt.toNat s.toInt.toNat := by
                 intro hsl
                 first
                   | (have h3 := hsl.2.1 (by omega); rw [h3] at h61c; simp at h61c; omega)
                   | (have h3 := f71.mpr hsl.1; omega)
               exact ih _ (by omega) _ _ rfl (by omega) (by omega) (ch_congr (fun u => ⟨fun h => (hnext u).mpr (Or.inl h), fun h => ((hnext u).mp h).elim id (fun h => absurd (h.1 ▸ h.2) hns)⟩) (fun _ _ => rfl) hch))
            | (have hsl : selT T p.toInt.toNat s.toInt.toNat := by
                 refine ⟨f71.mp (by omega), fun h3 => ?_, hnw⟩
                 first
                   | omega
                   | (cases hb : s.toInt.toNat.testBit (T 2 p.toInt.toNat).toNat
                      · rfl
                      · rw [hb] at h61c; simp at h61c; omega)
               have hnx : ∀ u : Nat, (selT T p.toInt.toNat u ∧ (u : Int) < w107.toInt) ↔ ((selT T p.toInt.toNat u ∧ (u : Int) < s.toInt) ∨ u = s.toInt.toNat) := fun u => (hnext u).trans ⟨fun h => h.elim Or.inl (fun h => Or.inr h.1), fun h => h.elim Or.inl (fun h => Or.inr ⟨h, h ▸ hsl⟩)⟩
               have esn : ((s.toInt.toNat : Nat) : Int) = s.toInt := by omega
               first
                 | exact ih _ (by omega) _ _ rfl (by omega) (by omega) (ch_keep hch (fun m hm => by rw [show b.toInt.toNat = m by omega] at e97; omega) (by omega) (fun u hu => by have := hu.2; omega) hnx)
                 | exact ih _ (by omega) _ _ rfl (by omega) (by omega) (by rw [← esn]; exact ch_new hch (Or.inl (by omega)) hnx)
                 | exact ih _ (by omega) _ _ rfl (by omega) (by omega) (by rw [← esn]; exact ch_new hch (Or.inr ⟨b.toInt.toNat, by omega, by omega⟩) hnx))
        · -- 63 f
          refine g_aload_n0 dX6_choiceOf_66 rfl ?_
          refine g_aload_n1 dX6_choiceOf_67 rfl ?_
          refine g_iload_n2 dX6_choiceOf_68 rfl ?_
          refine g_iload5 dX6_choiceOf_69 rfl ?_
          refine g_callVi3 dX6_choiceOf_71 rfl vX6_301 hR.1 rfl (r_fits hR hO hC hW ha hA hp ⟨hs0, by omega⟩) (g_rm (by omega)) (Nat.le_of_ble_eq_true rfl) (fun z71 M71 e71 => ?_)
          obtain ⟨rfl, e71, f71⟩ := e71
          refine g_if_neI (t := 80) dX6_choiceOf_74 (by decide) rfl (fun c74 => ?_) (fun c74 => ?_)
          · -- 74 t
            refine g_iload4 dX6_choiceOf_80 rfl ?_
            refine g_iconstI dX6_choiceOf_82 rfl rfl (fun w82 h82 => ?_)
            refine g_icmp_eqI (t := 103) dX6_choiceOf_83 (by decide) rfl (fun c83 => ?_) (fun c83 => ?_)
            · -- 83 t
              refine g_iload5 dX6_choiceOf_103 rfl ?_
              refine g_istore4 dX6_choiceOf_105 rfl rfl ?_
              refine g_iincI5 dX6_choiceOf_107 rfl rfl rfl ⟨by omega, by omega⟩ (fun w107 h107 => ?_)
              refine g_goto (t := 28) dX6_choiceOf_110 (by decide) ?_
              have hnext : ∀ u : Nat, (selT T p.toInt.toNat u ∧ (u : Int) < s.toInt + 1) ↔ ((selT T p.toInt.toNat u ∧ (u : Int) < s.toInt) ∨ (u = s.toInt.toNat ∧ selT T p.toInt.toNat u)) := fun u => by
                constructor
                · rintro ⟨h1, h2⟩
                  by_cases h : (u : Int) < s.toInt
                  · exact Or.inl ⟨h1, h⟩
                  · exact Or.inr ⟨by omega, h1⟩
                · rintro (⟨h1, h2⟩ | ⟨h1, h2⟩)
                  · exact ⟨h1, by omega⟩
                  · exact ⟨h2, by omega⟩
              rw [← h107] at hnext
              first
                | (have hns : ¬ selT T p.toInt.toNat s.toInt.toNat := by
                     intro hsl
                     first
                       | (have h3 := hsl.2.1 (by omega); rw [h3] at h61c; simp at h61c; omega)
                       | (have h3 := f71.mpr hsl.1; omega)
                   exact ih _ (by omega) _ _ rfl (by omega) (by omega) (ch_congr (fun u => ⟨fun h => (hnext u).mpr (Or.inl h), fun h => ((hnext u).mp h).elim id (fun h => absurd (h.1 ▸ h.2) hns)⟩) (fun _ _ => rfl) hch))
                | (have hsl : selT T p.toInt.toNat s.toInt.toNat := by
                     refine ⟨f71.mp (by omega), fun h3 => ?_, hnw⟩
                     first
                       | omega
                       | (cases hb : s.toInt.toNat.testBit (T 2 p.toInt.toNat).toNat
                          · rfl
                          · rw [hb] at h61c; simp at h61c; omega)
                   have hnx : ∀ u : Nat, (selT T p.toInt.toNat u ∧ (u : Int) < w107.toInt) ↔ ((selT T p.toInt.toNat u ∧ (u : Int) < s.toInt) ∨ u = s.toInt.toNat) := fun u => (hnext u).trans ⟨fun h => h.elim Or.inl (fun h => Or.inr h.1), fun h => h.elim Or.inl (fun h => Or.inr ⟨h, h ▸ hsl⟩)⟩
                   have esn : ((s.toInt.toNat : Nat) : Int) = s.toInt := by omega
                   first
                     | exact ih _ (by omega) _ _ rfl (by omega) (by omega) (ch_keep hch (fun m hm => by rw [show b.toInt.toNat = m by omega] at e97; omega) (by omega) (fun u hu => by have := hu.2; omega) hnx)
                     | exact ih _ (by omega) _ _ rfl (by omega) (by omega) (by rw [← esn]; exact ch_new hch (Or.inl (by omega)) hnx)
                     | exact ih _ (by omega) _ _ rfl (by omega) (by omega) (by rw [← esn]; exact ch_new hch (Or.inr ⟨b.toInt.toNat, by omega, by omega⟩) hnx))
            · -- 83 f
              refine g_aload_n0 dX6_choiceOf_86 rfl ?_
              refine g_iload_n2 dX6_choiceOf_87 rfl ?_
              refine g_iload5 dX6_choiceOf_88 rfl ?_
              refine g_callVi2 dX6_choiceOf_90 rfl vX6_308 hR.1 rfl (r_rankOf hR hO hC hp ⟨hs0, by omega⟩) (g_rm (by omega)) (Nat.le_of_ble_eq_true rfl) (fun z90 M90 e90 => ?_)
              obtain ⟨rfl, e90⟩ := e90
              have hb0 : 0 ≤ b.toInt ∧ b.toInt < s.toInt := by
                rcases hch with ⟨h, -⟩ | ⟨m, h, h1, -⟩
                · omega
                · have := h1.2; omega
              refine g_aload_n0 dX6_choiceOf_93 rfl ?_
              refine g_iload_n2 dX6_choiceOf_94 rfl ?_
              refine g_iload4 dX6_choiceOf_95 rfl ?_
              refine g_callVi2 dX6_choiceOf_97 rfl vX6_308 hR.1 rfl (r_rankOf hR hO hC hp ⟨by omega, by omega⟩) (g_rm (by omega)) (Nat.le_of_ble_eq_true rfl) (fun z97 M97 e97 => ?_)
              obtain ⟨rfl, e97⟩ := e97
              refine g_icmp_geI (t := 107) dX6_choiceOf_100 (by decide) rfl (fun c100 => ?_) (fun c100 => ?_)
              · -- 100 t
                refine g_iincI5 dX6_choiceOf_107 rfl rfl rfl ⟨by omega, by omega⟩ (fun w107 h107 => ?_)
                refine g_goto (t := 28) dX6_choiceOf_110 (by decide) ?_
                have hnext : ∀ u : Nat, (selT T p.toInt.toNat u ∧ (u : Int) < s.toInt + 1) ↔ ((selT T p.toInt.toNat u ∧ (u : Int) < s.toInt) ∨ (u = s.toInt.toNat ∧ selT T p.toInt.toNat u)) := fun u => by
                  constructor
                  · rintro ⟨h1, h2⟩
                    by_cases h : (u : Int) < s.toInt
                    · exact Or.inl ⟨h1, h⟩
                    · exact Or.inr ⟨by omega, h1⟩
                  · rintro (⟨h1, h2⟩ | ⟨h1, h2⟩)
                    · exact ⟨h1, by omega⟩
                    · exact ⟨h2, by omega⟩
                rw [← h107] at hnext
                first
                  | (have hns : ¬ selT T p.toInt.toNat s.toInt.toNat := by
                       intro hsl
                       first
                         | (have h3 := hsl.2.1 (by omega); rw [h3] at h61c; simp at h61c; omega)
                         | (have h3 := f71.mpr hsl.1; omega)
                     exact ih _ (by omega) _ _ rfl (by omega) (by omega) (ch_congr (fun u => ⟨fun h => (hnext u).mpr (Or.inl h), fun h => ((hnext u).mp h).elim id (fun h => absurd (h.1 ▸ h.2) hns)⟩) (fun _ _ => rfl) hch))
                  | (have hsl : selT T p.toInt.toNat s.toInt.toNat := by
                       refine ⟨f71.mp (by omega), fun h3 => ?_, hnw⟩
                       first
                         | omega
                         | (cases hb : s.toInt.toNat.testBit (T 2 p.toInt.toNat).toNat
                            · rfl
                            · rw [hb] at h61c; simp at h61c; omega)
                     have hnx : ∀ u : Nat, (selT T p.toInt.toNat u ∧ (u : Int) < w107.toInt) ↔ ((selT T p.toInt.toNat u ∧ (u : Int) < s.toInt) ∨ u = s.toInt.toNat) := fun u => (hnext u).trans ⟨fun h => h.elim Or.inl (fun h => Or.inr h.1), fun h => h.elim Or.inl (fun h => Or.inr ⟨h, h ▸ hsl⟩)⟩
                     have esn : ((s.toInt.toNat : Nat) : Int) = s.toInt := by omega
                     first
                       | exact ih _ (by omega) _ _ rfl (by omega) (by omega) (ch_keep hch (fun m hm => by rw [show b.toInt.toNat = m by omega] at e97; omega) (by omega) (fun u hu => by have := hu.2; omega) hnx)
                       | exact ih _ (by omega) _ _ rfl (by omega) (by omega) (by rw [← esn]; exact ch_new hch (Or.inl (by omega)) hnx)
                       | exact ih _ (by omega) _ _ rfl (by omega) (by omega) (by rw [← esn]; exact ch_new hch (Or.inr ⟨b.toInt.toNat, by omega, by omega⟩) hnx))
              · -- 100 f
                refine g_iload5 dX6_choiceOf_103 rfl ?_
                refine g_istore4 dX6_choiceOf_105 rfl rfl ?_
                refine g_iincI5 dX6_choiceOf_107 rfl rfl rfl ⟨by omega, by omega⟩ (fun w107 h107 => ?_)
                refine g_goto (t := 28) dX6_choiceOf_110 (by decide) ?_
                have hnext : ∀ u : Nat, (selT T p.toInt.toNat u ∧ (u : Int) < s.toInt + 1) ↔ ((selT T p.toInt.toNat u ∧ (u : Int) < s.toInt) ∨ (u = s.toInt.toNat ∧ selT T p.toInt.toNat u)) := fun u => by
                  constructor
                  · rintro ⟨h1, h2⟩
                    by_cases h : (u : Int) < s.toInt
                    · exact Or.inl ⟨h1, h⟩
                    · exact Or.inr ⟨by omega, h1⟩
                  · rintro (⟨h1, h2⟩ | ⟨h1, h2⟩)
                    · exact ⟨h1, by omega⟩
                    · exact ⟨h2, by omega⟩
                rw [← h107] at hnext
                first
                  | (have hns : ¬ selT T p.toInt.toNat s.toInt.toNat := by
                       intro hsl
                       first
                         | (have h3 := hsl.2.1 (by omega); rw [h3] at h61c; simp at h61c; omega)
                         | (have h3 := f71.mpr hsl.1; omega)
                     exact ih _ (by omega) _ _ rfl (by omega) (by omega) (ch_congr (fun u => ⟨fun h => (hnext u).mpr (Or.inl h), fun h => ((hnext u).mp h).elim id (fun h => absurd (h.1 ▸ h.2) hns)⟩) (fun _ _ => rfl) hch))
                  | (have hsl : selT T p.toInt.toNat s.toInt.toNat := by
                       refine ⟨f71.mp (by omega), fun h3 => ?_, hnw⟩
                       first
                         | omega
                         | (cases hb : s.toInt.toNat.testBit (T 2 p.toInt.toNat).toNat
                            · rfl
                            · rw [hb] at h61c; simp at h61c; omega)
                     have hnx : ∀ u : Nat, (selT T p.toInt.toNat u ∧ (u : Int) < w107.toInt) ↔ ((selT T p.toInt.toNat u ∧ (u : Int) < s.toInt) ∨ u = s.toInt.toNat) := fun u => (hnext u).trans ⟨fun h => h.elim Or.inl (fun h => Or.inr h.1), fun h => h.elim Or.inl (fun h => Or.inr ⟨h, h ▸ hsl⟩)⟩
                     have esn : ((s.toInt.toNat : Nat) : Int) = s.toInt := by omega
                     first
                       | exact ih _ (by omega) _ _ rfl (by omega) (by omega) (ch_keep hch (fun m hm => by rw [show b.toInt.toNat = m by omega] at e97; omega) (by omega) (fun u hu => by have := hu.2; omega) hnx)
                       | exact ih _ (by omega) _ _ rfl (by omega) (by omega) (by rw [← esn]; exact ch_new hch (Or.inl (by omega)) hnx)
                       | exact ih _ (by omega) _ _ rfl (by omega) (by omega) (by rw [← esn]; exact ch_new hch (Or.inr ⟨b.toInt.toNat, by omega, by omega⟩) hnx))
          · -- 74 f
            refine g_goto (t := 107) dX6_choiceOf_77 (by decide) ?_
            refine g_iincI5 dX6_choiceOf_107 rfl rfl rfl ⟨by omega, by omega⟩ (fun w107 h107 => ?_)
            refine g_goto (t := 28) dX6_choiceOf_110 (by decide) ?_
            have hnext : ∀ u : Nat, (selT T p.toInt.toNat u ∧ (u : Int) < s.toInt + 1) ↔ ((selT T p.toInt.toNat u ∧ (u : Int) < s.toInt) ∨ (u = s.toInt.toNat ∧ selT T p.toInt.toNat u)) := fun u => by
              constructor
              · rintro ⟨h1, h2⟩
                by_cases h : (u : Int) < s.toInt
                · exact Or.inl ⟨h1, h⟩
                · exact Or.inr ⟨by omega, h1⟩
              · rintro (⟨h1, h2⟩ | ⟨h1, h2⟩)
                · exact ⟨h1, by omega⟩
                · exact ⟨h2, by omega⟩
            rw [← h107] at hnext
            first
              | (have hns : ¬ selT T p.toInt.toNat s.toInt.toNat := by
                   intro hsl
                   first
                     | (have h3 := hsl.2.1 (by omega); rw [h3] at h61c; simp at h61c; omega)
                     | (have h3 := f71.mpr hsl.1; omega)
                 exact ih _ (by omega) _ _ rfl (by omega) (by omega) (ch_congr (fun u => ⟨fun h => (hnext u).mpr (Or.inl h), fun h => ((hnext u).mp h).elim id (fun h => absurd (h.1 ▸ h.2) hns)⟩) (fun _ _ => rfl) hch))
              | (have hsl : selT T p.toInt.toNat s.toInt.toNat := by
                   refine ⟨f71.mp (by omega), fun h3 => ?_, hnw⟩
                   first
                     | omega
                     | (cases hb : s.toInt.toNat.testBit (T 2 p.toInt.toNat).toNat
                        · rfl
                        · rw [hb] at h61c; simp at h61c; omega)
                 have hnx : ∀ u : Nat, (selT T p.toInt.toNat u ∧ (u : Int) < w107.toInt) ↔ ((selT T p.toInt.toNat u ∧ (u : Int) < s.toInt) ∨ u = s.toInt.toNat) := fun u => (hnext u).trans ⟨fun h => h.elim Or.inl (fun h => Or.inr h.1), fun h => h.elim Or.inl (fun h => Or.inr ⟨h, h ▸ hsl⟩)⟩
                 have esn : ((s.toInt.toNat : Nat) : Int) = s.toInt := by omega
                 first
                   | exact ih _ (by omega) _ _ rfl (by omega) (by omega) (ch_keep hch (fun m hm => by rw [show b.toInt.toNat = m by omega] at e97; omega) (by omega) (fun u hu => by have := hu.2; omega) hnx)
                   | exact ih _ (by omega) _ _ rfl (by omega) (by omega) (by rw [← esn]; exact ch_new hch (Or.inl (by omega)) hnx)
                   | exact ih _ (by omega) _ _ rfl (by omega) (by omega) (by rw [← esn]; exact ch_new hch (Or.inr ⟨b.toInt.toNat, by omega, by omega⟩) hnx))
set_option maxHeartbeats 4000000 in
theorem r_choiceOf {Γ : gW} {M : gM} {T : gTw} (hR : g_Ref Γ) (hO : TOK T) (hC : CR T M) (hW : WR T M) {a : Nat} (ha : g_o Γ a (.inr (1, 30))) (hA : RW T (M.1 a)) {p : Int32} (hp : 0 ≤ p.toInt ∧ p.toInt < T 0 0) {dy : Int32} (hdy : dy.toInt = T 0 4) : Ct Γ yX6_choiceOf μX6_choiceOf 3 [.ref 300, .ref a, .int p, .int dy] M (g_qi (fun z M1 => M1 = M ∧ chosenT T p.toInt.toNat z.toInt)) := by
  obtain ⟨o_pe, o_th, o_la, o_wi, o_da, o_we, o_p, o_i⟩ := id hO
  obtain ⟨r_0, r_1, r_2, r_3, r_p, r_i⟩ := id hC
  have op := o_p p.toInt.toNat (by omega)
  obtain ⟨a_s, a_o, a_t, a_h⟩ := hA.1 p.toInt.toNat (by omega)
  have epn : ((p.toInt.toNat : Nat) : Int) = p.toInt := by omega
  have rp := r_p p.toInt.toNat (by omega)
  have hpos := two_pos (T 0 1).toNat
  refine g_enter rfl rfl rfl (Nat.le_of_ble_eq_true rfl) ?_
  show G Γ _ _ _ _ 0 [some (.ref 300), some (.ref a), some (.int p), some (.int dy), none, none] [] M
  refine g_iconstI dX6_choiceOf_0 rfl rfl (fun w0 h0 => ?_)
  refine g_istore4 dX6_choiceOf_1 rfl rfl ?_
  refine g_aload_n0 dX6_choiceOf_3 rfl ?_
  refine g_getr dX6_choiceOf_4 rfl fX6_29 hR.1 rfl ?_
  refine g_iload_n2 dX6_choiceOf_7 rfl ?_
  refine g_ialdI dX6_choiceOf_8 rfl (rf_kind hR) ⟨by omega, by omega⟩ ?_
  refine g_iconstI dX6_choiceOf_9 rfl rfl (fun w9 h9 => ?_)
  refine g_icmp_neI (t := 25) dX6_choiceOf_10 (by decide) rfl (fun c10 => ?_) (fun c10 => ?_)
  · -- 10 t
    refine g_iconstI dX6_choiceOf_25 rfl rfl (fun w25 h25 => ?_)
    refine g_istore5 dX6_choiceOf_26 rfl rfl ?_
    exact l_choiceOf hR hO hC hW ha hA hp (fun hw => by have h1 := hw.1; have h2 := hw.2; omega) (fun z hz => ⟨_, rfl, rfl, hz⟩) _ _ _ rfl (by omega) (by omega) (by rw [h0]; exact Or.inl ⟨rfl, fun u hu => by have := hu.2; omega⟩)
  · -- 10 f
    refine g_iload_n3 dX6_choiceOf_13 rfl ?_
    refine g_aload_n0 dX6_choiceOf_14 rfl ?_
    refine g_getr dX6_choiceOf_15 rfl fX6_32 hR.1 rfl ?_
    refine g_iload_n2 dX6_choiceOf_18 rfl ?_
    refine g_ialdI dX6_choiceOf_19 rfl (rf_kindBy hR) ⟨by omega, by omega⟩ ?_
    refine g_icmp_geI (t := 25) dX6_choiceOf_20 (by decide) rfl (fun c20 => ?_) (fun c20 => ?_)
    · -- 20 t
      refine g_iconstI dX6_choiceOf_25 rfl rfl (fun w25 h25 => ?_)
      refine g_istore5 dX6_choiceOf_26 rfl rfl ?_
      exact l_choiceOf hR hO hC hW ha hA hp (fun hw => by have h1 := hw.1; have h2 := hw.2; omega) (fun z hz => ⟨_, rfl, rfl, hz⟩) _ _ _ rfl (by omega) (by omega) (by rw [h0]; exact Or.inl ⟨rfl, fun u hu => by have := hu.2; omega⟩)
    · -- 20 f
      refine g_iconstI dX6_choiceOf_23 rfl rfl (fun w23 h23 => ?_)
      refine g_iret dX6_choiceOf_24 rfl ?_
      refine ⟨_, rfl, rfl, ?_⟩
      rw [h23]
      exact Or.inl ⟨rfl, fun u hu => hu.2.2 ⟨by omega, by omega⟩⟩
