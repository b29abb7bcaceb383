theorem pig : ∀ (m n : Nat) (f : Nat → Nat), (∀ i, i < n → 1 ≤ f i ∧ f i ≤ m) → (∀ i j, i < n → j < n → f i = f j → i = j) → n ≤ m := by
  intro m
  induction m with
  | zero =>
    intro n f h _
    by_cases hn : n = 0
    · omega
    · have := h 0 (by omega); omega
  | succ m ih =>
    intro n f h hi
    by_cases hx : ∃ i, i < n ∧ f i = m + 1
    · obtain ⟨i0, h0, h1⟩ := hx
      have := ih (n - 1) (fun i => if i = i0 then f (n - 1) else f i) (fun i hin => ?_) (fun i j hin hjn e => ?_)
      · omega
      · show 1 ≤ (if i = i0 then f (n - 1) else f i) ∧ (if i = i0 then f (n - 1) else f i) ≤ m
        by_cases hii : i = i0
        · rw [if_pos hii]
          have a := h (n - 1) (by omega)
          have b : f (n - 1) ≠ m + 1 := fun q => by have := hi (n - 1) i0 (by omega) h0 (by omega); omega
          omega
        · rw [if_neg hii]
          have a := h i (by omega)
          have b : f i ≠ m + 1 := fun q => hii (hi i i0 (by omega) h0 (by omega))
          omega
      · replace e : (if i = i0 then f (n - 1) else f i) = (if j = i0 then f (n - 1) else f j) := e
        by_cases hii : i = i0
        · by_cases hjj : j = i0
          · omega
          · rw [if_pos hii, if_neg hjj] at e
            have := hi (n - 1) j (by omega) (by omega) e
            omega
        · by_cases hjj : j = i0
          · rw [if_neg hii, if_pos hjj] at e
            have := hi i (n - 1) (by omega) (by omega) e
            omega
          · rw [if_neg hii, if_neg hjj] at e
            exact hi i j (by omega) (by omega) e
    · have := ih n f (fun i hin => ?_) hi
      · omega
      · have a := h i hin
        have b : f i ≠ m + 1 := fun q => hx ⟨i, hin, q⟩
        omega
def frQ (M M' : gM) : Prop := (∀ j, j ≠ 203 → j ≠ 204 → j ≠ 205 → j ≠ 206 → M'.1 j = M.1 j) ∧ M'.2 = M.2
set_option maxHeartbeats 1200000 in
theorem l_ld {Γ : gW} (hA : g_Get Γ) {T Tk : gTw} (hO : TOK Tk) (hX : TX T Tk) {k : Nat} {kI : Int32} (hk : kI.toInt = (k : Int)) (hk2 : k < 1000) {M0 : gM} (hS : ∀ q, q < 6 → ln (M0.2 251 (6 * k + q)) = PKr Tk q) {Q : Option Value → gM → Prop} (hQ : ∀ M : gM, frQ M0 M → tv M 200 = Tk → Q none M) : ∀ (n9 : Nat) (p : Int32) (v3 v4 : Option Value) (M : gM), 6 - p.toInt.toNat = n9 → 0 ≤ p.toInt → p.toInt ≤ T 0 0 → frQ M0 M → (∀ f i, tv M 200 f i = if 3 ≤ f ∧ f ≤ 6 ∧ i < p.toInt.toNat then Tk f i else T f i) → G Γ μX1_load (g_R 0) (0, 0) (g_Z Γ Q) 2 [some (.ref 250), some (.int kI), some (.int p), v3, v4] [] M := by
  intro n9
  induction n9 using Nat.strongRecOn with
  | ind n9 ih =>
    intro p v3 v4 M h9 hp0 hp1 hF hmix
    have hb0 := hO.1
    have e00 := hX.o 0
    have t00 : (M.1 200 0).toInt = T 0 0 := by
      have := hmix 0 0
      rw [if_neg (by omega), tv0 (by decide)] at this
      exact this
    refine g_iload_n2 dX1_load_2 rfl ?_
    refine g_aload_n0 dX1_load_3 rfl ?_
    refine g_getr dX1_load_4 rfl fX1_25 hA.1 rfl ?_
    refine g_geti dX1_load_7 rfl fX1_62 hA.2.2.2.2.1 rfl ?_
    refine g_icmp_geI (t := 98) dX1_load_10 (by decide) rfl (fun c10 => ?_) (fun c10 => ?_)
    · -- 10 t
      have hend : tv M 200 = Tk := by
        funext f i
        rw [hmix]
        by_cases hq : 3 ≤ f ∧ f ≤ 6 ∧ i < p.toInt.toNat
        · rw [if_pos hq]
        · rw [if_neg hq, hX f i (by omega)]
      refine g_vret dX1_load_98 rfl ?_
      exact hQ M hF hend
    · -- 10 f
      have hr := PK_rng hO (p := p.toInt.toNat) (by omega)
      have hbp := hO.2.2.2.2.2.2.1 p.toInt.toNat (by omega)
      have hall : ln (M.2 251 (6 * k + p.toInt.toNat)) = PK Tk p.toInt.toNat := by rw [hF.2, hS _ (by omega), PKr, if_pos (by omega)]
      obtain ⟨k6, k3, k4, k5⟩ := pk_get hr.1 hr.2.1 hr.2.2.1 hr.2.2.2
      replace k6 : (PK Tk p.toInt.toNat % 4294967296) &&& 4095 = _ := k6
      replace k3 : (PK Tk p.toInt.toNat >>> 12 % 4294967296) &&& 4095 = _ := k3
      replace k4 : (PK Tk p.toInt.toNat >>> 24 % 4294967296) &&& 4095 = _ := k4
      replace k5 : PK Tk p.toInt.toNat >>> 36 % 4294967296 = _ := k5
      refine g_aload_n0 dX1_load_13 rfl ?_
      refine g_getr dX1_load_14 rfl fX1_11 hA.1 rfl ?_
      refine g_iload_n1 dX1_load_17 rfl ?_
      refine g_bipushI dX1_load_18 rfl rfl (fun w18 h18 => ?_)
      refine g_imulI dX1_load_20 rfl ⟨by rw [h18]; omega, by rw [h18]; omega⟩ (fun w20 h20 => ?_)
      rw [h18] at h20
      refine g_iload_n2 dX1_load_21 rfl ?_
      refine g_iaddI dX1_load_22 rfl ⟨by omega, by omega⟩ (fun w22 h22 => ?_)
      refine g_lald dX1_load_23 rfl hA.2.1 (i_in ⟨by omega, by omega⟩) ?_
      rw [show w22.toNatClampNeg = 6 * k + p.toInt.toNat by show w22.toInt.toNat = _; omega]
      refine g_lstore_n3 dX1_load_24 rfl rfl ?_
      refine g_aload_n0 dX1_load_25 rfl ?_
      refine g_getr dX1_load_26 rfl fX1_25 hA.1 rfl ?_
      refine g_getr dX1_load_29 rfl fX1_113 hA.2.2.2.2.1 rfl ?_
      refine g_iload_n2 dX1_load_32 rfl ?_
      refine g_lload_n3 dX1_load_33 rfl ?_
      refine g_l2i dX1_load_34 rfl ?_
      refine g_sipushI dX1_load_35 rfl rfl (fun w35 h35 => ?_)
      refine g_iandB dX1_load_38 rfl  (fun w38 h38 => ?_)
      rw [bn_l2i, hall, bn_lit (n := 4095) h35, k6] at h38
      refine g_iastI dX1_load_39 rfl (tw_has hA.2.2.2.2) ⟨by omega, by omega⟩ ?_
      refine g_aload_n0 dX1_load_40 rfl ?_
      refine g_getr dX1_load_41 rfl fX1_25 hA.1 rfl ?_
      refine g_getr dX1_load_44 rfl fX1_110 hA.2.2.2.2.1 rfl ?_
      refine g_iload_n2 dX1_load_47 rfl ?_
      refine g_lload_n3 dX1_load_48 rfl ?_
      refine g_bipush (v := 12) dX1_load_49 rfl rfl ?_
      refine g_lushr dX1_load_51 rfl ?_
      refine g_l2i dX1_load_52 rfl ?_
      refine g_sipushI dX1_load_53 rfl rfl (fun w53 h53 => ?_)
      refine g_iandB dX1_load_56 rfl  (fun w56 h56 => ?_)
      rw [bn_l2i, ln_ushr (by decide), hall, bn_lit (n := 4095) h53, show (12 : Int32).toInt.toNat = 12 from rfl, k3] at h56
      refine g_iastI dX1_load_57 rfl (tw_sand hA.2.2.2.2) ⟨by omega, by omega⟩ ?_
      refine g_aload_n0 dX1_load_58 rfl ?_
      refine g_getr dX1_load_59 rfl fX1_25 hA.1 rfl ?_
      refine g_getr dX1_load_62 rfl fX1_107 hA.2.2.2.2.1 rfl ?_
      refine g_iload_n2 dX1_load_65 rfl ?_
      refine g_lload_n3 dX1_load_66 rfl ?_
      refine g_bipush (v := 24) dX1_load_67 rfl rfl ?_
      refine g_lushr dX1_load_69 rfl ?_
      refine g_l2i dX1_load_70 rfl ?_
      refine g_sipushI dX1_load_71 rfl rfl (fun w71 h71 => ?_)
      refine g_iandB dX1_load_74 rfl  (fun w74 h74 => ?_)
      rw [bn_l2i, ln_ushr (by decide), hall, bn_lit (n := 4095) h71, show (24 : Int32).toInt.toNat = 24 from rfl, k4] at h74
      refine g_iastI dX1_load_75 rfl (tw_owed hA.2.2.2.2) ⟨by omega, by omega⟩ ?_
      refine g_aload_n0 dX1_load_76 rfl ?_
      refine g_getr dX1_load_77 rfl fX1_25 hA.1 rfl ?_
      refine g_getr dX1_load_80 rfl fX1_83 hA.2.2.2.2.1 rfl ?_
      refine g_iload_n2 dX1_load_83 rfl ?_
      refine g_lload_n3 dX1_load_84 rfl ?_
      refine g_bipush (v := 36) dX1_load_85 rfl rfl ?_
      refine g_lushr dX1_load_87 rfl ?_
      refine g_l2i dX1_load_88 rfl ?_
      have h88 : bn ((M.2 251 (6 * k + p.toInt.toNat)).toUInt64 >>> ((36 : Int32).toInt64.toUInt64 &&& Int64.toUInt64 63)).toInt64.toInt32 = (Tk 5 p.toInt.toNat + 1).toNat := by rw [bn_l2i, ln_ushr (by decide), hall, show (36 : Int32).toInt.toNat = 36 from rfl, k5]
      have e88 := i_bn (x := ((M.2 251 (6 * k + p.toInt.toNat)).toUInt64 >>> ((36 : Int32).toInt64.toUInt64 &&& Int64.toUInt64 63)).toInt64.toInt32) (by omega)
      refine g_iconstI dX1_load_89 rfl rfl (fun w89 h89 => ?_)
      refine g_isubI dX1_load_90 rfl ⟨by omega, by omega⟩ (fun w90 h90 => ?_)
      refine g_iastI dX1_load_91 rfl (tw_owedTo hA.2.2.2.2) ⟨by omega, by omega⟩ ?_
      refine g_iincI2 dX1_load_92 rfl rfl rfl ⟨by omega, by omega⟩ (fun w92 h92 => ?_)
      refine g_goto (t := 2) dX1_load_95 (by decide) ?_
      have y6 : w38.toInt = Tk 6 p.toInt.toNat := by rw [i_bn (by omega), h38]; omega
      have y3 : w56.toInt = Tk 3 p.toInt.toNat := by rw [i_bn (by omega), h56]; omega
      have y4 : w74.toInt = Tk 4 p.toInt.toNat := by rw [i_bn (by omega), h74]; omega
      have y5 : w90.toInt = Tk 5 p.toInt.toNat := by omega
      obtain ⟨M', hM'⟩ : ∃ M', M' = g_u (g_u (g_u (g_u M (200 + 6) p.toInt.toNat w38) (200 + 3) p.toInt.toNat w56) (200 + 4) p.toInt.toNat w74) (200 + 5) p.toInt.toNat w90 := ⟨_, rfl⟩
      refine g_fwd (M1 := M') ?_ hM'
      have l6 : ∀ f, f ≤ 6 → lenT f = 6 := fun f hf => by rw [lenT, if_pos hf]
      have hF' : frQ M0 M' := ⟨fun j a b c d => by rw [hM', g_u_ne c, g_u_ne b, g_u_ne a, g_u_ne d]; exact hF.1 j a b c d, by rw [hM']; exact hF.2⟩
      have hm' : ∀ f i, tv M' 200 f i = if 3 ≤ f ∧ f ≤ 6 ∧ i < w92.toInt.toNat then Tk f i else T f i := fun f i => by
        rw [hM', tv_u (t := 200) (f := 5) (by rw [l6 _ (by decide)]; omega), tv_u (t := 200) (f := 4) (by rw [l6 _ (by decide)]; omega), tv_u (t := 200) (f := 3) (by rw [l6 _ (by decide)]; omega), tv_u (t := 200) (f := 6) (by rw [l6 _ (by decide)]; omega), y3, y4, y5, y6]
        simp only [upT]
        have e1 : w92.toInt.toNat = p.toInt.toNat + 1 := by omega
        by_cases hip : i = p.toInt.toNat
        · subst hip
          by_cases q5 : f = 5
          · subst q5; rw [if_pos ⟨rfl, rfl⟩, if_pos (by omega)]
          · rw [if_neg (fun q => q5 q.1)]
            by_cases q4 : f = 4
            · subst q4; rw [if_pos ⟨rfl, rfl⟩, if_pos (by omega)]
            · rw [if_neg (fun q => q4 q.1)]
              by_cases q3 : f = 3
              · subst q3; rw [if_pos ⟨rfl, rfl⟩, if_pos (by omega)]
              · rw [if_neg (fun q => q3 q.1)]
                by_cases q6 : f = 6
                · subst q6; rw [if_pos ⟨rfl, rfl⟩, if_pos (by omega)]
                · rw [if_neg (fun q => q6 q.1), hmix, if_neg (by omega), if_neg (by omega)]
        · rw [if_neg (fun q => hip q.2), if_neg (fun q => hip q.2), if_neg (fun q => hip q.2), if_neg (fun q => hip q.2), hmix]
          by_cases q : 3 ≤ f ∧ f ≤ 6 ∧ i < p.toInt.toNat
          · rw [if_pos q, if_pos (by omega)]
          · rw [if_neg q, if_neg (by omega)]
      exact ih _ (show 6 - w92.toInt.toNat < n9 by omega) w92 _ _ M' rfl (by omega) (by omega) hF' hm'
set_option maxHeartbeats 1200000 in
theorem c_load {Γ : gW} (hA : g_Get Γ) {T Tk : gTw} (hO : TOK Tk) (hX : TX T Tk) {k : Nat} {kI : Int32} (hk : kI.toInt = (k : Int)) (hk2 : k < 1000) {M : gM} (hT : tv M 200 = T) (hS : ∀ q, q < 6 → ln (M.2 251 (6 * k + q)) = PKr Tk q) : Ct Γ yX1_load μX1_load 0 [.ref 250, .int kI] M (g_qv (fun M1 => frQ M M1 ∧ tv M1 200 = Tk)) := by
  have hb0 := hO.1
  have e00 := hX.o 0
  refine g_enter rfl rfl rfl (Nat.le_of_ble_eq_true rfl) ?_
  show G Γ _ _ _ _ 0 [some (.ref 250), some (.int kI), none, none, none] [] M
  refine g_iconstI dX1_load_0 rfl rfl (fun w0 h0 => ?_)
  refine g_istore_n2 dX1_load_1 rfl rfl ?_
  exact l_ld hA hO hX hk hk2 hS (fun M1 a b => ⟨rfl, a, b⟩) _ _ _ _ _ rfl (by omega) (by omega) ⟨fun _ _ _ _ _ => rfl, rfl⟩ (fun f i => by rw [if_neg (by omega), hT])
