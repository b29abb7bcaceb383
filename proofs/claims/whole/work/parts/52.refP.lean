theorem g_mabsI {Γ : gW} {μ : gY} {R : Room} {kn : Nat × Nat} {Z : gZ} {pc q : Nat} {lv : List (Option Value)} {st : List Value} {M : gM} {idx : Nat} {x : Int32} (hd : decode μ.1 pc = .ok (.invokestatic idx, 3)) (hq : pc + 3 = q) (hl : Cond.methodLink μ.2.1 idx Lib.Math.abs.name ∈ g_UW) (h2 : Cond.static Lib.Math.abs.name ∈ g_UW) (h3 : Cond.initialized "java/lang/Math" ∈ g_UW) (h4 : Cond.code Lib.Math.abs.name Lib.Math.abs.code 1 (some .int) ∈ g_UW) (hR : 1 ≤ R.frames ∧ (st.map fun v => v.category).sum + 13 ≤ R.locals) (hx : -2147483648 < x.toInt) (k : ∀ w : Int32, w.toInt = (if 0 ≤ x.toInt then x.toInt else -x.toInt) → G Γ μ R kn Z q lv (.int w :: st) M) : G Γ μ R kn Z pc lv (.int x :: st) M := g_mabs hd hq hl h2 h3 h4 hR (k _ (by
  have e0 : (0 : Int32).toInt = 0 := rfl
  have hr := i_rng x
  by_cases h : (0 : Int32) ≤ x
  · have h1 := Int32.le_iff_toInt_le.mp h
    rw [if_pos h, if_pos (by omega)]
  · have h1 : ¬ 0 ≤ x.toInt := fun e => h (Int32.le_iff_toInt_le.mpr (by omega))
    rw [if_neg h, if_neg h1, i_sub (by omega)]; omega))
/-- what he can make: a set and grains, in one number -/
def gpP (T : gTw) (p : Nat) (b : Nat) (c : Nat) : Prop := sub (c / 1000) (hasT T p) ∧ ((c % 1000 : Nat) : Int) ≤ T 3 p ∧ c < b
def gpPos (T : gTw) (c : Nat) : Prop := 0 < wtT T (c / 1000) + ((c % 1000 : Nat) : Int)
def gpOff (T : gTw) (p : Nat) (c : Nat) : Int := mx 0 ((if 0 ≤ wtT T (c / 1000) + ((c % 1000 : Nat) : Int) - T 4 p then wtT T (c / 1000) + ((c % 1000 : Nat) : Int) - T 4 p else -(wtT T (c / 1000) + ((c % 1000 : Nat) : Int) - T 4 p)) - T 0 3)
theorem gpOff_pos {T : gTw} {p c : Nat} : 0 ≤ gpOff T p c := by rw [gpOff, mx]; split <;> omega
theorem gp_next {T : gTw} {p b : Nat} (h1 : sub (b / 1000) (hasT T p)) (h2 : ((b % 1000 : Nat) : Int) ≤ T 3 p) : ∀ c, gpP T p (b + 1) c ↔ gpP T p b c ∨ c = b := fun c => by
  constructor
  · rintro ⟨a1, a2, a3⟩
    rcases Nat.lt_or_ge c b with h | h
    · exact Or.inl ⟨a1, a2, h⟩
    · exact Or.inr (by omega)
  · rintro (⟨a1, a2, a3⟩ | hc)
    · exact ⟨a1, a2, by omega⟩
    · subst hc; exact ⟨h1, h2, Nat.lt_succ_self _⟩
set_option maxRecDepth 20000 in
theorem gp_row {T : gTw} {p u : Nat} (h0 : 0 ≤ T 3 p ∧ T 3 p ≤ 600) (c : Nat) : gpP T p (u * 1000 + (T 3 p + 1).toNat) c ↔ gpP T p ((u + 1) * 1000) c := by
  constructor
  · rintro ⟨a1, a2, a3⟩; exact ⟨a1, a2, by omega⟩
  · rintro ⟨a1, a2, a3⟩; exact ⟨a1, a2, by omega⟩
set_option maxRecDepth 20000 in
theorem gp_skip {T : gTw} {p u : Nat} (h : ¬ sub u (hasT T p)) (c : Nat) : gpP T p ((u + 1) * 1000) c ↔ gpP T p (u * 1000) c := by
  constructor
  · rintro ⟨a1, a2, a3⟩
    refine ⟨a1, a2, ?_⟩
    rcases Nat.lt_or_ge c (u * 1000) with h1 | h1
    · exact h1
    · have : c / 1000 = u := by omega
      rw [this] at a1; exact absurd a1 h
  · rintro ⟨a1, a2, a3⟩; exact ⟨a1, a2, by omega⟩
theorem dm {u x : Nat} (h : x < 1000) : (u * 1000 + x) / 1000 = u ∧ (u * 1000 + x) % 1000 = x := by omega
set_option maxHeartbeats 1200000 in
theorem l_gapIn {Γ : gW} {M : gM} {T : gTw} (hR : g_Ref Γ) (hO : TOK T) (hS : RS T M) {p : Int32} (hp : 0 ≤ p.toInt ∧ p.toInt < T 0 0) {ow hs : Int32} (how : ow.toInt = T 4 p.toInt.toNat) (how0 : 0 < ow.toInt) (hhs : bn hs = hasT T p.toInt.toNat) {s : Int32} (hs0 : 0 ≤ s.toInt ∧ s.toInt < (2 : Int) ^ (T 0 1).toNat) (hsub : sub s.toInt.toNat (hasT T p.toInt.toNat)) {Q : Option Value → gM → Prop} (hk : ∀ (b : Int32) (z6 z7 z8 : Option Value), g_c1 z6 = true → g_c1 z7 = true → -1 ≤ b.toInt → nearP (gpP T p.toInt.toNat ((s.toInt.toNat + 1) * 1000)) (gpPos T) (gpOff T p.toInt.toNat) b.toInt → G Γ μX6_gap (g_R 2) (0, 0) (g_Z Γ Q) 150 [some (.ref 300), some (.int p), some (.int ow), some (.int b), some (.int hs), some (.int s), z6, z7, z8] [] M) : ∀ (n9 : Nat) (b x : Int32) (z7 z8 : Option Value) (hc7 : g_c1 z7 = true), (T 3 p.toInt.toNat + 1 - x.toInt).toNat = n9 → 0 ≤ x.toInt → x.toInt ≤ T 3 p.toInt.toNat + 1 → -1 ≤ b.toInt → nearP (gpP T p.toInt.toNat (s.toInt.toNat * 1000 + x.toInt.toNat)) (gpPos T) (gpOff T p.toInt.toNat) b.toInt → G Γ μX6_gap (g_R 2) (0, 0) (g_Z Γ Q) 80 [some (.ref 300), some (.int p), some (.int ow), some (.int b), some (.int hs), some (.int s), some (.int x), z7, z8] [] M := by
  intro n9
  induction n9 using Nat.strongRecOn with
  | ind n9 ih =>
    intro b x z7 z8 hc7 hn hx0 hx1 hb hnear
    obtain ⟨hC, hW, hA, hDy, hWe⟩ := id hS
    obtain ⟨o_pe, o_th, o_la, o_wi, o_da, o_we, o_p, o_i⟩ := id hO
    obtain ⟨r_0, r_1, r_2, r_3, r_p, r_i⟩ := id hC
    obtain ⟨-, -, op3, op4, -, -, -⟩ := o_p p.toInt.toNat (by omega)
    obtain ⟨a_s, -, -, -⟩ := hA.1 p.toInt.toNat (by omega)
    clear o_p o_i r_p r_i o_la o_da o_we hDy hWe
    have hwr := wtT_rng (s := s.toInt.toNat) hO
    have ep : ((2 ^ (T 0 1).toNat : Nat) : Int) = (2 : Int) ^ (T 0 1).toNat := by simp
    have hp12 : 2 ^ (T 0 1).toNat ≤ 2 ^ 12 := Nat.pow_le_pow_right (by decide) (by omega)
    have hp12e : (2 : Nat) ^ 12 = 4096 := rfl
    have hsn : s.toInt.toNat < 2 ^ (T 0 1).toNat := by omega
    have hwt : wsum (T 7) (T 0 1).toNat s.toInt.toNat = wtT T s.toInt.toNat := (wsum_ext hsn (by omega)).symm
    clear ep hp12 hp12e hsn
    refine g_iload6 dX6_gap_80 rfl ?_
    refine g_aload_n0 dX6_gap_82 rfl ?_
    refine g_getr dX6_gap_83 rfl fX6_41 hR.1 rfl ?_
    refine g_bipushI dX6_gap_86 rfl rfl (fun w86 h86 => ?_)
    refine g_iload_n1 dX6_gap_88 rfl ?_
    refine g_iaddI dX6_gap_89 rfl ⟨by omega, by omega⟩ (fun w89 h89 => ?_)
    refine g_ialdI dX6_gap_90 rfl (rf_now hR) ⟨by omega, by omega⟩ ?_
    have i90 : w89.toInt.toNat = 12 + p.toInt.toNat := by omega
    rw [i90]
    clear i90
    refine g_icmp_gtI (t := 150) dX6_gap_91 (by decide) rfl (fun c91 => ?_) (fun c91 => ?_)
    · -- 91 t
      exact hk _ _ _ _ rfl hc7 hb (near_congr (by rw [show x.toInt.toNat = (T 3 p.toInt.toNat + 1).toNat by omega] at hnear; exact hnear) (fun c => (gp_row op3 c).symm))
    · -- 91 f
      obtain ⟨d1, d2⟩ := dm (u := s.toInt.toNat) (x := x.toInt.toNat) (by omega)
      have exn : ((x.toInt.toNat : Nat) : Int) = x.toInt := by omega
      have hPn := gp_next (T := T) (p := p.toInt.toNat) (b := s.toInt.toNat * 1000 + x.toInt.toNat) (by rw [d1]; exact hsub) (by rw [d2]; omega)
      refine g_aload_n0 dX6_gap_94 rfl ?_
      refine g_iload5 dX6_gap_95 rfl ?_
      refine g_callVi1 dX6_gap_97 rfl vX6_273 hR.1 rfl (r_weightOf hR hO hC hW hs0.1) (g_rm (by omega)) (Nat.le_of_ble_eq_true rfl) (fun z97 M97 e97 => ?_)
      obtain ⟨rfl, e97⟩ := e97
      rw [hwt] at e97
      refine g_iload6 dX6_gap_100 rfl ?_
      refine g_iaddI dX6_gap_102 rfl ⟨by omega, by omega⟩ (fun w102 h102 => ?_)
      refine g_istore7 dX6_gap_103 rfl rfl ?_
      refine g_iconstI dX6_gap_105 rfl rfl (fun w105 h105 => ?_)
      refine g_iload7 dX6_gap_106 rfl ?_
      refine g_iload_n2 dX6_gap_108 rfl ?_
      refine g_isubI dX6_gap_109 rfl ⟨by omega, by omega⟩ (fun w109 h109 => ?_)
      refine g_mabsI dX6_gap_110 rfl jX6_318 jm_abs_s jm_i jm_abs_c ⟨by show 1 ≤ _ + 1; omega, by show _ ≤ 40 + 50 * _; simp [Value.category] <;> omega⟩ (by omega) (fun w110 h110 => ?_)
      refine g_aload_n0 dX6_gap_113 rfl ?_
      refine g_getr dX6_gap_114 rfl fX6_25 hR.1 rfl ?_
      refine g_iconstI dX6_gap_117 rfl rfl (fun w117 h117 => ?_)
      refine g_ialdI dX6_gap_118 rfl (rf_told hR) ⟨by omega, by omega⟩ ?_
      have et118 : w117.toInt.toNat = 3 := by omega
      rw [et118]
      clear et118
      refine g_isubI dX6_gap_119 rfl ⟨by split at h110 <;> omega, by split at h110 <;> omega⟩ (fun w119 h119 => ?_)
      refine g_mmaxI dX6_gap_120 rfl jX6_282 jm_max_s jm_i jm_max_c ⟨by show 1 ≤ _ + 1; omega, by show _ ≤ 40 + 50 * _; simp [Value.category] <;> omega⟩  (fun w120 h120 => ?_)
      have hoff : w120.toInt = gpOff T p.toInt.toNat (s.toInt.toNat * 1000 + x.toInt.toNat) := by
        rw [gpOff, d1, d2, exn, mx, h120, h119, h110, h109, h102, h105, e97, how, r_3]
      have ho0 : 0 ≤ w120.toInt := by rw [hoff]; exact gpOff_pos
      have hv : w102.toInt = wtT T s.toInt.toNat + x.toInt := by omega
      clear h119 h120 h110 h109
      refine g_istore8 dX6_gap_123 rfl rfl ?_
      refine g_iload7 dX6_gap_125 rfl ?_
      refine g_if_leI (t := 144) dX6_gap_127 (by decide) rfl (fun c127 => ?_) (fun c127 => ?_)
      · -- 127 t
        have hnb := near_no hnear hPn (fun h => by rw [gpPos, d1, d2] at h; omega)
        refine g_iincI6 dX6_gap_144 rfl rfl rfl ⟨by omega, by omega⟩ (fun w144 h144 => ?_)
        refine g_goto (t := 80) dX6_gap_147 (by decide) ?_
        have e1 : s.toInt.toNat * 1000 + w144.toInt.toNat = s.toInt.toNat * 1000 + x.toInt.toNat + 1 := by omega
        first
          | (have hz := hnb; exact ih _ (by omega) _ _ _ _ rfl rfl (by omega) (by omega) hb (by rw [e1]; exact hz))
          | (have hz := c132; exact ih _ (by omega) _ _ _ _ rfl rfl (by omega) (by omega) (by omega) (by rw [e1]; exact near_yes hnear hPn hpos (fun _ => gpOff_pos) (by rw [if_pos (by omega), hoff])))
          | exact ih _ (by omega) _ _ _ _ rfl rfl (by omega) (by omega) (by omega) (by rw [e1]; exact near_yes hnear hPn hpos (fun _ => gpOff_pos) (by rw [← hoff, if_neg (by omega), if_pos (by omega)]))
          | exact ih _ (by omega) _ _ _ _ rfl rfl (by omega) (by omega) (by omega) (by rw [e1]; exact near_yes hnear hPn hpos (fun _ => gpOff_pos) (by rw [← hoff, if_neg (by omega), if_neg (by omega)]))
      · -- 127 f
        have hpos : gpPos T (s.toInt.toNat * 1000 + x.toInt.toNat) := by rw [gpPos, d1, d2]; omega
        refine g_iload_n3 dX6_gap_130 rfl ?_
        refine g_iconstI dX6_gap_131 rfl rfl (fun w131 h131 => ?_)
        refine g_icmp_eqI (t := 141) dX6_gap_132 (by decide) rfl (fun c132 => ?_) (fun c132 => ?_)
        · -- 132 t
          refine g_iload8 dX6_gap_141 rfl ?_
          refine g_istore_n3 dX6_gap_143 rfl rfl ?_
          refine g_iincI6 dX6_gap_144 rfl rfl rfl ⟨by omega, by omega⟩ (fun w144 h144 => ?_)
          refine g_goto (t := 80) dX6_gap_147 (by decide) ?_
          have e1 : s.toInt.toNat * 1000 + w144.toInt.toNat = s.toInt.toNat * 1000 + x.toInt.toNat + 1 := by omega
          first
            | (have hz := hnb; exact ih _ (by omega) _ _ _ _ rfl rfl (by omega) (by omega) hb (by rw [e1]; exact hz))
            | (have hz := c132; exact ih _ (by omega) _ _ _ _ rfl rfl (by omega) (by omega) (by omega) (by rw [e1]; exact near_yes hnear hPn hpos (fun _ => gpOff_pos) (by rw [if_pos (by omega), hoff])))
            | exact ih _ (by omega) _ _ _ _ rfl rfl (by omega) (by omega) (by omega) (by rw [e1]; exact near_yes hnear hPn hpos (fun _ => gpOff_pos) (by rw [← hoff, if_neg (by omega), if_pos (by omega)]))
            | exact ih _ (by omega) _ _ _ _ rfl rfl (by omega) (by omega) (by omega) (by rw [e1]; exact near_yes hnear hPn hpos (fun _ => gpOff_pos) (by rw [← hoff, if_neg (by omega), if_neg (by omega)]))
        · -- 132 f
          refine g_iload8 dX6_gap_135 rfl ?_
          refine g_iload_n3 dX6_gap_137 rfl ?_
          refine g_icmp_geI (t := 144) dX6_gap_138 (by decide) rfl (fun c138 => ?_) (fun c138 => ?_)
          · -- 138 t
            refine g_iincI6 dX6_gap_144 rfl rfl rfl ⟨by omega, by omega⟩ (fun w144 h144 => ?_)
            refine g_goto (t := 80) dX6_gap_147 (by decide) ?_
            have e1 : s.toInt.toNat * 1000 + w144.toInt.toNat = s.toInt.toNat * 1000 + x.toInt.toNat + 1 := by omega
            first
              | (have hz := hnb; exact ih _ (by omega) _ _ _ _ rfl rfl (by omega) (by omega) hb (by rw [e1]; exact hz))
              | (have hz := c132; exact ih _ (by omega) _ _ _ _ rfl rfl (by omega) (by omega) (by omega) (by rw [e1]; exact near_yes hnear hPn hpos (fun _ => gpOff_pos) (by rw [if_pos (by omega), hoff])))
              | exact ih _ (by omega) _ _ _ _ rfl rfl (by omega) (by omega) (by omega) (by rw [e1]; exact near_yes hnear hPn hpos (fun _ => gpOff_pos) (by rw [← hoff, if_neg (by omega), if_pos (by omega)]))
              | exact ih _ (by omega) _ _ _ _ rfl rfl (by omega) (by omega) (by omega) (by rw [e1]; exact near_yes hnear hPn hpos (fun _ => gpOff_pos) (by rw [← hoff, if_neg (by omega), if_neg (by omega)]))
          · -- 138 f
            refine g_iload8 dX6_gap_141 rfl ?_
            refine g_istore_n3 dX6_gap_143 rfl rfl ?_
            refine g_iincI6 dX6_gap_144 rfl rfl rfl ⟨by omega, by omega⟩ (fun w144 h144 => ?_)
            refine g_goto (t := 80) dX6_gap_147 (by decide) ?_
            have e1 : s.toInt.toNat * 1000 + w144.toInt.toNat = s.toInt.toNat * 1000 + x.toInt.toNat + 1 := by omega
            first
              | (have hz := hnb; exact ih _ (by omega) _ _ _ _ rfl rfl (by omega) (by omega) hb (by rw [e1]; exact hz))
              | (have hz := c132; exact ih _ (by omega) _ _ _ _ rfl rfl (by omega) (by omega) (by omega) (by rw [e1]; exact near_yes hnear hPn hpos (fun _ => gpOff_pos) (by rw [if_pos (by omega), hoff])))
              | exact ih _ (by omega) _ _ _ _ rfl rfl (by omega) (by omega) (by omega) (by rw [e1]; exact near_yes hnear hPn hpos (fun _ => gpOff_pos) (by rw [← hoff, if_neg (by omega), if_pos (by omega)]))
              | exact ih _ (by omega) _ _ _ _ rfl rfl (by omega) (by omega) (by omega) (by rw [e1]; exact near_yes hnear hPn hpos (fun _ => gpOff_pos) (by rw [← hoff, if_neg (by omega), if_neg (by omega)]))
set_option maxHeartbeats 1200000 in
theorem l_gapOut {Γ : gW} {M : gM} {T : gTw} (hR : g_Ref Γ) (hO : TOK T) (hS : RS T M) {p : Int32} (hp : 0 ≤ p.toInt ∧ p.toInt < T 0 0) {ow hs : Int32} (how : ow.toInt = T 4 p.toInt.toNat) (how0 : 0 < ow.toInt) (hhs : bn hs = hasT T p.toInt.toNat) {Q : Option Value → gM → Prop} (hk : ∀ (b s : Int32) (z6 z7 z8 : Option Value), -1 ≤ b.toInt → nearP (gpP T p.toInt.toNat (2 ^ (T 0 1).toNat * 1000)) (gpPos T) (gpOff T p.toInt.toNat) b.toInt → G Γ μX6_gap (g_R 2) (0, 0) (g_Z Γ Q) 156 [some (.ref 300), some (.int p), some (.int ow), some (.int b), some (.int hs), some (.int s), z6, z7, z8] [] M) : ∀ (n9 : Nat) (b s : Int32) (z6 z7 z8 : Option Value) (hc6 : g_c1 z6 = true) (hc7 : g_c1 z7 = true), ((2 : Int) ^ (T 0 1).toNat - s.toInt).toNat = n9 → 0 ≤ s.toInt → s.toInt ≤ (2 : Int) ^ (T 0 1).toNat → -1 ≤ b.toInt → nearP (gpP T p.toInt.toNat (s.toInt.toNat * 1000)) (gpPos T) (gpOff T p.toInt.toNat) b.toInt → G Γ μX6_gap (g_R 2) (0, 0) (g_Z Γ Q) 51 [some (.ref 300), some (.int p), some (.int ow), some (.int b), some (.int hs), some (.int s), z6, z7, z8] [] M := by
  intro n9
  induction n9 using Nat.strongRecOn with
  | ind n9 ih =>
    intro b s z6 z7 z8 hc6 hc7 hn hs0 hs1 hb hnear
    obtain ⟨hC, hW, hA, hDy, hWe⟩ := id hS
    obtain ⟨o_pe, o_th, o_la, o_wi, o_da, o_we, o_p, o_i⟩ := id hO
    obtain ⟨r_0, r_1, r_2, r_3, r_p, r_i⟩ := id hC
    obtain ⟨-, -, op3, -, -, -, -⟩ := o_p p.toInt.toNat (by omega)
    clear o_p o_i r_p r_i o_la o_da o_we hDy hWe
    have ep : ((2 ^ (T 0 1).toNat : Nat) : Int) = (2 : Int) ^ (T 0 1).toNat := by simp
    have hp12 : 2 ^ (T 0 1).toNat ≤ 2 ^ 12 := Nat.pow_le_pow_right (by decide) (by omega)
    have hp12e : (2 : Nat) ^ 12 = 4096 := rfl
    refine g_iload5 dX6_gap_51 rfl ?_
    refine g_iconstI dX6_gap_53 rfl rfl (fun w53 h53 => ?_)
    refine g_aload_n0 dX6_gap_54 rfl ?_
    refine g_getr dX6_gap_55 rfl fX6_25 hR.1 rfl ?_
    refine g_iconstI dX6_gap_58 rfl rfl (fun w58 h58 => ?_)
    refine g_ialdI dX6_gap_59 rfl (rf_told hR) ⟨by omega, by omega⟩ ?_
    have et59 : w58.toInt.toNat = 1 := by omega
    rw [et59]
    clear et59
    refine g_ishlB dX6_gap_60 rfl ⟨by omega, by omega⟩ (fun w60 h60 => ?_)
    have hpw : 2 ^ (M.1 402 1).toInt.toNat < 4294967296 := by rw [r_1]; omega
    rw [bn_lit (n := 1) h53, Nat.shiftLeft_eq, Nat.one_mul, Nat.mod_eq_of_lt hpw, r_1] at h60
    have e60 : w60.toInt = (2 : Int) ^ (T 0 1).toNat := by rw [i_bn (by omega), h60, ep]
    refine g_icmp_geI (t := 156) dX6_gap_61 (by decide) rfl (fun c61 => ?_) (fun c61 => ?_)
    · -- 61 t
      exact hk _ _ _ _ _ hb (by rw [show 2 ^ (T 0 1).toNat = s.toInt.toNat by omega]; exact hnear)
    · -- 61 f
      refine g_iload5 dX6_gap_64 rfl ?_
      refine g_iload4 dX6_gap_66 rfl ?_
      refine g_iconstI dX6_gap_68 rfl rfl (fun w68 h68 => ?_)
      refine g_ixorB dX6_gap_69 rfl  (fun w69 h69 => ?_)
      refine g_iandB dX6_gap_70 rfl  (fun w70 h70 => ?_)
      have esb := bn_toNat (x := s) hs0
      rw [h69, bn_neg1 h68, and_not (bn_lt _), hhs, esb] at h70
      have hndl := nd_le s.toInt.toNat (hasT T p.toInt.toNat)
      have e70 : w70.toInt = bn w70 := i_bn (by omega)
      refine g_if_eqI (t := 77) dX6_gap_71 (by decide) rfl (fun c71 => ?_) (fun c71 => ?_)
      · -- 71 t
        have hsub : sub s.toInt.toNat (hasT T p.toInt.toNat) := nd0.mp (by omega)
        refine g_iconstI dX6_gap_77 rfl rfl (fun w77 h77 => ?_)
        refine g_istore6 dX6_gap_78 rfl rfl ?_
        refine l_gapIn hR hO hS hp how how0 hhs ⟨hs0, by omega⟩ hsub (fun b1 y6 y7 y8 g6 g7 hb1 hn1 => ?_) _ _ w77 _ _ hc7 rfl (by omega) (by omega) hb (by rw [h77, show (0 : Int).toNat = 0 from rfl, Nat.add_zero]; exact hnear)
        refine g_iincI5 dX6_gap_150 rfl rfl rfl ⟨by omega, by omega⟩ (fun w150 h150 => ?_)
        refine g_goto (t := 51) dX6_gap_153 (by decide) ?_
        exact ih _ (by omega) _ _ _ _ _ g6 g7 rfl (by omega) (by omega) hb1 (by rw [h150, show (s.toInt + 1).toNat = s.toInt.toNat + 1 by omega]; exact hn1)
      · -- 71 f
        have hnsub : ¬ sub s.toInt.toNat (hasT T p.toInt.toNat) := fun h => by have := nd0.mpr h; omega
        refine g_goto (t := 150) dX6_gap_74 (by decide) ?_
        refine g_iincI5 dX6_gap_150 rfl rfl rfl ⟨by omega, by omega⟩ (fun w150 h150 => ?_)
        refine g_goto (t := 51) dX6_gap_153 (by decide) ?_
        exact ih _ (by omega) _ _ _ _ _ hc6 hc7 rfl (by omega) (by omega) hb (by rw [h150, show (s.toInt + 1).toNat = s.toInt.toNat + 1 by omega]; exact near_congr hnear (gp_skip hnsub))
set_option maxHeartbeats 1200000 in
theorem r_gap {Γ : gW} {M : gM} {T : gTw} (hR : g_Ref Γ) (hO : TOK T) (hS : RS T M) {p : Int32} : Ct Γ yX6_gap μX6_gap 2 [.ref 300, .int p] M (g_qi (fun z M1 => (¬ (0 ≤ p.toInt ∧ p.toInt < T 0 0) ∧ z.toInt = 0 ∧ M1 = g_u (g_u M 300 1 0) 300 1 1) ∨ ((0 ≤ p.toInt ∧ p.toInt < T 0 0) ∧ M1 = g_u M 300 1 0 ∧ ((T 4 p.toInt.toNat = 0 ∧ z.toInt = -1) ∨ (¬ T 4 p.toInt.toNat = 0 ∧ ∃ y : Int, nearP (gpP T p.toInt.toNat (2 ^ (T 0 1).toNat * 1000)) (gpPos T) (gpOff T p.toInt.toNat) y ∧ z.toInt = if y = -1 then T 4 p.toInt.toNat else y))))) := by
  have hS0 := RS.code (x := 0) hS
  obtain ⟨hC, hW, hA, hDy, hWe⟩ := id hS0
  obtain ⟨o_pe, o_th, o_la, o_wi, o_da, o_we, o_p, o_i⟩ := id hO
  obtain ⟨r_0, r_1, r_2, r_3, r_p, r_i⟩ := id hC
  refine g_enter rfl rfl rfl (Nat.le_of_ble_eq_true rfl) ?_
  show G Γ _ _ _ _ 0 [some (.ref 300), some (.int p), none, none, none, none, none, none, none] [] M
  refine g_aload_n0 dX6_gap_0 rfl ?_
  refine g_iconst (v := 0) dX6_gap_1 rfl rfl ?_
  refine g_put dX6_gap_2 rfl fX6_128 hR.1 rfl rfl rfl ?_
  refine g_aload_n0 dX6_gap_5 rfl ?_
  refine g_iload_n1 dX6_gap_6 rfl ?_
  refine g_callVi1 dX6_gap_7 rfl vX6_263 hR.1 rfl (r_isPerson hR hO hC) (g_rm (by omega)) (Nat.le_of_ble_eq_true rfl) (fun z7 M7 e7 => ?_)
  obtain ⟨e7a, e7, f7⟩ := e7
  subst e7a
  refine g_if_neI (t := 19) dX6_gap_10 (by decide) rfl (fun c10 => ?_) (fun c10 => ?_)
  · -- 10 t
    have hp := f7.mp (by omega)
    clear f7 e7
    have hpos := two_pos (T 0 1).toNat
    obtain ⟨-, -, -, op4, -, -, -⟩ := o_p p.toInt.toNat (by omega)
    obtain ⟨-, a_o, -, -⟩ := hA.1 p.toInt.toNat (by omega)
    rw [g_u_ne (show 407 ≠ 300 by decide)] at a_o
    have epn : ((p.toInt.toNat : Nat) : Int) = p.toInt := by omega
    clear o_p o_i r_p r_i o_la o_da o_we
    refine g_aload_n0 dX6_gap_19 rfl ?_
    refine g_getr dX6_gap_20 rfl fX6_41 hR.1 rfl ?_
    refine g_bipushI dX6_gap_23 rfl rfl (fun w23 h23 => ?_)
    refine g_iload_n1 dX6_gap_25 rfl ?_
    refine g_iaddI dX6_gap_26 rfl ⟨by omega, by omega⟩ (fun w26 h26 => ?_)
    refine g_ialdI dX6_gap_27 rfl (rf_now hR) ⟨by omega, by omega⟩ ?_
    rw [g_u_ne (show 407 ≠ 300 by omega)]
    rw [show w26.toInt.toNat = 18 + p.toInt.toNat by omega]
    refine g_istore_n2 dX6_gap_28 rfl rfl ?_
    refine g_iload_n2 dX6_gap_29 rfl ?_
    refine g_if_neI (t := 35) dX6_gap_30 (by decide) rfl (fun c30 => ?_) (fun c30 => ?_)
    · -- 30 t
      refine g_iconstI dX6_gap_35 rfl rfl (fun w35 h35 => ?_)
      refine g_istore_n3 dX6_gap_36 rfl rfl ?_
      refine g_aload_n0 dX6_gap_37 rfl ?_
      refine g_aload_n0 dX6_gap_38 rfl ?_
      refine g_getr dX6_gap_39 rfl fX6_41 hR.1 rfl ?_
      refine g_iload_n1 dX6_gap_42 rfl ?_
      refine g_callVi2 dX6_gap_43 rfl vX6_266 hR.1 rfl (r_hasOf hR hO hC (rf_now hR)) (g_rm (by omega)) (Nat.le_of_ble_eq_true rfl) (fun z43 M43 e43 => ?_)
      obtain ⟨e43a, e43⟩ := e43
      subst e43a
      rw [← epn, RW.has hA (by omega)] at e43
      refine g_istore4 dX6_gap_46 rfl rfl ?_
      refine g_iconstI dX6_gap_48 rfl rfl (fun w48 h48 => ?_)
      refine g_istore5 dX6_gap_49 rfl rfl ?_
      refine l_gapOut hR hO hS0 hp a_o (by omega) e43 (fun b1 s1 y6 y7 y8 hb1 hn1 => ?_) _ _ _ _ _ _ rfl rfl rfl (by omega) (by omega) (by omega) (Or.inl ⟨h35, fun c hc => by have := hc.2.2; rw [h48] at this; simp at this⟩)
      refine g_iload_n3 dX6_gap_156 rfl ?_
      refine g_iconstI dX6_gap_157 rfl rfl (fun w157 h157 => ?_)
      refine g_icmp_neI (t := 165) dX6_gap_158 (by decide) rfl (fun c158 => ?_) (fun c158 => ?_)
      · refine g_iload_n3 dX6_gap_165 rfl ?_
        refine g_iret dX6_gap_166 rfl ?_
        exact ⟨_, rfl, Or.inr ⟨hp, rfl, Or.inr ⟨by omega, _, hn1, by rw [if_neg (by omega)]⟩⟩⟩
      · refine g_iload_n2 dX6_gap_161 rfl ?_
        refine g_goto (t := 166) dX6_gap_162 (by decide) ?_
        refine g_iret dX6_gap_166 rfl ?_
        exact ⟨_, rfl, Or.inr ⟨hp, rfl, Or.inr ⟨by omega, _, hn1, by rw [if_pos (by omega)]; exact a_o⟩⟩⟩
    · -- 30 f
      refine g_iconstI dX6_gap_33 rfl rfl (fun w33 h33 => ?_)
      refine g_iret dX6_gap_34 rfl ?_
      exact ⟨_, rfl, Or.inr ⟨hp, rfl, Or.inl ⟨by omega, by omega⟩⟩⟩
  · -- 10 f
    have hp : ¬ (0 ≤ p.toInt ∧ p.toInt < T 0 0) := fun h => by have := f7.mpr h; omega
    clear f7 e7
    refine g_aload_n0 dX6_gap_13 rfl ?_
    refine g_iconst (v := 1) dX6_gap_14 rfl rfl ?_
    refine g_callVi1 dX6_gap_15 rfl vX6_243 hR.1 rfl (r_fail hR) (g_rm (by omega)) (Nat.le_of_ble_eq_true rfl) (fun z15 M15 e15 => ?_)
    obtain ⟨e15a, e15⟩ := e15
    subst e15a
    refine g_iret dX6_gap_18 rfl ?_
    exact ⟨_, rfl, Or.inl ⟨by omega, e15, rfl⟩⟩
