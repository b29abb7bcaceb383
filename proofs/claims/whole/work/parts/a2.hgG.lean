theorem wsum_on {w v : Nat → Int} {n u : Nat} (h : ∀ i, i < n → u.testBit i = true → w i = v i) : wsum w n u = wsum v n u := by
  induction n with
  | zero => rfl
  | succ n ih =>
    rw [wsum, wsum, ih (fun i hi => h i (by omega))]
    by_cases hb : u.testBit n = true
    · rw [if_pos hb, if_pos hb, h n (by omega) hb]
    · rw [if_neg hb, if_neg hb]
theorem fit_up {T : gTw} {p t u : Nat} {w : Int} : fitT (upT T 7 t w) p u ↔ mayT T p ∧ sub u (hasT T p) ∧ fitWT (upT T 7 t w) (lgtT T p - T 3 p) (hvyT T p) u := by
  simp [fitT, mayT, hasT, lgtT, hvyT, upT]
theorem part_fit {T : gTw} {p t : Nat} {w : Int} (ht : t < 12) (hm : mayT T p) (hh : (hasT T p).testBit t = true) (hno : ∀ u, ¬ fitT T p u) : partT T p t w ↔ ∃ u, fitT (upT T 7 t w) p u := by
  have e7 : ∀ i, i ≠ t → upT T 7 t w 7 i = T 7 i := fun i hi => upT_ne (by omega)
  have et : upT T 7 t w 7 t = w := upT_eq
  have off : ∀ u : Nat, u.testBit t = false → wtT (upT T 7 t w) u = wtT T u := fun u hu => wsum_on (fun i _ hb => e7 i (fun e => by rw [e, hu] at hb; cases hb))
  constructor
  · rintro ⟨u, h1, h2, h3, h4⟩
    have hb : ∀ i, u.testBit i = ((u ||| 2 ^ t).testBit i && !decide (i = t)) := fun i => by
      rw [Nat.testBit_or, Nat.testBit_two_pow]
      by_cases hi : i = t
      · rw [hi, h2]; simp
      · have : ¬ t = i := fun e => hi e.symm
        simp [hi, this]
    have hs := wsum_clear (w := upT T 7 t w 7) (n := 12) (x := u ||| 2 ^ t) (y := u) (k := t) ht (by rw [Nat.testBit_or, Nat.testBit_two_pow]; simp) hb
    have hw : wtT (upT T 7 t w) (u ||| 2 ^ t) = wtT T u + w := by rw [wtT, hs, et]; have := off u h2; rw [wtT] at this; rw [this]
    refine ⟨u ||| 2 ^ t, fit_up.mpr ⟨hm, fun i hi => ?_, ?_, ?_⟩⟩
    · rw [Nat.testBit_or, Nat.testBit_two_pow] at hi
      by_cases e : t = i
      · rw [← e]; exact hh
      · simp [e] at hi; exact h1 i hi
    · rw [hw]; omega
    · rw [hw]; omega
  · rintro ⟨u, hu⟩
    obtain ⟨-, h1, h2, h3⟩ := fit_up.mp hu
    cases hb : u.testBit t with
    | false =>
      rw [off u hb] at h2 h3
      exact absurd ⟨hm, h1, h2, h3⟩ (hno u)
    | true =>
      have hy : ∀ i, (nd u (2 ^ t)).testBit i = (u.testBit i && !decide (i = t)) := fun i => by
        rw [nd_bit, Nat.testBit_two_pow]
        by_cases hi : i = t
        · subst hi; simp
        · have : ¬ t = i := fun e => hi e.symm
          simp [hi, this]
      have hs := wsum_clear (w := upT T 7 t w 7) (n := 12) (x := u) (y := nd u (2 ^ t)) (k := t) ht hb hy
      have h0 : (nd u (2 ^ t)).testBit t = false := by rw [hy]; simp
      have hw : wtT (upT T 7 t w) u = wtT T (nd u (2 ^ t)) + w := by rw [wtT, hs, et]; have := off _ h0; rw [wtT] at this; rw [this]
      rw [hw] at h2 h3
      refine ⟨nd u (2 ^ t), fun i hi => ?_, h0, by omega, by omega⟩
      rw [hy] at hi
      cases hi2 : u.testBit i with
      | false => rw [hi2] at hi; simp at hi
      | true => exact h1 i hi2
theorem pow_rng : ∀ k : Nat, k ≤ 10 → (1 : Int) ≤ (2 : Int) ^ k ∧ (2 : Int) ^ k ≤ 1024 ∧ (k = 10 → (2 : Int) ^ k = 1024) ∧ (k = 0 → (2 : Int) ^ k = 1) := by decide +kernel
theorem keep_K {n : Int} {K : Nat} (hn : 1 ≤ n ∧ n ≤ 999) (hK : K < 10) (h : (2 : Int) ^ K - 1 < n) : ∃ L : Nat, keepK n L ∧ K < L := by
  have q : ∀ d : Nat, d ≤ 10 - K → n ≤ (2 : Int) ^ (K + d) - 1 → ∃ L : Nat, keepK n L ∧ K < L := by
    intro d
    induction d with
    | zero => intro _ h2; rw [Nat.add_zero] at h2; omega
    | succ d ih =>
      intro hd h2
      by_cases h3 : n ≤ (2 : Int) ^ (K + d) - 1
      · exact ih (by omega) h3
      · exact ⟨K + (d + 1), ⟨by omega, by omega, h2, by rw [show K + (d + 1) - 1 = K + d by omega]; omega⟩, by omega⟩
  have := (pow_rng 10 (by omega)).2.2.1 rfl
  exact q (10 - K) (by omega) (by rw [show K + (10 - K) = 10 by omega]; omega)
set_option maxHeartbeats 1200000 in
theorem lx_keep {Γ : gW} {M : gM} {n i : Int32} (hn : 1 ≤ n.toInt ∧ n.toInt ≤ 999) : ∀ (n9 : Nat) (K : Nat) (tg k : Int32) (v : Option Value), 10 - K = n9 → k.toInt = (K : Int) → K ≤ 10 → tg.toInt = (if n.toInt < (2 : Int) ^ K - 1 then n.toInt else (2 : Int) ^ K - 1) → (K = 0 ∨ (2 : Int) ^ (K - 1) - 1 < n.toInt) → ¬ (0 ≤ i.toInt ∧ i.toInt < (K : Int)) → G Γ μX5_keep (g_RX 1) (0, 0) (g_ZX Γ (g_qi (fun z M1 => M1 = M ∧ (1 ≤ n.toInt ∧ n.toInt ≤ 999) ∧ ∃ K : Nat, keepK n.toInt K ∧ ((0 ≤ i.toInt ∧ i.toInt < K ∧ z.toInt = keepW n.toInt i.toInt) ∨ (i.toInt = -1 ∧ z.toInt = K)))) (fun E M1 => iaeX M (¬ (1 ≤ n.toInt ∧ n.toInt ≤ 999)) E M1 ∨ nseX M ((1 ≤ n.toInt ∧ n.toInt ≤ 999) ∧ ∃ K : Nat, keepK n.toInt K ∧ ¬ (0 ≤ i.toInt ∧ i.toInt < K) ∧ ¬ i.toInt = -1) E M1)) 10 [some (.ref 0), some (.int n), some (.int i), some (.int tg), some (.int k), v] [] M := by
  intro n9
  induction n9 using Nat.strongRecOn with
  | ind n9 ih =>
    intro K tg k v hm hk hK htg hlo hik
    have hP := pow_rng K hK
    have hPP := pow_s K
    generalize hPe : (2 : Int) ^ K = P at *
    have htr : 0 ≤ tg.toInt ∧ tg.toInt ≤ 999 ∧ (tg.toInt < n.toInt → tg.toInt = P - 1) ∧ (n.toInt ≤ tg.toInt → n.toInt ≤ P - 1) := by
      rw [htg]; split <;> omega
    clear htg
    refine g_iload4 dX5_keep_10 rfl ?_
    refine g_bipushI dX5_keep_12 rfl rfl (fun w12 h12 => ?_)
    refine g_icmp_geI (t := 54) dX5_keep_14 (by decide) rfl (fun c14 => ?_) (fun c14 => ?_)
    · -- 14 t
      refine g_iload_n2 dX5_keep_54 rfl ?_
      refine g_iconstI dX5_keep_55 rfl rfl (fun w55 h55 => ?_)
      refine g_icmp_eqI (t := 67) dX5_keep_56 (by decide) rfl (fun c56 => ?_) (fun c56 => ?_)
      · -- 56 t
        refine g_iload4 dX5_keep_67 rfl ?_
        refine g_toX ?_
        refine g_iret dX5_keep_69 rfl ?_
        refine ⟨_, rfl, rfl, hn, K, ⟨by omega, hK, by rw [hPe]; omega, by omega⟩, Or.inr ⟨by omega, hk⟩⟩
      · -- 56 f
        refine g_throw thN dX5_keep_59 dX5_keep_62 dX5_keep_63 dX5_keep_66 rfl rfl rfl ⟨by show 7 ≤ _ + 8; omega, by show 100 ≤ 150 + 50 * _; omega, Nat.le_refl _, Nat.le_refl _⟩ (Nat.le_of_ble_eq_true rfl) ?_
        refine Or.inr ⟨rfl, rfl, hn, K, ⟨by omega, hK, by rw [hPe]; omega, by omega⟩, hik, by omega⟩
    · -- 14 f
      refine g_iload_n3 dX5_keep_17 rfl ?_
      refine g_iload_n1 dX5_keep_18 rfl ?_
      refine g_icmp_geI (t := 54) dX5_keep_19 (by decide) rfl (fun c19 => ?_) (fun c19 => ?_)
      · -- 19 t
        refine g_iload_n2 dX5_keep_54 rfl ?_
        refine g_iconstI dX5_keep_55 rfl rfl (fun w55 h55 => ?_)
        refine g_icmp_eqI (t := 67) dX5_keep_56 (by decide) rfl (fun c56 => ?_) (fun c56 => ?_)
        · -- 56 t
          refine g_iload4 dX5_keep_67 rfl ?_
          refine g_toX ?_
          refine g_iret dX5_keep_69 rfl ?_
          refine ⟨_, rfl, rfl, hn, K, ⟨by omega, hK, by rw [hPe]; omega, by omega⟩, Or.inr ⟨by omega, hk⟩⟩
        · -- 56 f
          refine g_throw thN dX5_keep_59 dX5_keep_62 dX5_keep_63 dX5_keep_66 rfl rfl rfl ⟨by show 7 ≤ _ + 8; omega, by show 100 ≤ 150 + 50 * _; omega, Nat.le_refl _, Nat.le_refl _⟩ (Nat.le_of_ble_eq_true rfl) ?_
          refine Or.inr ⟨rfl, rfl, hn, K, ⟨by omega, hK, by rw [hPe]; omega, by omega⟩, hik, by omega⟩
      · -- 19 f
        refine g_iconstI dX5_keep_22 rfl rfl (fun w22 h22 => ?_)
        refine g_iload4 dX5_keep_23 rfl ?_
        refine g_ishlB dX5_keep_25 rfl ⟨by omega, by omega⟩ (fun w25 h25 => ?_)
        have hpw : 2 ^ K < 4294967296 := Nat.lt_of_le_of_lt (Nat.pow_le_pow_right (by decide) hK) (by decide)
        rw [bn_lit (n := 1) h22, show k.toInt.toNat = K by omega, Nat.shiftLeft_eq, Nat.one_mul, Nat.mod_eq_of_lt hpw] at h25
        have h25i : w25.toInt = P := by
          have : bn w25 < 2147483648 := by rw [h25]; exact Nat.lt_of_le_of_lt (Nat.pow_le_pow_right (by decide) hK) (by decide)
          rw [i_bn this, h25, ← hPe]; push_cast; rfl
        refine g_iload_n1 dX5_keep_26 rfl ?_
        refine g_iload_n3 dX5_keep_27 rfl ?_
        refine g_isubI dX5_keep_28 rfl ⟨by omega, by omega⟩ (fun w28 h28 => ?_)
        refine g_mminI dX5_keep_29 rfl jX5_238 jm_min_s jm_i jm_min_c ⟨by show 1 ≤ _ + 8; omega, by show _ ≤ 150 + 50 * _; simp [Value.category] <;> omega⟩  (fun w29 h29 => ?_)
        rw [h25i, h28] at h29
        have h29b : 1 ≤ w29.toInt ∧ w29.toInt ≤ 999 := by rw [h29]; split <;> omega
        refine g_istore5 dX5_keep_32 rfl rfl ?_
        refine g_iload4 dX5_keep_34 rfl ?_
        refine g_iload_n2 dX5_keep_36 rfl ?_
        refine g_icmp_neI (t := 43) dX5_keep_37 (by decide) rfl (fun c37 => ?_) (fun c37 => ?_)
        · -- 37 t
          refine g_iload_n3 dX5_keep_43 rfl ?_
          refine g_iload5 dX5_keep_44 rfl ?_
          refine g_iaddI dX5_keep_46 rfl ⟨by omega, by omega⟩ (fun w46 h46 => ?_)
          refine g_istore_n3 dX5_keep_47 rfl rfl ?_
          refine g_iincI4 dX5_keep_48 rfl rfl rfl ⟨by omega, by omega⟩ (fun w48 h48 => ?_)
          refine g_goto (t := 10) dX5_keep_51 (by decide) ?_
          refine ih _ (by omega) (K + 1) _ _ _ rfl (by omega) (by omega) ?_ (Or.inr ?_) (by omega)
          · rw [hPP, h46, h29, htr.2.2.1 (by omega)]; split <;> split <;> omega
          · rw [show K + 1 - 1 = K by omega, hPe]; omega
        · -- 37 f
          refine g_iload5 dX5_keep_40 rfl ?_
          refine g_toX ?_
          refine g_iret dX5_keep_42 rfl ?_
          obtain ⟨L, hL, hKL⟩ := keep_K hn (K := K) (by omega) (by rw [hPe]; omega)
          refine ⟨_, rfl, rfl, hn, L, hL, Or.inl ⟨by omega, by omega, ?_⟩⟩
          rw [keepW, show i.toInt.toNat = K by omega, hPe, h29, htr.2.2.1 (by omega)]
set_option maxHeartbeats 1200000 in
theorem x_keep {Γ : gW} {gt : Option Nat} {M : gM} (hA : g_HG Γ gt) {n i : Int32} : CtX Γ yX5_keep μX5_keep 1 [.ref 0, .int n, .int i] M (g_qi (fun z M1 => M1 = M ∧ (1 ≤ n.toInt ∧ n.toInt ≤ 999) ∧ ∃ K : Nat, keepK n.toInt K ∧ ((0 ≤ i.toInt ∧ i.toInt < K ∧ z.toInt = keepW n.toInt i.toInt) ∨ (i.toInt = -1 ∧ z.toInt = K)))) (fun E M1 => iaeX M (¬ (1 ≤ n.toInt ∧ n.toInt ≤ 999)) E M1 ∨ nseX M ((1 ≤ n.toInt ∧ n.toInt ≤ 999) ∧ ∃ K : Nat, keepK n.toInt K ∧ ¬ (0 ≤ i.toInt ∧ i.toInt < K) ∧ ¬ i.toInt = -1) E M1) := by
  refine g_enterX rfl rfl rfl (Nat.le_of_ble_eq_true rfl) ?_
  show G Γ _ _ _ _ 0 [some (.ref 0), some (.int n), some (.int i), none, none, none] [] M
  refine g_aload_n0 dX5_keep_0 rfl ?_
  refine g_iload_n1 dX5_keep_1 rfl ?_
  refine g_callXv1 dX5_keep_2 rfl vX5_262 hA.1 rfl (x_reqN) (g_rmY (by omega)) (Nat.le_of_ble_eq_true rfl) (fun E M1 h => Or.inl h) (fun M2 e2 => ?_)
  obtain ⟨hMM, q2⟩ := e2
  subst M2
  refine g_iconstI dX5_keep_5 rfl rfl (fun w5 h5 => ?_)
  refine g_istore_n3 dX5_keep_6 rfl rfl ?_
  refine g_iconstI dX5_keep_7 rfl rfl (fun w7 h7 => ?_)
  refine g_istore4 dX5_keep_8 rfl rfl ?_
  exact lx_keep q2 _ 0 _ _ _ rfl (by omega) (by omega) (by rw [if_neg (by simp; omega)]; simp; omega) (Or.inl rfl) (by omega)
set_option maxHeartbeats 1200000 in
theorem lx_cutIn {Γ : gW} {gt : Option Nat} {M : gM} (hA : g_HG Γ gt) {T : gTw} (hT : tv M 100 = T) (hB : TB M 100) {p w : Int32} (hp : 0 ≤ p.toInt ∧ p.toInt < T 0 0) (hm : mayT T p.toInt.toNat) (hno : ∀ u, ¬ fitT T p.toInt.toNat u) {i : Int32} (hi : 0 ≤ i.toInt ∧ i.toInt < T 0 1) {q : Int × Int} (hq0 : 0 ≤ q.1 ∧ q.1 ≤ 100000) (hq1 : -1 ≤ q.2) {h : Int32} (hh : h.toInt = (mT T p.toInt.toNat i.toInt.toNat : Int)) {Q : Option Value → gM → Prop} (hk : ∀ (n f a : Int32), n.toInt = (cutIn (okT T p.toInt.toNat i.toInt.toNat) i.toInt.toNat (mT T p.toInt.toNat i.toInt.toNat) q).1 → f.toInt = (cutIn (okT T p.toInt.toNat i.toInt.toNat) i.toInt.toNat (mT T p.toInt.toNat i.toInt.toNat) q).2 → G Γ μX5_cut (g_RX 5) (0, 0) (g_Z Γ Q) 141 [some (.ref 0), some (.int p), some (.int w), some (.int n), some (.int f), some (.int i), some (.int h), some (.int a)] [] M) : ∀ (n9 : Nat) (n f a : Int32), (100 - a.toInt).toNat = n9 → 1 ≤ a.toInt → a.toInt ≤ (mT T p.toInt.toNat i.toInt.toNat : Int) + 1 → n.toInt = (cutIn (okT T p.toInt.toNat i.toInt.toNat) i.toInt.toNat (a.toInt.toNat - 1) q).1 → f.toInt = (cutIn (okT T p.toInt.toNat i.toInt.toNat) i.toInt.toNat (a.toInt.toNat - 1) q).2 → G Γ μX5_cut (g_RX 5) (0, 0) (g_Z Γ Q) 89 [some (.ref 0), some (.int p), some (.int w), some (.int n), some (.int f), some (.int i), some (.int h), some (.int a)] [] M := by
  intro n9
  induction n9 using Nat.strongRecOn with
  | ind n9 ih =>
    intro n f a hn ha1 ha2 hnn hff
    have hO : TOK T := by rw [← hT]; exact TOK.of hB
    have hb0 := hO.1
    have hb1 := hO.2.1
    have hp6 : p.toInt.toNat < 6 := by omega
    have t01 : (M.1 100 1).toInt = T 0 1 := by rw [← hT]; exact (tv0 (by decide)).symm
    have hmt := mT_le hO (p := p.toInt.toNat) (t := i.toInt.toNat) (by omega)
    have hcr := cutIn_rng (okT T p.toInt.toNat i.toInt.toNat) i.toInt.toNat (a.toInt.toNat - 1) q hq1
    refine g_iload7 dX5_cut_89 rfl ?_
    refine g_iload6 dX5_cut_91 rfl ?_
    refine g_icmp_gtI (t := 141) dX5_cut_93 (by decide) rfl (fun c93 => ?_) (fun c93 => ?_)
    · -- 93 t
      have hend : a.toInt.toNat - 1 = mT T p.toInt.toNat i.toInt.toNat := by omega
      rw [hend] at hnn hff
      exact hk _ _ _ hnn hff
    · -- 93 f
      have ean : ((a.toInt.toNat : Nat) : Int) = a.toInt := by omega
      have hbit : (hasT T p.toInt.toNat).testBit i.toInt.toNat = true := by
        cases hb : (hasT T p.toInt.toNat).testBit i.toInt.toNat with
        | true => rfl
        | false => rw [mT, hb] at hh; simp at hh; omega
      have hstep : cutIn (okT T p.toInt.toNat i.toInt.toNat) i.toInt.toNat a.toInt.toNat q = cutStep (okT T p.toInt.toNat i.toInt.toNat a.toInt.toNat) i.toInt.toNat a.toInt.toNat (cutIn (okT T p.toInt.toNat i.toInt.toNat) i.toInt.toNat (a.toInt.toNat - 1) q) := by
        obtain ⟨m, em⟩ : ∃ m, a.toInt.toNat = m + 1 := ⟨a.toInt.toNat - 1, by omega⟩
        rw [em, cutIn]; rfl
      refine g_aload_n0 dX5_cut_96 rfl ?_
      refine g_getr dX5_cut_97 rfl fX5_10 hA.1 rfl ?_
      refine g_iload_n1 dX5_cut_100 rfl ?_
      refine g_iload5 dX5_cut_101 rfl ?_
      refine g_iload7 dX5_cut_103 rfl ?_
      refine g_callVi3 dX5_cut_105 rfl vX5_258 (hg_town hA).1 rfl (c_cutHelps (hg_town hA) hB (by omega) (by omega) (by omega)) (g_rmX (by omega)) (Nat.le_of_ble_eq_true rfl) (fun z105 M105 e105 => ?_)
      obtain ⟨hMM, e105, f105⟩ := e105
      subst M105
      have h7 : (M.1 (100 + 7) i.toInt.toNat).toInt = T 7 i.toInt.toNat := by rw [← hT]; exact (tvw (f := 7) (Or.inl rfl) (by omega)).symm
      have hok : z105.toInt = 1 ↔ okT T p.toInt.toNat i.toInt.toNat a.toInt.toNat := by
        rw [f105, v_part hB hp6, v_part hB hp6, hT, part_fit (by omega) hm hbit hno, part_fit (by omega) hm hbit hno, h7, ← ean]; rfl
      clear f105
      refine g_if_eqI (t := 135) dX5_cut_108 (by decide) rfl (fun c108 => ?_) (fun c108 => ?_)
      · -- 108 t
        have hnok : ¬ okT T p.toInt.toNat i.toInt.toNat a.toInt.toNat := fun h => by have := hok.mpr h; omega
        clear hok
        rw [cutStep_no hnok] at hstep
        refine g_iincI7 dX5_cut_135 rfl rfl rfl ⟨by omega, by omega⟩ (fun w135 h135 => ?_)
        refine g_goto (t := 89) dX5_cut_138 (by decide) ?_
        have e1 : w135.toInt.toNat - 1 = a.toInt.toNat := by omega
        first
          | (have hz := hnok; exact ih _ (by omega) _ _ _ rfl (by omega) (by omega) (by rw [e1, hstep]; exact hnn) (by rw [e1, hstep]; exact hff))
          | (have hff2 := hff
             refine ih _ (by omega) _ _ _ rfl (by omega) (by omega) (by rw [e1, hstep]; show _ = (cutIn _ _ _ q).1 + 1; omega) ?_
             rw [e1, hstep]
             show _ = if (cutIn _ _ _ q).2 = -1 then _ else (cutIn _ _ _ q).2
             rw [← hff2]
             first
               | (have hz := h124; rw [if_pos (by omega)]; omega)
               | (rw [if_neg (by omega)]))
      · -- 108 f
        have hyes := hok.mp (by omega)
        clear hok
        rw [cutStep_yes hyes] at hstep
        refine g_iload4 dX5_cut_111 rfl ?_
        refine g_iconstI dX5_cut_113 rfl rfl (fun w113 h113 => ?_)
        refine g_icmp_neI (t := 128) dX5_cut_114 (by decide) rfl (fun c114 => ?_) (fun c114 => ?_)
        · -- 114 t
          refine g_iload4 dX5_cut_128 rfl ?_
          refine g_istore4 dX5_cut_130 rfl rfl ?_
          refine g_iincI3 dX5_cut_132 rfl rfl rfl ⟨by omega, by omega⟩ (fun w132 h132 => ?_)
          refine g_iincI7 dX5_cut_135 rfl rfl rfl ⟨by omega, by omega⟩ (fun w135 h135 => ?_)
          refine g_goto (t := 89) dX5_cut_138 (by decide) ?_
          have e1 : w135.toInt.toNat - 1 = a.toInt.toNat := by omega
          first
            | (have hz := hnok; exact ih _ (by omega) _ _ _ rfl (by omega) (by omega) (by rw [e1, hstep]; exact hnn) (by rw [e1, hstep]; exact hff))
            | (have hff2 := hff
               refine ih _ (by omega) _ _ _ rfl (by omega) (by omega) (by rw [e1, hstep]; show _ = (cutIn _ _ _ q).1 + 1; omega) ?_
               rw [e1, hstep]
               show _ = if (cutIn _ _ _ q).2 = -1 then _ else (cutIn _ _ _ q).2
               rw [← hff2]
               first
                 | (have hz := h124; rw [if_pos (by omega)]; omega)
                 | (rw [if_neg (by omega)]))
        · -- 114 f
          refine g_bipushI dX5_cut_117 rfl rfl (fun w117 h117 => ?_)
          refine g_iload5 dX5_cut_119 rfl ?_
          refine g_imulI dX5_cut_121 rfl ⟨by rw [h117]; omega, by rw [h117]; omega⟩ (fun w121 h121 => ?_)
          rw [h117] at h121
          refine g_iload7 dX5_cut_122 rfl ?_
          refine g_iaddI dX5_cut_124 rfl ⟨by omega, by omega⟩ (fun w124 h124 => ?_)
          refine g_goto (t := 130) dX5_cut_125 (by decide) ?_
          refine g_istore4 dX5_cut_130 rfl rfl ?_
          refine g_iincI3 dX5_cut_132 rfl rfl rfl ⟨by omega, by omega⟩ (fun w132 h132 => ?_)
          refine g_iincI7 dX5_cut_135 rfl rfl rfl ⟨by omega, by omega⟩ (fun w135 h135 => ?_)
          refine g_goto (t := 89) dX5_cut_138 (by decide) ?_
          have e1 : w135.toInt.toNat - 1 = a.toInt.toNat := by omega
          first
            | (have hz := hnok; exact ih _ (by omega) _ _ _ rfl (by omega) (by omega) (by rw [e1, hstep]; exact hnn) (by rw [e1, hstep]; exact hff))
            | (have hff2 := hff
               refine ih _ (by omega) _ _ _ rfl (by omega) (by omega) (by rw [e1, hstep]; show _ = (cutIn _ _ _ q).1 + 1; omega) ?_
               rw [e1, hstep]
               show _ = if (cutIn _ _ _ q).2 = -1 then _ else (cutIn _ _ _ q).2
               rw [← hff2]
               first
                 | (have hz := h124; rw [if_pos (by omega)]; omega)
                 | (rw [if_neg (by omega)]))
set_option maxHeartbeats 1200000 in
theorem lx_cutOut {Γ : gW} {gt : Option Nat} {M : gM} (hA : g_HG Γ gt) {T : gTw} (hT : tv M 100 = T) (hB : TB M 100) {p w : Int32} (hp : 0 ≤ p.toInt ∧ p.toInt < T 0 0) (hm : mayT T p.toInt.toNat) (hno : ∀ u, ¬ fitT T p.toInt.toNat u) {Q : Option Value → gM → Prop} (hk : ∀ (n f i : Int32) (z y : Option Value), n.toInt = (cutOut (okT T p.toInt.toNat) (fun t => if t < 12 then mT T p.toInt.toNat t else 0) (T 0 1).toNat).1 → f.toInt = (cutOut (okT T p.toInt.toNat) (fun t => if t < 12 then mT T p.toInt.toNat t else 0) (T 0 1).toNat).2 → G Γ μX5_cut (g_RX 5) (0, 0) (g_Z Γ Q) 147 [some (.ref 0), some (.int p), some (.int w), some (.int n), some (.int f), some (.int i), z, y] [] M) : ∀ (n9 : Nat) (n f i : Int32) (z y : Option Value), (T 0 1).toNat - i.toInt.toNat = n9 → 0 ≤ i.toInt → i.toInt ≤ T 0 1 → n.toInt = (cutOut (okT T p.toInt.toNat) (fun t => if t < 12 then mT T p.toInt.toNat t else 0) i.toInt.toNat).1 → f.toInt = (cutOut (okT T p.toInt.toNat) (fun t => if t < 12 then mT T p.toInt.toNat t else 0) i.toInt.toNat).2 → G Γ μX5_cut (g_RX 5) (0, 0) (g_Z Γ Q) 43 [some (.ref 0), some (.int p), some (.int w), some (.int n), some (.int f), some (.int i), z, y] [] M := by
  intro n9
  induction n9 using Nat.strongRecOn with
  | ind n9 ih =>
    intro n f i z y hn hi0 hi1 hnn hff
    have hO : TOK T := by rw [← hT]; exact TOK.of hB
    have hb0 := hO.1
    have hb1 := hO.2.1
    have hp6 : p.toInt.toNat < 6 := by omega
    have t01 : (M.1 100 1).toInt = T 0 1 := by rw [← hT]; exact (tv0 (by decide)).symm
    have hor := cutOut_rng (okT T p.toInt.toNat) (fun t => if t < 12 then mT T p.toInt.toNat t else 0) (fun t => by by_cases h : t < 12; (rw [if_pos h]; exact mT_le hO h); (rw [if_neg h]; omega)) i.toInt.toNat
    refine g_iload5 dX5_cut_43 rfl ?_
    refine g_aload_n0 dX5_cut_45 rfl ?_
    refine g_getr dX5_cut_46 rfl fX5_10 hA.1 rfl ?_
    refine g_geti dX5_cut_49 rfl fX5_116 (hg_town hA).1 rfl ?_
    refine g_icmp_geI (t := 147) dX5_cut_52 (by decide) rfl (fun c52 => ?_) (fun c52 => ?_)
    · -- 52 t
      exact hk _ _ _ _ _ (by rw [show (T 0 1).toNat = i.toInt.toNat by omega]; exact hnn) (by rw [show (T 0 1).toNat = i.toInt.toNat by omega]; exact hff)
    · -- 52 f
      have h7 : (M.1 (100 + 7) i.toInt.toNat).toInt = T 7 i.toInt.toNat := by rw [← hT]; exact (tvw (f := 7) (Or.inl rfl) (by omega)).symm
      have hb7 := (hO.2.2.2.2.2.2.2 i.toInt.toNat (by omega)).1
      refine g_aload_n0 dX5_cut_55 rfl ?_
      refine g_getr dX5_cut_56 rfl fX5_10 hA.1 rfl ?_
      refine g_iload_n1 dX5_cut_59 rfl ?_
      refine g_iload5 dX5_cut_60 rfl ?_
      refine g_callVi2 dX5_cut_62 rfl vX5_254 (hg_town hA).1 rfl (c_holds (hg_town hA) hB (by omega) (by omega)) (g_rmX (by omega)) (Nat.le_of_ble_eq_true rfl) (fun z62 M62 e62 => ?_)
      obtain ⟨hMM, e62⟩ := e62
      subst M62
      rw [v_has hB hp6, hT] at e62
      refine g_if_eqI (t := 83) dX5_cut_65 (by decide) rfl (fun c65 => ?_) (fun c65 => ?_)
      · -- 65 t
        refine g_iconstI dX5_cut_83 rfl rfl (fun w83 h83 => ?_)
        refine g_istore6 dX5_cut_84 rfl rfl ?_
        refine g_iconstI dX5_cut_86 rfl rfl (fun w86 h86 => ?_)
        refine g_istore7 dX5_cut_87 rfl rfl ?_
        refine lx_cutIn hA hT hB hp hm hno ⟨hi0, by omega⟩ (q := (cutOut (okT T p.toInt.toNat) (fun t => if t < 12 then mT T p.toInt.toNat t else 0) i.toInt.toNat)) (by omega) (by omega) ?_ (fun n1 f1 a1 hn1 hf1 => ?_) _ _ _ _ rfl (by omega) (by omega) (by rw [h86]; exact hnn) (by rw [h86]; exact hff)
        · rw [mT]
          first
            | (have hz := h79; rw [if_pos (by by_cases hb : (hasT T p.toInt.toNat).testBit i.toInt.toNat = true; exact hb; rw [if_neg hb] at e62; omega)]; omega)
            | (rw [if_neg (fun hb => by rw [if_pos hb] at e62; omega)]; exact h83)
        refine g_iincI5 dX5_cut_141 rfl rfl rfl ⟨by omega, by omega⟩ (fun w141 h141 => ?_)
        refine g_goto (t := 43) dX5_cut_144 (by decide) ?_
        have e1 : w141.toInt.toNat = i.toInt.toNat + 1 := by omega
        have e2 : (if i.toInt.toNat < 12 then mT T p.toInt.toNat i.toInt.toNat else 0) = mT T p.toInt.toNat i.toInt.toNat := if_pos (by omega)
        exact ih _ (by omega) _ _ _ _ _ rfl (by omega) (by omega) (by rw [e1, cutOut, e2]; exact hn1) (by rw [e1, cutOut, e2]; exact hf1)
      · -- 65 f
        refine g_aload_n0 dX5_cut_68 rfl ?_
        refine g_getr dX5_cut_69 rfl fX5_10 hA.1 rfl ?_
        refine g_getr dX5_cut_72 rfl fX5_159 (hg_town hA).1 rfl ?_
        refine g_iload5 dX5_cut_75 rfl ?_
        refine g_ialdI dX5_cut_77 rfl (tw_weight (hg_town hA)) ⟨by omega, by omega⟩ ?_
        refine g_iconstI dX5_cut_78 rfl rfl (fun w78 h78 => ?_)
        refine g_idivI dX5_cut_79 rfl ⟨by omega, by omega⟩ (fun w79 h79 => ?_)
        rw [h78, h7] at h79
        refine g_goto (t := 84) dX5_cut_80 (by decide) ?_
        refine g_istore6 dX5_cut_84 rfl rfl ?_
        refine g_iconstI dX5_cut_86 rfl rfl (fun w86 h86 => ?_)
        refine g_istore7 dX5_cut_87 rfl rfl ?_
        refine lx_cutIn hA hT hB hp hm hno ⟨hi0, by omega⟩ (q := (cutOut (okT T p.toInt.toNat) (fun t => if t < 12 then mT T p.toInt.toNat t else 0) i.toInt.toNat)) (by omega) (by omega) ?_ (fun n1 f1 a1 hn1 hf1 => ?_) _ _ _ _ rfl (by omega) (by omega) (by rw [h86]; exact hnn) (by rw [h86]; exact hff)
        · rw [mT]
          first
            | (have hz := h79; rw [if_pos (by by_cases hb : (hasT T p.toInt.toNat).testBit i.toInt.toNat = true; exact hb; rw [if_neg hb] at e62; omega)]; omega)
            | (rw [if_neg (fun hb => by rw [if_pos hb] at e62; omega)]; exact h83)
        refine g_iincI5 dX5_cut_141 rfl rfl rfl ⟨by omega, by omega⟩ (fun w141 h141 => ?_)
        refine g_goto (t := 43) dX5_cut_144 (by decide) ?_
        have e1 : w141.toInt.toNat = i.toInt.toNat + 1 := by omega
        have e2 : (if i.toInt.toNat < 12 then mT T p.toInt.toNat i.toInt.toNat else 0) = mT T p.toInt.toNat i.toInt.toNat := if_pos (by omega)
        exact ih _ (by omega) _ _ _ _ _ rfl (by omega) (by omega) (by rw [e1, cutOut, e2]; exact hn1) (by rw [e1, cutOut, e2]; exact hf1)
set_option maxHeartbeats 1200000 in
theorem x_cut {Γ : gW} {gt : Option Nat} {M : gM} (hA : g_HG Γ gt) {T : gTw} (hT : tv M 100 = T) (hB : TB M 100) {p w : Int32} : CtX Γ yX5_cut μX5_cut 5 [.ref 0, .int p, .int w] M (g_qi (fun z M1 => M1 = M ∧ (0 ≤ p.toInt ∧ p.toInt < T 0 0 ∧ 0 ≤ w.toInt ∧ w.toInt ≤ 1) ∧ (((mayT T p.toInt.toNat ∧ ¬ ∃ u, fitT T p.toInt.toNat u) ∧ z.toInt = if w.toInt = 0 then (cutOut (okT T p.toInt.toNat) (fun t => if t < 12 then mT T p.toInt.toNat t else 0) (T 0 1).toNat).1 else (cutOut (okT T p.toInt.toNat) (fun t => if t < 12 then mT T p.toInt.toNat t else 0) (T 0 1).toNat).2) ∨ (¬ (mayT T p.toInt.toNat ∧ ¬ ∃ u, fitT T p.toInt.toNat u) ∧ z.toInt = if w.toInt = 0 then 0 else -1)))) (nseX M (¬ (0 ≤ p.toInt ∧ p.toInt < T 0 0 ∧ 0 ≤ w.toInt ∧ w.toInt ≤ 1))) := by
  have hO : TOK T := by rw [← hT]; exact TOK.of hB
  have hb0 := hO.1
  have hb1 := hO.2.1
  have t00 : (M.1 100 0).toInt = T 0 0 := by rw [← hT]; exact (tv0 (by decide)).symm
  have t01 : (M.1 100 1).toInt = T 0 1 := by rw [← hT]; exact (tv0 (by decide)).symm
  refine g_enterX rfl rfl rfl (Nat.le_of_ble_eq_true rfl) ?_
  show G Γ _ _ _ _ 0 [some (.ref 0), some (.int p), some (.int w), none, none, none, none, none] [] M
  refine g_aload_n0 dX5_cut_0 rfl ?_
  refine g_iload_n1 dX5_cut_1 rfl ?_
  refine g_callXv1 dX5_cut_2 rfl vX5_132 hA.1 rfl (x_reqP hA t00) (g_rmY (by omega)) (Nat.le_of_ble_eq_true rfl) (fun E M1 h => ⟨h.1, h.2.1, by have := h.2.2; omega⟩) (fun M2 e2 => ?_)
  obtain ⟨hMM, q2⟩ := e2
  subst M2
  refine g_aload_n0 dX5_cut_5 rfl ?_
  refine g_iload_n2 dX5_cut_6 rfl ?_
  refine g_iconstI dX5_cut_7 rfl rfl (fun w7 h7 => ?_)
  refine g_callXv2 dX5_cut_8 rfl vX5_200 hA.1 rfl (x_reqW) (g_rmY (by omega)) (Nat.le_of_ble_eq_true rfl) (fun E M1 h => ⟨h.1, h.2.1, by have := h.2.2; omega⟩) (fun M8 e8 => ?_)
  obtain ⟨hMM, q8⟩ := e8
  subst M8
  refine g_iconstI dX5_cut_11 rfl rfl (fun w11 h11 => ?_)
  refine g_istore_n3 dX5_cut_12 rfl rfl ?_
  refine g_iconstI dX5_cut_13 rfl rfl (fun w13 h13 => ?_)
  refine g_istore4 dX5_cut_14 rfl rfl ?_
  refine g_aload_n0 dX5_cut_16 rfl ?_
  refine g_getr dX5_cut_17 rfl fX5_10 hA.1 rfl ?_
  refine g_iload_n1 dX5_cut_20 rfl ?_
  refine g_callVi1 dX5_cut_21 rfl vX5_251 (hg_town hA).1 rfl (c_mayAnswer (hg_town hA) hB (by omega)) (g_rmX (by omega)) (Nat.le_of_ble_eq_true rfl) (fun z21 M21 e21 => ?_)
  have hp6 : p.toInt.toNat < 6 := by omega
  obtain ⟨hMM, e21, f21⟩ := e21
  subst M21
  rw [v_may hp6, hT] at f21
  refine g_if_eqI (t := 147) dX5_cut_24 (by decide) rfl (fun c24 => ?_) (fun c24 => ?_)
  · -- 24 t
    have hcn : ¬ (mayT T p.toInt.toNat ∧ ¬ ∃ u, fitT T p.toInt.toNat u) := fun h => by have := f21.mpr h.1; omega
    clear f21
    refine g_iload_n2 dX5_cut_147 rfl ?_
    refine g_if_neI (t := 155) dX5_cut_148 (by decide) rfl (fun c148 => ?_) (fun c148 => ?_)
    · -- 148 t
      refine g_iload4 dX5_cut_155 rfl ?_
      refine g_toX ?_
      refine g_iret dX5_cut_157 rfl ?_
      refine ⟨_, rfl, rfl, by omega, Or.inr ⟨hcn, ?_⟩⟩
      first
        | (rw [if_pos (show w.toInt = 0 by omega)]; omega)
        | (rw [if_neg (show ¬ w.toInt = 0 by omega)]; omega)
    · -- 148 f
      refine g_iload_n3 dX5_cut_151 rfl ?_
      refine g_goto (t := 157) dX5_cut_152 (by decide) ?_
      refine g_toX ?_
      refine g_iret dX5_cut_157 rfl ?_
      refine ⟨_, rfl, rfl, by omega, Or.inr ⟨hcn, ?_⟩⟩
      first
        | (rw [if_pos (show w.toInt = 0 by omega)]; omega)
        | (rw [if_neg (show ¬ w.toInt = 0 by omega)]; omega)
  · -- 24 f
    have hm := f21.mp (by omega)
    clear f21
    refine g_aload_n0 dX5_cut_27 rfl ?_
    refine g_getr dX5_cut_28 rfl fX5_10 hA.1 rfl ?_
    refine g_iload_n1 dX5_cut_31 rfl ?_
    refine g_iconstI dX5_cut_32 rfl rfl (fun w32 h32 => ?_)
    refine g_callVi2 dX5_cut_33 rfl vX5_197 (hg_town hA).1 rfl (c_nextFit (hg_town hA) hB (by omega) (Or.inl h32)) (g_rmX (by omega)) (Nat.le_of_ble_eq_true rfl) (fun z33 M33 e33 => ?_)
    obtain ⟨hMM, e33⟩ := e33
    subst M33
    have hnx := nf_T hB hT hp6 e33
    clear e33
    rw [h32] at hnx
    refine g_iconstI dX5_cut_36 rfl rfl (fun w36 h36 => ?_)
    refine g_icmp_neI (t := 147) dX5_cut_37 (by decide) rfl (fun c37 => ?_) (fun c37 => ?_)
    · -- 37 t
      have hcn : ¬ (mayT T p.toInt.toNat ∧ ¬ ∃ u, fitT T p.toInt.toNat u) := by
        rcases hnx with ⟨h1, -⟩ | ⟨m2, -, -, h3, -⟩
        · exact absurd h1 (by omega)
        · exact fun h => h.2 ⟨m2, h3⟩
      clear hnx
      refine g_iload_n2 dX5_cut_147 rfl ?_
      refine g_if_neI (t := 155) dX5_cut_148 (by decide) rfl (fun c148 => ?_) (fun c148 => ?_)
      · -- 148 t
        refine g_iload4 dX5_cut_155 rfl ?_
        refine g_toX ?_
        refine g_iret dX5_cut_157 rfl ?_
        refine ⟨_, rfl, rfl, by omega, Or.inr ⟨hcn, ?_⟩⟩
        first
          | (rw [if_pos (show w.toInt = 0 by omega)]; omega)
          | (rw [if_neg (show ¬ w.toInt = 0 by omega)]; omega)
      · -- 148 f
        refine g_iload_n3 dX5_cut_151 rfl ?_
        refine g_goto (t := 157) dX5_cut_152 (by decide) ?_
        refine g_toX ?_
        refine g_iret dX5_cut_157 rfl ?_
        refine ⟨_, rfl, rfl, by omega, Or.inr ⟨hcn, ?_⟩⟩
        first
          | (rw [if_pos (show w.toInt = 0 by omega)]; omega)
          | (rw [if_neg (show ¬ w.toInt = 0 by omega)]; omega)
    · -- 37 f
      have hno : ∀ u, ¬ fitT T p.toInt.toNat u := by
        rcases hnx with ⟨-, h2⟩ | ⟨m2, h1, -⟩
        · exact fun u => h2 u (by omega)
        · omega
      clear hnx
      refine g_iconstI dX5_cut_40 rfl rfl (fun w40 h40 => ?_)
      refine g_istore5 dX5_cut_41 rfl rfl ?_
      refine g_toX ?_
      refine lx_cutOut hA hT hB (by omega) hm hno (fun n1 f1 i1 y1 y2 hn1 hf1 => ?_) _ _ _ _ _ _ rfl (by omega) (by omega) (by rw [h40]; exact h11) (by rw [h40]; exact h13)
      refine g_iload_n2 dX5_cut_147 rfl ?_
      refine g_if_neI (t := 155) dX5_cut_148 (by decide) rfl (fun c148 => ?_) (fun c148 => ?_)
      · -- 148 t
        refine g_iload4 dX5_cut_155 rfl ?_
        refine g_iret dX5_cut_157 rfl ?_
        refine ⟨_, rfl, rfl, by omega, Or.inl ⟨⟨hm, fun h => h.elim hno⟩, ?_⟩⟩
        first
          | (rw [if_pos (show w.toInt = 0 by omega)]; exact hn1)
          | (rw [if_neg (show ¬ w.toInt = 0 by omega)]; exact hf1)
      · -- 148 f
        refine g_iload_n3 dX5_cut_151 rfl ?_
        refine g_goto (t := 157) dX5_cut_152 (by decide) ?_
        refine g_iret dX5_cut_157 rfl ?_
        refine ⟨_, rfl, rfl, by omega, Or.inl ⟨⟨hm, fun h => h.elim hno⟩, ?_⟩⟩
        first
          | (rw [if_pos (show w.toInt = 0 by omega)]; exact hn1)
          | (rw [if_neg (show ¬ w.toInt = 0 by omega)]; exact hf1)
