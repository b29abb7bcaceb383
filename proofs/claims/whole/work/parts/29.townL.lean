def mx (a b : Int) : Int := if a < b then b else a
def offS (M : gM) (t p u : Nat) : Int := mx 0 (mx (wt M t u - (M.1 (t + 4) p).toInt) ((M.1 (t + 4) p).toInt - (wt M t u + (M.1 (t + 3) p).toInt)))
def posS (M : gM) (t p u : Nat) : Prop := 0 < wt M t u + (M.1 (t + 3) p).toInt
def nearP (P : Nat → Prop) (pos : Nat → Prop) (off : Nat → Int) (z : Int) : Prop := (z = -1 ∧ ∀ u, P u → ¬ pos u) ∨ ∃ u, P u ∧ pos u ∧ z = off u ∧ ∀ u', P u' → pos u' → off u ≤ off u'
theorem offS_pos {M : gM} {t p u : Nat} : 0 ≤ offS M t p u := by rw [offS, mx]; split <;> omega
theorem near_no {P P' pos : Nat → Prop} {off : Nat → Int} {z : Int} {n : Nat} (h : nearP P pos off z) (hP : ∀ u, P' u ↔ P u ∨ u = n) (hn : ¬ pos n) : nearP P' pos off z := by
  rcases h with ⟨rfl, h⟩ | ⟨u, h1, h2, h3, h4⟩
  · refine Or.inl ⟨rfl, fun u hu => ?_⟩
    rcases (hP u).mp hu with hu | rfl
    · exact h u hu
    · exact hn
  · refine Or.inr ⟨u, (hP u).mpr (Or.inl h1), h2, h3, fun u' hu' hp => ?_⟩
    rcases (hP u').mp hu' with hu | rfl
    · exact h4 u' hu hp
    · exact absurd hp hn
theorem near_yes {P P' pos : Nat → Prop} {off : Nat → Int} {z z' : Int} {n : Nat} (h : nearP P pos off z) (hP : ∀ u, P' u ↔ P u ∨ u = n) (hn : pos n) (h0 : ∀ u, 0 ≤ off u) (hz : z' = if z = -1 then off n else if off n < z then off n else z) : nearP P' pos off z' := by
  rcases h with ⟨rfl, h⟩ | ⟨u, h1, h2, h3, h4⟩
  · rw [if_pos rfl] at hz
    refine Or.inr ⟨n, (hP n).mpr (Or.inr rfl), hn, hz, fun u' hu' hp => ?_⟩
    rcases (hP u').mp hu' with hu | rfl
    · exact absurd hp (h u' hu)
    · exact Int.le_refl _
  · have := h0 u
    rw [if_neg (by omega)] at hz
    by_cases hlt : off n < z
    · rw [if_pos hlt] at hz
      refine Or.inr ⟨n, (hP n).mpr (Or.inr rfl), hn, hz, fun u' hu' hp => ?_⟩
      rcases (hP u').mp hu' with hu | rfl
      · have := h4 u' hu hp; omega
      · exact Int.le_refl _
    · rw [if_neg hlt] at hz
      refine Or.inr ⟨u, (hP u).mpr (Or.inl h1), h2, by omega, fun u' hu' hp => ?_⟩
      rcases (hP u').mp hu' with hu | rfl
      · exact h4 u' hu hp
      · omega
theorem near_congr {P P' pos : Nat → Prop} {off : Nat → Int} {z : Int} (h : nearP P pos off z) (hP : ∀ u, P' u ↔ P u) : nearP P' pos off z := by
  rcases h with ⟨rfl, h⟩ | ⟨u, h1, h2, h3, h4⟩
  · exact Or.inl ⟨rfl, fun u hu => h u ((hP u).mp hu)⟩
  · exact Or.inr ⟨u, (hP u).mpr h1, h2, h3, fun u' hu' => h4 u' ((hP u').mp hu')⟩
def nearS (M : gM) (t p : Nat) (z : Int) : Prop := nearP (fun u => sub u (has M t p)) (posS M t p) (offS M t p) z
set_option maxHeartbeats 4000000 in
theorem l_nearest {Γ : gW} {t : Nat} {M : gM} (hT : g_Town Γ t) (hB : TB M t) {p : Int32} (hp : 0 ≤ p.toInt ∧ p.toInt < 6) {Q : Option Value → gM → Prop} (hQ : ∀ z : Int32, nearS M t p.toInt.toNat z.toInt → Q (some (.int z)) M) : ∀ (n : Nat) (b s k : Int32) (z5 z6 z7 : Option Value), 4096 - bn s = n → 0 ≤ k.toInt → k.toInt ≤ bn s → sub (bn s) (has M t p.toInt.toNat) → -1 ≤ b.toInt → nearP (fun u => sub u (has M t p.toInt.toNat) ∧ u < bn s) (posS M t p.toInt.toNat) (offS M t p.toInt.toNat) b.toInt → G Γ μX3_nearestOff (g_R 1) (0, 0) (g_Z Γ Q) 7 [some (.ref t), some (.int p), some (.int b), some (.int s), some (.int k), z5, z6, z7] [] M := by
  intro n
  induction n using Nat.strongRecOn with
  | ind n ih =>
    intro b s k z5 z6 z7 hn hk0 hk1 hs hb hnear
    have hb0 := hB.1
    obtain ⟨h_pe, h_th, h_la, h_wi, h_da, h_we⟩ := id hb0
    have hb1 := hB.2.1 p.toInt.toNat (by omega)
    obtain ⟨h_k, h_g, h_s, h_o, h_ot, h_h⟩ := id hb1
    have ehas : ((has M t p.toInt.toNat : Nat) : Int) = (M.1 (t + 6) p.toInt.toNat).toInt := i_bn2 (by omega)
    have hsle := sub_le hs
    have es : s.toInt = bn s := i_bn (by omega)
    have enat : s.toInt.toNat = bn s := by omega
    refine g_iload4 dX3_nearestOff_7 rfl ?_
    refine g_sipushI dX3_nearestOff_9 rfl rfl (fun w9 h9 => ?_)
    refine g_icmp_geI (t := 105) dX3_nearestOff_12 (by decide) rfl (fun c12 => absurd c12 (by omega)) (fun c12 => ?_)
    refine g_aload_n0 dX3_nearestOff_15 rfl ?_
    refine g_iload_n3 dX3_nearestOff_16 rfl ?_
    refine g_callVi1 dX3_nearestOff_17 rfl vX3_80 hT.1 rfl (c_weightOf hT hB ⟨by omega, by omega⟩) (g_rm (by omega)) (Nat.le_of_ble_eq_true rfl) (fun z17 M17 e17 => ?_)
    obtain ⟨rfl, e17⟩ := e17
    rw [enat] at e17
    have hwr := wt_rng (s := bn s) hB
    have hPn : ∀ u, (sub u (has _ t p.toInt.toNat) ∧ u ≤ bn s) ↔ (sub u (has _ t p.toInt.toNat) ∧ u < bn s) ∨ u = bn s := fun u => by
      constructor
      · rintro ⟨a1, a2⟩
        rcases Nat.lt_or_ge u (bn s) with h | h
        · exact Or.inl ⟨a1, h⟩
        · exact Or.inr (by omega)
      · rintro (⟨a1, a2⟩ | rfl)
        · exact ⟨a1, by omega⟩
        · exact ⟨hs, Nat.le_refl _⟩
    refine g_istore5 dX3_nearestOff_20 rfl rfl ?_
    refine g_iload5 dX3_nearestOff_22 rfl ?_
    refine g_aload_n0 dX3_nearestOff_24 rfl ?_
    refine g_getr dX3_nearestOff_25 rfl fX3_37 hT.1 rfl ?_
    refine g_iload_n1 dX3_nearestOff_28 rfl ?_
    refine g_ialdI dX3_nearestOff_29 rfl (tw_sand hT) ⟨by omega, by omega⟩ ?_
    refine g_iaddI dX3_nearestOff_30 rfl ⟨by omega, by omega⟩ (fun w30 h30 => ?_)
    refine g_istore6 dX3_nearestOff_31 rfl rfl ?_
    refine g_iload6 dX3_nearestOff_33 rfl ?_
    refine g_if_leI (t := 82) dX3_nearestOff_35 (by decide) rfl (fun c35 => ?_) (fun c35 => ?_)
    · -- 35 t
      have hnb := near_no hnear hPn (fun h => by have : 0 < wt _ t (bn s) + _ := h; omega)
      refine g_aload_n0 dX3_nearestOff_82 rfl ?_
      refine g_getr dX3_nearestOff_83 rfl fX3_46 hT.1 rfl ?_
      refine g_iload_n1 dX3_nearestOff_86 rfl ?_
      refine g_ialdI dX3_nearestOff_87 rfl (tw_has hT) ⟨by omega, by omega⟩ ?_
      refine g_iload_n3 dX3_nearestOff_88 rfl ?_
      refine g_callSi2 dX3_nearestOff_89 rfl sX3_104 (c_stepUp) (g_rm (by omega)) (Nat.le_of_ble_eq_true rfl) (fun z89 M89 e89 => ?_)
      obtain ⟨rfl, e89⟩ := e89
      have e89 : bn z89 = stp (has M89 t p.toInt.toNat) (bn s) := e89
      have hlt5 := sub_le (stp_sub (has M89 t p.toInt.toNat) (bn s))
      have hz : z89.toInt = bn z89 := i_bn (by omega)
      refine g_istore_n3 dX3_nearestOff_92 rfl rfl ?_
      refine g_iload_n3 dX3_nearestOff_93 rfl ?_
      refine g_if_neI (t := 99) dX3_nearestOff_94 (by decide) rfl (fun c94 => ?_) (fun c94 => ?_)
      · -- 94 t
        refine g_iincI4 dX3_nearestOff_99 rfl rfl rfl ⟨by omega, by omega⟩ (fun w99 h99 => ?_)
        refine g_goto (t := 7) dX3_nearestOff_102 (by decide) ?_
        have hne := stp_ne (o := has M89 t p.toInt.toNat) (by omega) hs (by omega)
        have hgt := stp_gt (by omega) hs hne
        have hbn := @offS_pos M89 t p.toInt.toNat (bn s)
        exact ih _ (by omega) _ _ _ _ _ _ rfl (by omega) (by omega) (by rw [e89]; exact stp_sub _ _) (by omega) (near_congr hnb (fun u => ⟨fun hu => ⟨hu.1, by rcases Nat.lt_or_ge (bn s) u with h | h; (have := stp_least (by omega) hs hu.1 h; omega); exact h⟩, fun hu => ⟨hu.1, by omega⟩⟩))
      · -- 94 f
        refine g_iload_n2 dX3_nearestOff_97 rfl ?_
        refine g_iret dX3_nearestOff_98 rfl ?_
        refine hQ _ (near_congr hnb (fun u => ⟨fun hu => ⟨hu, ?_⟩, fun hu => hu.1⟩))
        rcases Nat.lt_or_ge (bn s) u with h | h
        · have h1 := stp_least (by omega) hs hu h
          have h2 : bn s ≠ has M89 t p.toInt.toNat := fun e => by have := sub_le hu; omega
          have h3 := stp_gt (by omega) hs h2
          omega
        · exact h
    · -- 35 f
      refine g_iconstI dX3_nearestOff_38 rfl rfl (fun w38 h38 => ?_)
      refine g_iload5 dX3_nearestOff_39 rfl ?_
      refine g_aload_n0 dX3_nearestOff_41 rfl ?_
      refine g_getr dX3_nearestOff_42 rfl fX3_40 hT.1 rfl ?_
      refine g_iload_n1 dX3_nearestOff_45 rfl ?_
      refine g_ialdI dX3_nearestOff_46 rfl (tw_owed hT) ⟨by omega, by omega⟩ ?_
      refine g_isubI dX3_nearestOff_47 rfl ⟨by omega, by omega⟩ (fun w47 h47 => ?_)
      refine g_aload_n0 dX3_nearestOff_48 rfl ?_
      refine g_getr dX3_nearestOff_49 rfl fX3_40 hT.1 rfl ?_
      refine g_iload_n1 dX3_nearestOff_52 rfl ?_
      refine g_ialdI dX3_nearestOff_53 rfl (tw_owed hT) ⟨by omega, by omega⟩ ?_
      refine g_iload6 dX3_nearestOff_54 rfl ?_
      refine g_isubI dX3_nearestOff_56 rfl ⟨by omega, by omega⟩ (fun w56 h56 => ?_)
      refine g_mmaxI dX3_nearestOff_57 rfl jX3_90 jm_max_s jm_i jm_max_c ⟨by show 1 ≤ _ + 1; omega, by show _ ≤ 40 + 50 * _; simp [Value.category] <;> omega⟩ (fun w57 h57 => ?_)
      refine g_mmaxI dX3_nearestOff_60 rfl jX3_90 jm_max_s jm_i jm_max_c ⟨by show 1 ≤ _ + 1; omega, by show _ ≤ 40 + 50 * _; simp [Value.category] <;> omega⟩ (fun w60 h60 => ?_)
      have hoff : w60.toInt = offS M17 t p.toInt.toNat (bn s) := by
        rw [offS, mx, mx, ← e17]
        rw [h60, h57, h47, h56, h30, h38]
      refine g_istore7 dX3_nearestOff_63 rfl rfl ?_
      refine g_iload_n2 dX3_nearestOff_65 rfl ?_
      refine g_iconstI dX3_nearestOff_66 rfl rfl (fun w66 h66 => ?_)
      refine g_icmp_neI (t := 75) dX3_nearestOff_67 (by decide) rfl (fun c67 => ?_) (fun c67 => ?_)
      · -- 67 t
        refine g_iload_n2 dX3_nearestOff_75 rfl ?_
        refine g_iload7 dX3_nearestOff_76 rfl ?_
        refine g_mminI dX3_nearestOff_78 rfl jX3_143 jm_min_s jm_i jm_min_c ⟨by show 1 ≤ _ + 1; omega, by show _ ≤ 40 + 50 * _; simp [Value.category] <;> omega⟩ (fun w78 h78 => ?_)
        have hnb := near_yes hnear hPn (show 0 < wt _ t (bn s) + _ by omega) (fun u => offS_pos) (z' := w78.toInt) (by rw [if_neg (by omega), ← hoff, h78])
        have hb78 : -1 ≤ w78.toInt := by have := @offS_pos M17 t p.toInt.toNat (bn s); rw [h78]; split <;> omega
        refine g_istore_n2 dX3_nearestOff_81 rfl rfl ?_
        refine g_aload_n0 dX3_nearestOff_82 rfl ?_
        refine g_getr dX3_nearestOff_83 rfl fX3_46 hT.1 rfl ?_
        refine g_iload_n1 dX3_nearestOff_86 rfl ?_
        refine g_ialdI dX3_nearestOff_87 rfl (tw_has hT) ⟨by omega, by omega⟩ ?_
        refine g_iload_n3 dX3_nearestOff_88 rfl ?_
        refine g_callSi2 dX3_nearestOff_89 rfl sX3_104 (c_stepUp) (g_rm (by omega)) (Nat.le_of_ble_eq_true rfl) (fun z89 M89 e89 => ?_)
        obtain ⟨rfl, e89⟩ := e89
        have e89 : bn z89 = stp (has M89 t p.toInt.toNat) (bn s) := e89
        have hlt5 := sub_le (stp_sub (has M89 t p.toInt.toNat) (bn s))
        have hz : z89.toInt = bn z89 := i_bn (by omega)
        refine g_istore_n3 dX3_nearestOff_92 rfl rfl ?_
        refine g_iload_n3 dX3_nearestOff_93 rfl ?_
        refine g_if_neI (t := 99) dX3_nearestOff_94 (by decide) rfl (fun c94 => ?_) (fun c94 => ?_)
        · -- 94 t
          refine g_iincI4 dX3_nearestOff_99 rfl rfl rfl ⟨by omega, by omega⟩ (fun w99 h99 => ?_)
          refine g_goto (t := 7) dX3_nearestOff_102 (by decide) ?_
          have hne := stp_ne (o := has M89 t p.toInt.toNat) (by omega) hs (by omega)
          have hgt := stp_gt (by omega) hs hne
          have hbn := @offS_pos M89 t p.toInt.toNat (bn s)
          exact ih _ (by omega) _ _ _ _ _ _ rfl (by omega) (by omega) (by rw [e89]; exact stp_sub _ _) (by omega) (near_congr hnb (fun u => ⟨fun hu => ⟨hu.1, by rcases Nat.lt_or_ge (bn s) u with h | h; (have := stp_least (by omega) hs hu.1 h; omega); exact h⟩, fun hu => ⟨hu.1, by omega⟩⟩))
        · -- 94 f
          refine g_iload_n2 dX3_nearestOff_97 rfl ?_
          refine g_iret dX3_nearestOff_98 rfl ?_
          refine hQ _ (near_congr hnb (fun u => ⟨fun hu => ⟨hu, ?_⟩, fun hu => hu.1⟩))
          rcases Nat.lt_or_ge (bn s) u with h | h
          · have h1 := stp_least (by omega) hs hu h
            have h2 : bn s ≠ has M89 t p.toInt.toNat := fun e => by have := sub_le hu; omega
            have h3 := stp_gt (by omega) hs h2
            omega
          · exact h
      · -- 67 f
        refine g_iload7 dX3_nearestOff_70 rfl ?_
        have hnb := near_yes hnear hPn (show 0 < wt _ t (bn s) + _ by omega) (fun u => offS_pos) (z' := w60.toInt) (by rw [if_pos (by omega), hoff])
        refine g_goto (t := 81) dX3_nearestOff_72 (by decide) ?_
        refine g_istore_n2 dX3_nearestOff_81 rfl rfl ?_
        refine g_aload_n0 dX3_nearestOff_82 rfl ?_
        refine g_getr dX3_nearestOff_83 rfl fX3_46 hT.1 rfl ?_
        refine g_iload_n1 dX3_nearestOff_86 rfl ?_
        refine g_ialdI dX3_nearestOff_87 rfl (tw_has hT) ⟨by omega, by omega⟩ ?_
        refine g_iload_n3 dX3_nearestOff_88 rfl ?_
        refine g_callSi2 dX3_nearestOff_89 rfl sX3_104 (c_stepUp) (g_rm (by omega)) (Nat.le_of_ble_eq_true rfl) (fun z89 M89 e89 => ?_)
        obtain ⟨rfl, e89⟩ := e89
        have e89 : bn z89 = stp (has M89 t p.toInt.toNat) (bn s) := e89
        have hlt5 := sub_le (stp_sub (has M89 t p.toInt.toNat) (bn s))
        have hz : z89.toInt = bn z89 := i_bn (by omega)
        refine g_istore_n3 dX3_nearestOff_92 rfl rfl ?_
        refine g_iload_n3 dX3_nearestOff_93 rfl ?_
        refine g_if_neI (t := 99) dX3_nearestOff_94 (by decide) rfl (fun c94 => ?_) (fun c94 => ?_)
        · -- 94 t
          refine g_iincI4 dX3_nearestOff_99 rfl rfl rfl ⟨by omega, by omega⟩ (fun w99 h99 => ?_)
          refine g_goto (t := 7) dX3_nearestOff_102 (by decide) ?_
          have hne := stp_ne (o := has M89 t p.toInt.toNat) (by omega) hs (by omega)
          have hgt := stp_gt (by omega) hs hne
          have hbn := @offS_pos M89 t p.toInt.toNat (bn s)
          exact ih _ (by omega) _ _ _ _ _ _ rfl (by omega) (by omega) (by rw [e89]; exact stp_sub _ _) (by omega) (near_congr hnb (fun u => ⟨fun hu => ⟨hu.1, by rcases Nat.lt_or_ge (bn s) u with h | h; (have := stp_least (by omega) hs hu.1 h; omega); exact h⟩, fun hu => ⟨hu.1, by omega⟩⟩))
        · -- 94 f
          refine g_iload_n2 dX3_nearestOff_97 rfl ?_
          refine g_iret dX3_nearestOff_98 rfl ?_
          refine hQ _ (near_congr hnb (fun u => ⟨fun hu => ⟨hu, ?_⟩, fun hu => hu.1⟩))
          rcases Nat.lt_or_ge (bn s) u with h | h
          · have h1 := stp_least (by omega) hs hu h
            have h2 : bn s ≠ has M89 t p.toInt.toNat := fun e => by have := sub_le hu; omega
            have h3 := stp_gt (by omega) hs h2
            omega
          · exact h
set_option maxHeartbeats 4000000 in
theorem c_nearest {Γ : gW} {t : Nat} {M : gM} (hT : g_Town Γ t) (hB : TB M t) {p : Int32} (hp : 0 ≤ p.toInt ∧ p.toInt < 6) : Ct Γ yX3_nearestOff μX3_nearestOff 1 [.ref t, .int p] M (g_qi (fun z M1 => M1 = M ∧ nearS M t p.toInt.toNat z.toInt)) := by
  have hb0 := hB.1
  obtain ⟨h_pe, h_th, h_la, h_wi, h_da, h_we⟩ := id hb0
  have hb1 := hB.2.1 p.toInt.toNat (by omega)
  obtain ⟨h_k, h_g, h_s, h_o, h_ot, h_h⟩ := id hb1
  refine g_enter rfl rfl rfl (Nat.le_of_ble_eq_true rfl) ?_
  show G Γ _ _ _ _ 0 [some (.ref t), some (.int p), none, none, none, none, none, none] [] M
  refine g_iconstI dX3_nearestOff_0 rfl rfl (fun w0 h0 => ?_)
  refine g_istore_n2 dX3_nearestOff_1 rfl rfl ?_
  refine g_iconstI dX3_nearestOff_2 rfl rfl (fun w2 h2 => ?_)
  refine g_istore_n3 dX3_nearestOff_3 rfl rfl ?_
  refine g_iconstI dX3_nearestOff_4 rfl rfl (fun w4 h4 => ?_)
  refine g_istore4 dX3_nearestOff_5 rfl rfl ?_
  have b0 := bn_lit (n := 0) h2
  exact l_nearest hT hB hp (fun z hz => ⟨_, rfl, rfl, hz⟩) _ _ _ _ _ _ _ rfl (by omega) (by omega) (by rw [b0]; exact sub_zero _) (by omega) (Or.inl ⟨h0, fun u hu => by omega⟩)
theorem fst_rng (P : Nat → Bool) : ∀ (n k : Nat), fstP P n k = -1 ∨ ∃ m : Nat, fstP P n k = (m : Int) ∧ k ≤ m ∧ m < k + n ∧ P m = true := by
  intro n
  induction n with
  | zero => intro k; exact Or.inl rfl
  | succ n ih =>
    intro k
    rw [fstP]
    by_cases h : P k = true
    · rw [if_pos h]; exact Or.inr ⟨k, rfl, Nat.le_refl _, by omega, h⟩
    · rw [if_neg h]
      rcases ih (k + 1) with h1 | ⟨m, h1, h2, h3, h4⟩
      · exact Or.inl h1
      · exact Or.inr ⟨m, h1, by omega, by omega, h4⟩
theorem taker_rng {M : gM} {t p : Nat} (hB : TB M t) (hp : p < 6) : 0 ≤ taker M t p ∧ taker M t p < 6 := by
  have h1 := (hB.2.1 p hp).2.2.2.2.1
  have h2 := hB.1.1
  have h3 := fst_rng (fun q => (has M t q).testBit (M.1 (t + 2) p).toInt.toNat) (M.1 t 0).toInt.toNat 0
  have h4 : hold M t (M.1 (t + 2) p).toInt.toNat = -1 ∨ (0 ≤ hold M t (M.1 (t + 2) p).toInt.toNat ∧ hold M t (M.1 (t + 2) p).toInt.toNat < 6) := by
    rcases h3 with h | ⟨m, h, -, h5, -⟩
    · exact Or.inl h
    · right; rw [hold, h]; omega
  rw [taker]
  split
  · omega
  · split
    · omega
    · split <;> omega
theorem sandOf_rng {M : gM} {t p s : Nat} (hB : TB M t) (hp : p < 6) : 0 ≤ sandOf M t p s ∧ sandOf M t p s ≤ 2000 := by
  have h1 := lgt_rng hB hp
  have h2 := wt_rng (s := s) hB
  rw [sandOf]; split <;> omega
/-- p gives the set n by his choice: the memory behind it -/
def gaveM (M M1 : gM) (t p n : Nat) : Prop := ∃ s sd v k : Int32, s.toInt = (n : Int) ∧ sd.toInt = sandOf M t p n ∧ v.toInt = wt M t n + sandOf M t p n ∧ k.toInt = taker M t p ∧ M1 = giftM M t p s sd v (taker M t p).toNat
theorem chosen_sub {M : gM} {t p n : Nat} (h : chosen M t p (n : Int)) : selS M t p n := by
  rcases h with ⟨h, -⟩ | ⟨m, h, h1, -⟩
  · omega
  · have : n = m := by omega
    subst this; exact h1
set_option maxHeartbeats 4000000 in
theorem c_giveByChoice {Γ : gW} {t : Nat} {M : gM} (hT : g_Town Γ t) (hB : TB M t) {p : Int32} (hp : 0 ≤ p.toInt ∧ p.toInt < 6) : Ct Γ yX3_giveByChoice μX3_giveByChoice 4 [.ref t, .int p] M (g_qi (fun z M1 => (z.toInt = 0 ∧ M1 = M ∧ chosen M t p.toInt.toNat (-1)) ∨ (z.toInt = 1 ∧ ∃ n : Nat, chosen M t p.toInt.toNat (n : Int) ∧ gaveM M M1 t p.toInt.toNat n))) := by
  have hb0 := hB.1
  obtain ⟨h_pe, h_th, h_la, h_wi, h_da, h_we⟩ := id hb0
  have hb1 := hB.2.1 p.toInt.toNat (by omega)
  obtain ⟨h_k, h_g, h_s, h_o, h_ot, h_h⟩ := id hb1
  have ehas : ((has M t p.toInt.toNat : Nat) : Int) = (M.1 (t + 6) p.toInt.toNat).toInt := i_bn2 (by omega)
  refine g_enter rfl rfl rfl (Nat.le_of_ble_eq_true rfl) ?_
  show G Γ _ _ _ _ 0 [some (.ref t), some (.int p), none] [] M
  refine g_aload_n0 dX3_giveByChoice_0 rfl ?_
  refine g_iload_n1 dX3_giveByChoice_1 rfl ?_
  refine g_callVi1 dX3_giveByChoice_2 rfl vX3_131 hT.1 rfl (c_chosenSet hT hB hp) (g_rm (by omega)) (Nat.le_of_ble_eq_true rfl) (fun z2 M2 e2 => ?_)
  obtain ⟨rfl, e2⟩ := e2
  refine g_istore_n2 dX3_giveByChoice_5 rfl rfl ?_
  refine g_iload_n2 dX3_giveByChoice_6 rfl ?_
  refine g_iconstI dX3_giveByChoice_7 rfl rfl (fun w7 h7 => ?_)
  refine g_icmp_neI (t := 13) dX3_giveByChoice_8 (by decide) rfl (fun c8 => ?_) (fun c8 => ?_)
  · -- 8 t
    obtain ⟨n, en, hsn, -⟩ := e2.resolve_left (fun h => by omega)
    have hch : chosen M2 t p.toInt.toNat (n : Int) := by rw [← en]; exact e2
    have hnle := sub_le (chosen_sub hch).1.2.1
    have enn : z2.toInt.toNat = n := by omega
    refine g_aload_n0 dX3_giveByChoice_13 rfl ?_
    refine g_iload_n1 dX3_giveByChoice_14 rfl ?_
    refine g_iload_n2 dX3_giveByChoice_15 rfl ?_
    refine g_aload_n0 dX3_giveByChoice_16 rfl ?_
    refine g_iload_n1 dX3_giveByChoice_17 rfl ?_
    refine g_iload_n2 dX3_giveByChoice_18 rfl ?_
    refine g_callVi2 dX3_giveByChoice_19 rfl vX3_134 hT.1 rfl (c_sandFor hT hB hp ⟨by omega, by omega⟩) (g_rm (by omega)) (Nat.le_of_ble_eq_true rfl) (fun z19 M19 e19 => ?_)
    obtain ⟨rfl, e19⟩ := e19
    rw [enn] at e19
    have hsr := sandOf_rng (p := p.toInt.toNat) (s := n) hB (by omega)
    refine g_aload_n0 dX3_giveByChoice_22 rfl ?_
    refine g_iload_n1 dX3_giveByChoice_23 rfl ?_
    refine g_callVi1 dX3_giveByChoice_24 rfl vX3_137 hT.1 rfl (c_takerFor hT hB hp) (g_rm (by omega)) (Nat.le_of_ble_eq_true rfl) (fun z24 M24 e24 => ?_)
    obtain ⟨rfl, e24⟩ := e24
    have htr := taker_rng (p := p.toInt.toNat) hB (by omega)
    refine g_callVv4 dX3_giveByChoice_27 rfl vX3_140 hT.1 rfl (c_makeGift hT (TBw.of hB) hp ⟨by omega, by omega⟩ ⟨by omega, by omega⟩ ⟨by omega, by omega⟩) (g_rm (by omega)) (Nat.le_of_ble_eq_true rfl) (fun M27 e27 => ?_)
    refine g_iconstI dX3_giveByChoice_30 rfl rfl (fun w30 h30 => ?_)
    refine g_zretI dX3_giveByChoice_31 rfl (by omega) ?_
    obtain ⟨v, hv, rfl⟩ := e27
    refine ⟨_, rfl, Or.inr ⟨by omega, n, hch, z2, z19, v, z24, by omega, e19, by rw [hv, enn, e19], e24, ?_⟩⟩
    rw [e24]
  · -- 8 f
    refine g_iconstI dX3_giveByChoice_11 rfl rfl (fun w11 h11 => ?_)
    refine g_zretI dX3_giveByChoice_12 rfl (by omega) ?_
    refine ⟨_, rfl, Or.inl ⟨by omega, rfl, ?_⟩⟩
    rw [show (-1 : Int) = z2.toInt by omega]; exact e2
