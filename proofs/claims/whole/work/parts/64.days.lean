/-! the town with its book: T, the number of gifts, the gifts' rows -/
abbrev gSt : Type := gTw × Nat × (Nat → Nat → Int)
def bkT (T : gTw) (p s : Nat) (n : Int) (k : Nat) : Nat → Int := fun j => if j = 0 then (p : Int) else if j = 1 then (s : Int) else if j = 2 then n else if j = 3 then (k : Int) else if j = 4 then wtT T s + n else if j = 5 then T 4 p else if j = 6 then T 5 p else if j = 7 then T 4 k else T 5 k
def addB (B : Nat → Nat → Int) (g : Nat) (r : Nat → Int) : Nat → Nat → Int := fun i => if i = g then r else B i
def gvS (S : gSt) (p s : Nat) (n : Int) (k : Nat) : gSt := (giftT S.1 p s n k, S.2.1 + 1, addB S.2.2 S.2.1 (bkT S.1 p s n k))
/-- a day by the book, the first p people asked -/
def pdP (S0 : gSt) : Nat → gSt → Prop
  | 0, S => S = S0
  | p + 1, S' => ∃ S, pdP S0 p S ∧ (((chosenT S.1 p (-1) ∨ S.2.1 = 200) ∧ S' = S) ∨ ∃ n : Nat, chosenT S.1 p (n : Int) ∧ ¬ S.2.1 = 200 ∧ S' = gvS S p n (sandT S.1 p n) (takerT S.1 p).toNat)
def dyP (S0 : gSt) : Nat → gSt → Prop
  | 0, S => S = S0
  | k + 1, S' => ∃ S S1, dyP S0 k S ∧ pdP S (S.1 0 0).toNat S1 ∧ S' = (dayT S1.1, S1.2)
theorem CH_uniq {S : Nat → Prop} {c : Nat → Int} {a b : Int} (h1 : CH S c a) (h2 : CH S c b) : a = b := by
  rcases h1 with ⟨rfl, h1⟩ | ⟨n, rfl, hn, h1⟩ <;> rcases h2 with ⟨rfl, h2⟩ | ⟨m, rfl, hm, h2⟩
  · rfl
  · exact absurd hm (h1 m)
  · exact absurd hn (h2 n)
  · have a1 := h1 m hm
    have a2 := h2 n hn
    omega
theorem pdP_uniq {S0 : gSt} : ∀ (p : Nat) (S S' : gSt), pdP S0 p S → pdP S0 p S' → S = S' := by
  intro p
  induction p with
  | zero => rintro S S' rfl h; exact h.symm
  | succ p ih =>
    rintro S S' ⟨S1, h1, h2⟩ ⟨S2, h3, h4⟩
    have := ih _ _ h1 h3
    subst this
    rcases h2 with ⟨h2, rfl⟩ | ⟨n, h2, h2b, rfl⟩ <;> rcases h4 with ⟨h4, rfl⟩ | ⟨m, h4, h4b, rfl⟩
    · rfl
    · rcases h2 with h2 | h2
      · have := CH_uniq h2 h4; omega
      · exact absurd h2 h4b
    · rcases h4 with h4 | h4
      · have := CH_uniq h2 h4; omega
      · exact absurd h4 h2b
    · have e : n = m := by have := CH_uniq h2 h4; omega
      rw [e]
theorem dyP_uniq {S0 : gSt} : ∀ (k : Nat) (S S' : gSt), dyP S0 k S → dyP S0 k S' → S = S' := by
  intro k
  induction k with
  | zero => rintro S S' rfl h; exact h.symm
  | succ k ih =>
    rintro S S' ⟨S1, S2, h1, h2, rfl⟩ ⟨S3, S4, h3, h4, rfl⟩
    have := ih _ _ h1 h3
    subst this
    rw [pdP_uniq _ _ _ h2 h4]
theorem pdP_inv {S0 : gSt} (h0 : INV S0.1) (hg : S0.2.1 ≤ 200) : ∀ (p : Nat) (S : gSt), (p : Int) ≤ S0.1 0 0 → pdP S0 p S → INV S.1 ∧ S.2.1 ≤ 200 ∧ S0.2.1 ≤ S.2.1 ∧ (∀ f i, f ≠ 3 → f ≠ 4 → f ≠ 5 → f ≠ 6 → S.1 f i = S0.1 f i) := by
  intro p
  induction p with
  | zero => rintro S - rfl; exact ⟨h0, hg, Nat.le_refl _, fun _ _ _ _ _ _ => rfl⟩
  | succ p ih =>
    rintro S' hp ⟨S, h1, h2⟩
    obtain ⟨i1, i2, i3, i4⟩ := ih S (by omega) h1
    rcases h2 with ⟨-, rfl⟩ | ⟨n, h3, h4, rfl⟩
    · exact ⟨i1, i2, i3, i4⟩
    · have e00 := i4 0 0 (by decide) (by decide) (by decide) (by decide)
      refine ⟨INV.cho i1 (by omega) h3, by show S.2.1 + 1 ≤ 200; omega, by show _ ≤ S.2.1 + 1; omega, fun f i a b c d => ?_⟩
      show giftT _ _ _ _ _ f i = _
      rw [gift_o ⟨a, b, c, d⟩]; exact i4 f i a b c d
theorem dyP_inv {S0 : gSt} (h0 : INV S0.1) (hg : S0.2.1 ≤ 200) : ∀ (k : Nat) (S : gSt), S0.1 0 4 + k ≤ 100000 → dyP S0 k S → INV S.1 ∧ S.2.1 ≤ 200 ∧ S0.2.1 ≤ S.2.1 ∧ S.1 0 4 = S0.1 0 4 + k := by
  intro k
  induction k with
  | zero => rintro S - rfl; exact ⟨h0, hg, Nat.le_refl _, by simp⟩
  | succ k ih =>
    rintro S' hk ⟨S, S1, h1, h2, rfl⟩
    obtain ⟨i1, i2, i3, i4⟩ := ih S (by omega) h1
    have hp := i1.1.1
    obtain ⟨j1, j2, j3, j4⟩ := pdP_inv i1 i2 _ _ (by omega) h2
    have e4 := j4 0 4 (by decide) (by decide) (by decide) (by decide)
    refine ⟨INV.day j1 (by omega), j2, Nat.le_trans i3 j3, ?_⟩
    show dayT S1.1 0 4 = _
    rw [dayT, upT_eq]; omega
/-- the reference holds the town and its book -/
def RSB (S : gSt) (M : gM) : Prop := RS S.1 M ∧ (M.1 300 24).toInt = (S.2.1 : Int) ∧ ∀ i, i < S.2.1 → ∀ j, j < 9 → (M.1 425 (9 * i + j)).toInt = S.2.2 i j
theorem RSB.make {S : gSt} {M M1 : gM} {g k s : Nat} {p o w n v : Int32} (h : RSB S M) (hI : INV S.1) (hg : S.2.1 < 200) (hp : p.toInt = (g : Int)) (ho : o.toInt = (k : Int)) (hw : w.toInt = (s : Int)) (hc : canG S.1 g s n.toInt k) (hv : v.toInt = wtT S.1 s + n.toInt) (hn : nowM M M1 (M.1 300 24).toInt.toNat (bkRow (M.1 407) g k p w n o v) (mkRow (M.1 407) (S.1 0 1).toNat g s k n v o p (S.1 0 2))) : RSB (gvS S g s n.toInt k) M1 := by
  obtain ⟨⟨hC, hW, hA, hD, hWe⟩, h2, h3⟩ := h
  rw [show (M.1 300 24).toInt.toNat = S.2.1 by omega] at hn
  obtain ⟨n1, n2, n3, n4, n5, n6, n7⟩ := hn
  have hA2 := RW.gift hI.1 hA hc hI.2.1 hv ho hp
  have hO := hI.1
  refine ⟨⟨?_, ?_, by rw [n5]; exact hA2, ?_, fun i hi => ?_⟩, n4, fun i hi j hj => ?_⟩
  · have := CR.gift (g := g) (s := s) (k := k) (n := n.toInt) hC
    unfold CR at this ⊢
    rw [n1 402 (by decide) (by decide) (by decide), n1 403 (by decide) (by decide) (by decide), n1 404 (by decide) (by decide) (by decide), n1 405 (by decide) (by decide) (by decide)]
    exact this
  · have := WR.gift (g := g) (s := s) (k := k) (n := n.toInt) hW
    unfold WR at this ⊢
    rw [n1 409 (by decide) (by decide) (by decide)]
    exact this
  · show _ = giftT S.1 g s n.toInt k 0 4
    rw [n3 12 (by decide), gift_o (by decide)]; exact hD
  · replace hi : (i : Int) < giftT S.1 g s n.toInt k 0 1 := hi
    rw [gift_o (by decide)] at hi
    show _ = if (giftT S.1 g s n.toInt k 0 5).toNat.testBit i = true then 1 else 0
    rw [n1 411 (by decide) (by decide) (by decide), gift_o (by decide)]
    exact hWe i hi
  · replace hi : i < S.2.1 + 1 := hi
    show _ = addB S.2.2 S.2.1 (bkT S.1 g s n.toInt k) i j
    by_cases hi2 : i = S.2.1
    · subst hi2
      have hb := hA.1 g hc.1
      have hb2 := hA.1 k hc.2.1
      rw [n6 j hj, addB, if_pos rfl, bkRow, bkT]
      rcases (show j = 0 ∨ j = 1 ∨ j = 2 ∨ j = 3 ∨ j = 4 ∨ j = 5 ∨ j = 6 ∨ j = 7 ∨ j = 8 by omega) with rfl | rfl | rfl | rfl | rfl | rfl | rfl | rfl | rfl
      · exact hp
      · exact hw
      · rfl
      · exact ho
      · exact hv
      · exact hb.2.1
      · exact hb.2.2.1
      · exact hb2.2.1
      · exact hb2.2.2.1
    · rw [n7 _ (by omega), addB, if_neg hi2]
      exact h3 i (by omega) j hj
def frD (M M' : gM) : Prop := (∀ j, j ≠ 300 → j ≠ 407 → j ≠ 409 → j ≠ 425 → M'.1 j = M.1 j) ∧ M'.2 = M.2 ∧ ∀ k, k ≠ 12 → k ≠ 24 → M'.1 300 k = M.1 300 k
theorem frD.now {M0 M M1 : gM} {n : Nat} {row r' : Nat → Int32} (h : frD M0 M) (hn : nowM M M1 n row r') : frD M0 M1 := by
  obtain ⟨n1, n2, n3, -⟩ := hn
  exact ⟨fun j a b c d => by rw [n1 j a b d]; exact h.1 j a b c d, by rw [n2]; exact h.2.1, fun k a b => by rw [n3 k b]; exact h.2.2 k a b⟩
set_option maxHeartbeats 1200000 in
theorem l_dayIn {Γ : gW} {M0 : gM} {S0 : gSt} (hR : g_Ref Γ) (hI : INV S0.1) (hg0 : S0.2.1 ≤ 200) {nn kk : Int32} {c : Int} (hc0 : -200 ≤ c ∧ c ≤ 0) {Q : Option Value → gM → Prop} (hk : ∀ (M : gM) (S : gSt) (mn i : Int32) (z5 : Option Value), frD M0 M → RSB S M → pdP S0 (S0.1 0 0).toNat S → mn.toInt = S.2.1 + c → G Γ μX6_days (g_R 5) (0, 0) (g_Z Γ Q) 138 [some (.ref 300), some (.int nn), some (.int mn), some (.int kk), some (.int i), z5] [] M) : ∀ (n9 : Nat) (mn i : Int32) (z5 : Option Value) (M : gM) (S : gSt), (S0.1 0 0).toNat - i.toInt.toNat = n9 → 0 ≤ i.toInt → i.toInt ≤ S0.1 0 0 → mn.toInt = S.2.1 + c → frD M0 M → RSB S M → pdP S0 i.toInt.toNat S → G Γ μX6_days (g_R 5) (0, 0) (g_Z Γ Q) 33 [some (.ref 300), some (.int nn), some (.int mn), some (.int kk), some (.int i), z5] [] M := by
  intro n9
  induction n9 using Nat.strongRecOn with
  | ind n9 ih =>
    intro mn i z5 M S h9 hi0 hi1 hmn hfr hB hps
    obtain ⟨hIT, hg1, hg2, hsame⟩ := pdP_inv hI hg0 _ _ (by omega) hps
    have hO := hIT.1
    have o_pe := hO.1
    have o_th := hO.2.1
    have hB0 := hB
    obtain ⟨⟨hC, hW, hA, hD, hWe⟩, hgn, hbk⟩ := hB
    have r_0 := hC.1
    have hT00 : S.1 0 0 = S0.1 0 0 := hsame 0 0 (by decide) (by decide) (by decide) (by decide)
    have ein : ((i.toInt.toNat : Nat) : Int) = i.toInt := by omega
    refine g_iload4 dX6_days_33 rfl ?_
    refine g_aload_n0 dX6_days_35 rfl ?_
    refine g_getr dX6_days_36 rfl fX6_25 hR.1 rfl ?_
    refine g_iconstI dX6_days_39 rfl rfl (fun w39 h39 => ?_)
    refine g_ialdI dX6_days_40 rfl (rf_told hR) ⟨by omega, by omega⟩ ?_
    have et40 : w39.toInt.toNat = 0 := by omega
    rw [et40]
    clear et40
    refine g_icmp_geI (t := 138) dX6_days_41 (by decide) rfl (fun c41 => ?_) (fun c41 => ?_)
    · -- 41 t
      exact hk M S _ _ _ hfr hB0 (by rw [show (S0.1 0 0).toNat = i.toInt.toNat by omega]; exact hps) hmn
    · -- 41 f
      have hip : 0 ≤ i.toInt ∧ i.toInt < S.1 0 0 := by omega
      obtain ⟨-, a_o, a_t, -⟩ := hA.1 i.toInt.toNat (by omega)
      refine g_aload_n0 dX6_days_44 rfl ?_
      refine g_aload_n0 dX6_days_45 rfl ?_
      refine g_getr dX6_days_46 rfl fX6_41 hR.1 rfl ?_
      refine g_iload4 dX6_days_49 rfl ?_
      refine g_aload_n0 dX6_days_51 rfl ?_
      refine g_geti dX6_days_52 rfl fX6_253 hR.1 rfl ?_
      refine g_callVi3 dX6_days_55 rfl vX6_311 hR.1 rfl (r_choiceOf hR hO hC hW (rf_now hR) hA hip hD) (g_rm (by omega)) (Nat.le_of_ble_eq_true rfl) (fun z55 M55 e55 => ?_)
      obtain ⟨rfl, e55⟩ := e55
      refine g_istore5 dX6_days_58 rfl rfl ?_
      refine g_iload5 dX6_days_60 rfl ?_
      refine g_iconstI dX6_days_62 rfl rfl (fun w62 h62 => ?_)
      refine g_icmp_eqI (t := 132) dX6_days_63 (by decide) rfl (fun c63 => ?_) (fun c63 => ?_)
      · -- 63 t
        have hskip : chosenT S.1 i.toInt.toNat (-1) ∨ S.2.1 = 200 := Or.inl (by rw [← show z55.toInt = -1 by omega]; exact e55)
        refine g_iincI4 dX6_days_132 rfl rfl rfl ⟨by omega, by omega⟩ (fun w132 h132 => ?_)
        refine g_goto (t := 33) dX6_days_135 (by decide) ?_
        have e1 : w132.toInt.toNat = i.toInt.toNat + 1 := by omega
        first
          | (have hz := hskip; exact ih _ (by omega) _ _ _ _ S rfl (by omega) (by omega) hmn hfr hB0 (by rw [e1]; exact ⟨S, hps, Or.inl ⟨hz, rfl⟩⟩))
          | (have hz := h129; exact ih _ (by omega) _ _ _ _ (gvS S i.toInt.toNat n (sandT S.1 i.toInt.toNat n) (takerT S.1 i.toInt.toNat).toNat) rfl (by omega) (by omega) (by rw [h129, hmn, show (gvS S i.toInt.toNat n (sandT S.1 i.toInt.toNat n) (takerT S.1 i.toInt.toNat).toNat).2.1 = S.2.1 + 1 from rfl]; omega) hfr3 hB2 (by rw [e1]; exact ⟨S, hps, Or.inr ⟨n, hch, by omega, rfl⟩⟩))
      · -- 63 f
        obtain ⟨n, en, hsl, -⟩ := e55.resolve_left (fun h => by omega)
        have hch : chosenT S.1 i.toInt.toNat (n : Int) := by rw [← en]; exact e55
        clear e55
        refine g_aload_n0 dX6_days_66 rfl ?_
        refine g_geti dX6_days_67 rfl fX6_256 hR.1 rfl ?_
        refine g_sipushI dX6_days_70 rfl rfl (fun w70 h70 => ?_)
        refine g_icmp_neI (t := 79) dX6_days_73 (by decide) rfl (fun c73 => ?_) (fun c73 => ?_)
        · -- 73 t
          obtain ⟨hcan, ht0, ht1⟩ := chosenT_can hO (by omega) hch hIT.2.2
          have h2n : n < 2 ^ (S.1 0 1).toNat := by
            have h2 : hasT S.1 i.toInt.toNat < 2 ^ (S.1 0 1).toNat := by rw [← RW.has hA (p := i.toInt.toNat) (by omega)]; exact gat_lt _ _
            have := sub_le hsl.1.2.1
            omega
          have enn : z55.toInt.toNat = n := by omega
          have ep2 : ((2 ^ (S.1 0 1).toNat : Nat) : Int) = (2 : Int) ^ (S.1 0 1).toNat := by simp
          have hsr : 0 ≤ sandT S.1 i.toInt.toNat n ∧ sandT S.1 i.toInt.toNat n ≤ 2000 := by
            have h1 := lgtT_rng (p := i.toInt.toNat) hO (by omega)
            have h2 := wtT_rng (s := n) hO
            rw [sandT]; split <;> omega
          refine g_aload_n0 dX6_days_79 rfl ?_
          refine g_iload4 dX6_days_80 rfl ?_
          refine g_iload5 dX6_days_82 rfl ?_
          refine g_aload_n0 dX6_days_84 rfl ?_
          refine g_aload_n0 dX6_days_85 rfl ?_
          refine g_getr dX6_days_86 rfl fX6_41 hR.1 rfl ?_
          refine g_iload4 dX6_days_89 rfl ?_
          refine g_iload5 dX6_days_91 rfl ?_
          refine g_aload_n0 dX6_days_93 rfl ?_
          refine g_getr dX6_days_94 rfl fX6_41 hR.1 rfl ?_
          refine g_bipushI dX6_days_97 rfl rfl (fun w97 h97 => ?_)
          refine g_iload4 dX6_days_99 rfl ?_
          refine g_iaddI dX6_days_101 rfl ⟨by omega, by omega⟩ (fun w101 h101 => ?_)
          refine g_ialdI dX6_days_102 rfl (rf_now hR) ⟨by omega, by omega⟩ ?_
          rw [show w101.toInt.toNat = 18 + i.toInt.toNat by omega]
          refine g_callVi4 dX6_days_103 rfl vX6_297 hR.1 rfl (r_sandFor hR hO hC hW (rf_now hR) hA hip ⟨by omega, by omega⟩ a_o) (g_rm (by omega)) (Nat.le_of_ble_eq_true rfl) (fun z103 M103 e103 => ?_)
          obtain ⟨rfl, e103⟩ := e103
          rw [enn] at e103
          replace e103 : z103.toInt = sandT S.1 i.toInt.toNat n := e103.elim (fun h => h.2) (fun h => absurd hsl.1 h.1)
          refine g_aload_n0 dX6_days_106 rfl ?_
          refine g_aload_n0 dX6_days_107 rfl ?_
          refine g_getr dX6_days_108 rfl fX6_41 hR.1 rfl ?_
          refine g_iload4 dX6_days_111 rfl ?_
          refine g_aload_n0 dX6_days_113 rfl ?_
          refine g_getr dX6_days_114 rfl fX6_41 hR.1 rfl ?_
          refine g_bipushI dX6_days_117 rfl rfl (fun w117 h117 => ?_)
          refine g_iload4 dX6_days_119 rfl ?_
          refine g_iaddI dX6_days_121 rfl ⟨by omega, by omega⟩ (fun w121 h121 => ?_)
          refine g_ialdI dX6_days_122 rfl (rf_now hR) ⟨by omega, by omega⟩ ?_
          rw [show w121.toInt.toNat = 24 + i.toInt.toNat by omega]
          refine g_callVi3 dX6_days_123 rfl vX6_315 hR.1 rfl (r_whomOf hR hO hC (rf_now hR) hA hip a_t) (g_rm (by omega)) (Nat.le_of_ble_eq_true rfl) (fun z123 M123 e123 => ?_)
          obtain ⟨rfl, e123⟩ := e123
          refine g_callVv4 dX6_days_126 rfl vX6_293 hR.1 rfl (r_makeNow hR hO hC hW ⟨by omega, by omega⟩ ⟨by omega, by omega⟩ ⟨by omega, by omega⟩ ⟨by omega, by omega⟩ ⟨by omega, by omega⟩) (g_rm (by omega)) (Nat.le_of_ble_eq_true rfl) (fun M126 e126 => ?_)
          obtain ⟨v, ev, e126⟩ := e126
          rw [enn] at ev e126
          have hetk : z123.toInt.toNat = (takerT S.1 i.toInt.toNat).toNat := by rw [e123]
          rw [hetk] at e126
          have hB2 : RSB (gvS S i.toInt.toNat n (sandT S.1 i.toInt.toNat n) (takerT S.1 i.toInt.toNat).toNat) M126 := by
            rw [← e103] at hcan ⊢
            exact RSB.make hB0 hIT (by omega) ein.symm (by rw [e123]; omega) en hcan ev e126
          have hfr3 : frD M0 M126 := frD.now hfr e126
          clear e126 ev
          refine g_iincI2 dX6_days_129 rfl rfl rfl ⟨by omega, by omega⟩ (fun w129 h129 => ?_)
          refine g_iincI4 dX6_days_132 rfl rfl rfl ⟨by omega, by omega⟩ (fun w132 h132 => ?_)
          refine g_goto (t := 33) dX6_days_135 (by decide) ?_
          have e1 : w132.toInt.toNat = i.toInt.toNat + 1 := by omega
          first
            | (have hz := hskip; exact ih _ (by omega) _ _ _ _ S rfl (by omega) (by omega) hmn hfr hB0 (by rw [e1]; exact ⟨S, hps, Or.inl ⟨hz, rfl⟩⟩))
            | (have hz := h129; exact ih _ (by omega) _ _ _ _ (gvS S i.toInt.toNat n (sandT S.1 i.toInt.toNat n) (takerT S.1 i.toInt.toNat).toNat) rfl (by omega) (by omega) (by rw [h129, hmn, show (gvS S i.toInt.toNat n (sandT S.1 i.toInt.toNat n) (takerT S.1 i.toInt.toNat).toNat).2.1 = S.2.1 + 1 from rfl]; omega) hfr3 hB2 (by rw [e1]; exact ⟨S, hps, Or.inr ⟨n, hch, by omega, rfl⟩⟩))
        · -- 73 f
          have hskip : chosenT S.1 i.toInt.toNat (-1) ∨ S.2.1 = 200 := Or.inr (by omega)
          refine g_goto (t := 132) dX6_days_76 (by decide) ?_
          refine g_iincI4 dX6_days_132 rfl rfl rfl ⟨by omega, by omega⟩ (fun w132 h132 => ?_)
          refine g_goto (t := 33) dX6_days_135 (by decide) ?_
          have e1 : w132.toInt.toNat = i.toInt.toNat + 1 := by omega
          first
            | (have hz := hskip; exact ih _ (by omega) _ _ _ _ S rfl (by omega) (by omega) hmn hfr hB0 (by rw [e1]; exact ⟨S, hps, Or.inl ⟨hz, rfl⟩⟩))
            | (have hz := h129; exact ih _ (by omega) _ _ _ _ (gvS S i.toInt.toNat n (sandT S.1 i.toInt.toNat n) (takerT S.1 i.toInt.toNat).toNat) rfl (by omega) (by omega) (by rw [h129, hmn, show (gvS S i.toInt.toNat n (sandT S.1 i.toInt.toNat n) (takerT S.1 i.toInt.toNat).toNat).2.1 = S.2.1 + 1 from rfl]; omega) hfr3 hB2 (by rw [e1]; exact ⟨S, hps, Or.inr ⟨n, hch, by omega, rfl⟩⟩))
