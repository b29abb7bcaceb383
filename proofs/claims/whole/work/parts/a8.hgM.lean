/-- the first k places of b are the things below k, the lightest first -/
def SRT (T : gTw) (b : Nat → Nat) (k : Nat) : Prop := (∀ j, j < k → b j < k) ∧ (∀ i j, i < k → j < k → b i = b j → i = j) ∧ (∀ t, t < k → ∃ j, j < k ∧ b j = t) ∧ ∀ i j, i ≤ j → j < k → T 7 (b i) ≤ T 7 (b j)
def insB (b : Nat → Nat) (k at9 : Nat) : Nat → Nat := fun j => if j < at9 then b j else if j = at9 then k else b (j - 1)
theorem insB_lt {b : Nat → Nat} {k a j : Nat} (h : j < a) : insB b k a j = b j := if_pos h
theorem insB_eq {b : Nat → Nat} {k a : Nat} : insB b k a a = k := by rw [insB, if_neg (by omega), if_pos rfl]
theorem insB_gt {b : Nat → Nat} {k a j : Nat} (h : a < j) : insB b k a j = b (j - 1) := by rw [insB, if_neg (by omega), if_neg (by omega)]
theorem SRT.ins {T : gTw} {b : Nat → Nat} {k a : Nat} (h : SRT T b k) (hat : a ≤ k) (h1 : ∀ j, a ≤ j → j < k → T 7 k < T 7 (b j)) (h2 : a = 0 ∨ T 7 (b (a - 1)) ≤ T 7 k) : SRT T (insB b k a) (k + 1) := by
  obtain ⟨r, i, s, o⟩ := h
  refine ⟨fun j hj => ?_, fun x y hx hy e => ?_, fun t ht => ?_, fun x y hxy hy => ?_⟩
  · rcases Nat.lt_trichotomy j a with q | q | q
    · rw [insB_lt q]; have := r j (by omega); omega
    · rw [q, insB_eq]; omega
    · rw [insB_gt q]; have := r (j - 1) (by omega); omega
  · rcases Nat.lt_trichotomy x a with q | q | q <;> rcases Nat.lt_trichotomy y a with q2 | q2 | q2
    · rw [insB_lt q, insB_lt q2] at e; exact i x y (by omega) (by omega) e
    · rw [insB_lt q, q2, insB_eq] at e; have := r x (by omega); omega
    · rw [insB_lt q, insB_gt q2] at e; have := i x (y - 1) (by omega) (by omega) e; omega
    · rw [q, insB_eq, insB_lt q2] at e; have := r y (by omega); omega
    · omega
    · rw [q, insB_eq, insB_gt q2] at e; have := r (y - 1) (by omega); omega
    · rw [insB_gt q, insB_lt q2] at e; have := i (x - 1) y (by omega) (by omega) e; omega
    · rw [insB_gt q, q2, insB_eq] at e; have := r (x - 1) (by omega); omega
    · rw [insB_gt q, insB_gt q2] at e; have := i (x - 1) (y - 1) (by omega) (by omega) e; omega
  · by_cases q : t = k
    · exact ⟨a, by omega, by rw [insB_eq, q]⟩
    · obtain ⟨j, j1, j2⟩ := s t (by omega)
      by_cases q2 : j < a
      · exact ⟨j, by omega, by rw [insB_lt q2, j2]⟩
      · exact ⟨j + 1, by omega, by rw [insB_gt (by omega)]; exact j2⟩
  · rcases Nat.lt_trichotomy x a with q | q | q <;> rcases Nat.lt_trichotomy y a with q2 | q2 | q2
    · rw [insB_lt q, insB_lt q2]; exact o x y hxy (by omega)
    · rw [insB_lt q, q2, insB_eq]
      rcases h2 with h2 | h2
      · omega
      · have := o x (a - 1) (by omega) (by omega); omega
    · rw [insB_lt q, insB_gt q2]; exact o x (y - 1) (by omega) (by omega)
    · omega
    · rw [q, q2]; exact Int.le_refl _
    · rw [q, insB_eq, insB_gt q2]; have := h1 (y - 1) (by omega) (by omega); omega
    · omega
    · omega
    · rw [insB_gt q, insB_gt q2]; exact o (x - 1) (y - 1) (by omega) (by omega)
def aB (M : gM) (b : Nat → Nat) (k : Nat) : Prop := ∀ j, j < k → (M.1 3 j).toInt = (b j : Int)
set_option maxHeartbeats 1200000 in
theorem lx_sortB {Γ : gW} {gt : Option Nat} (hA : g_HG Γ gt) {M0 : gM} {T : gTw} (hT0 : tv M0 100 = T) (hB0 : TB M0 100) {k : Int32} (hk0 : 0 ≤ k.toInt ∧ k.toInt < T 0 1) {b : Nat → Nat} (hS : SRT T b k.toInt.toNat) {Q : Option Value → gM → Prop} (hk : ∀ (M : gM) (a : Int32), fr 3 M0 M → 0 ≤ a.toInt → a.toInt ≤ k.toInt → (∀ j, j < a.toInt.toNat → (M.1 3 j).toInt = (b j : Int)) → (∀ j, a.toInt.toNat < j → j ≤ k.toInt.toNat → (M.1 3 j).toInt = (b (j - 1) : Int)) → SRT T (insB b k.toInt.toNat a.toInt.toNat) (k.toInt.toNat + 1) → G Γ μX5_sortByWeight (g_R 0) (0, 0) (g_Z Γ Q) 67 [some (.ref 0), some (.int k), some (.int a)] [] M) : ∀ (n9 : Nat) (a : Int32) (M : gM), a.toInt.toNat = n9 → 0 ≤ a.toInt → a.toInt ≤ k.toInt → fr 3 M0 M → (∀ j, j < a.toInt.toNat → (M.1 3 j).toInt = (b j : Int)) → (∀ j, a.toInt.toNat < j → j ≤ k.toInt.toNat → (M.1 3 j).toInt = (b (j - 1) : Int)) → (∀ j, a.toInt.toNat ≤ j → j < k.toInt.toNat → T 7 k.toInt.toNat < T 7 (b j)) → G Γ μX5_sortByWeight (g_R 0) (0, 0) (g_Z Γ Q) 15 [some (.ref 0), some (.int k), some (.int a)] [] M := by
  intro n9
  induction n9 using Nat.strongRecOn with
  | ind n9 ih =>
    intro a M h9 ha0 ha1 hF g1 g2 g3
    have hT : tv M 100 = T := by rw [← hT0]; exact tv_far (fun j a b => hF.1 j (by omega))
    have hO : TOK T := by rw [← hT0]; exact TOK.of hB0
    have hb1 := hO.2.1
    have t01 : (M.1 100 1).toInt = T 0 1 := by rw [← hT]; exact (tv0 (by decide)).symm
    have t7 : ∀ j, j < 12 → (M.1 (100 + 7) j).toInt = T 7 j := fun j hj => by rw [← hT]; exact (tvw (f := 7) (Or.inl rfl) hj).symm
    refine g_iload_n2 dX5_sortByWeight_15 rfl ?_
    refine g_if_leI (t := 67) dX5_sortByWeight_16 (by decide) rfl (fun c16 => ?_) (fun c16 => ?_)
    · -- 16 t
      have hend : SRT T (insB b k.toInt.toNat a.toInt.toNat) (k.toInt.toNat + 1) := SRT.ins hS (by omega) g3 (Or.inl (by omega))
      exact hk _ _ hF ha0 ha1 g1 g2 hend
    · -- 16 f
      refine g_aload_n0 dX5_sortByWeight_19 rfl ?_
      refine g_getr dX5_sortByWeight_20 rfl fX5_10 hA.1 rfl ?_
      refine g_getr dX5_sortByWeight_23 rfl fX5_159 (hg_town hA).1 rfl ?_
      refine g_aload_n0 dX5_sortByWeight_26 rfl ?_
      refine g_getr dX5_sortByWeight_27 rfl fX5_80 hA.1 rfl ?_
      refine g_iload_n2 dX5_sortByWeight_30 rfl ?_
      refine g_iconstI dX5_sortByWeight_31 rfl rfl (fun w31 h31 => ?_)
      refine g_isubI dX5_sortByWeight_32 rfl ⟨by omega, by omega⟩ (fun w32 h32 => ?_)
      have g4 := g1 (a.toInt.toNat - 1) (by omega)
      have g5 := hS.1 (a.toInt.toNat - 1) (by omega)
      have g6 : w32.toInt.toNat = a.toInt.toNat - 1 := by omega
      refine g_ialdI dX5_sortByWeight_33 rfl (hg_byWeight hA) ⟨by omega, by omega⟩ ?_
      rw [g6]
      refine g_ialdI dX5_sortByWeight_34 rfl (tw_weight (hg_town hA)) ⟨by omega, by omega⟩ ?_
      rw [show (M.1 3 (a.toInt.toNat - 1)).toInt.toNat = b (a.toInt.toNat - 1) by omega]
      have g7 := t7 (b (a.toInt.toNat - 1)) (by omega)
      refine g_aload_n0 dX5_sortByWeight_35 rfl ?_
      refine g_getr dX5_sortByWeight_36 rfl fX5_10 hA.1 rfl ?_
      refine g_getr dX5_sortByWeight_39 rfl fX5_159 (hg_town hA).1 rfl ?_
      refine g_iload_n1 dX5_sortByWeight_42 rfl ?_
      refine g_ialdI dX5_sortByWeight_43 rfl (tw_weight (hg_town hA)) ⟨by omega, by omega⟩ ?_
      have g8 := t7 k.toInt.toNat (by omega)
      refine g_icmp_leI (t := 67) dX5_sortByWeight_44 (by decide) rfl (fun c44 => ?_) (fun c44 => ?_)
      · -- 44 t
        have hend : SRT T (insB b k.toInt.toNat a.toInt.toNat) (k.toInt.toNat + 1) := SRT.ins hS (by omega) g3 (Or.inr (by omega))
        exact hk _ _ hF ha0 ha1 g1 g2 hend
      · -- 44 f
        refine g_aload_n0 dX5_sortByWeight_47 rfl ?_
        refine g_getr dX5_sortByWeight_48 rfl fX5_80 hA.1 rfl ?_
        refine g_iload_n2 dX5_sortByWeight_51 rfl ?_
        refine g_aload_n0 dX5_sortByWeight_52 rfl ?_
        refine g_getr dX5_sortByWeight_53 rfl fX5_80 hA.1 rfl ?_
        refine g_iload_n2 dX5_sortByWeight_56 rfl ?_
        refine g_iconstI dX5_sortByWeight_57 rfl rfl (fun w57 h57 => ?_)
        refine g_isubI dX5_sortByWeight_58 rfl ⟨by omega, by omega⟩ (fun w58 h58 => ?_)
        have g9 : w58.toInt.toNat = a.toInt.toNat - 1 := by omega
        refine g_ialdI dX5_sortByWeight_59 rfl (hg_byWeight hA) ⟨by omega, by omega⟩ ?_
        rw [g9]
        refine g_iastI dX5_sortByWeight_60 rfl (hg_byWeight hA) ⟨by omega, by omega⟩ ?_
        refine g_iincI2 dX5_sortByWeight_61 rfl rfl rfl ⟨by omega, by omega⟩ (fun w61 h61 => ?_)
        refine g_goto (t := 15) dX5_sortByWeight_64 (by decide) ?_
        have e1 : w61.toInt.toNat = a.toInt.toNat - 1 := by omega
        refine ih _ (show w61.toInt.toNat < n9 by omega) _ _ rfl (by omega) (by omega) ⟨fun j hj => by rw [g_u_ne hj]; exact hF.1 j hj, hF.2⟩ (fun j hj => ?_) (fun j h1 h2 => ?_) (fun j h1 h2 => ?_)
        · rw [g_u_eq, if_neg (by omega)]; exact g1 j (by omega)
        · rw [g_u_eq]
          by_cases e : j = a.toInt.toNat
          · rw [if_pos e, e]; exact g4
          · rw [if_neg e]; exact g2 j (by omega) h2
        · by_cases e : j = a.toInt.toNat - 1
          · rw [e]; omega
          · exact g3 j (by omega) h2
set_option maxHeartbeats 1200000 in
theorem lx_sortA {Γ : gW} {gt : Option Nat} (hA : g_HG Γ gt) {M0 : gM} {T : gTw} (hT0 : tv M0 100 = T) (hB0 : TB M0 100) {Q : Option Value → gM → Prop} (hQ : ∀ (M : gM) (b : Nat → Nat), fr 3 M0 M → aB M b (T 0 1).toNat → SRT T b (T 0 1).toNat → Q none M) : ∀ (n9 : Nat) (k : Int32) (M : gM) (b : Nat → Nat) (y : Option Value), 12 - k.toInt.toNat = n9 → 0 ≤ k.toInt → k.toInt ≤ T 0 1 → fr 3 M0 M → aB M b k.toInt.toNat → SRT T b k.toInt.toNat → G Γ μX5_sortByWeight (g_R 0) (0, 0) (g_Z Γ Q) 2 [some (.ref 0), some (.int k), y] [] M := by
  intro n9
  induction n9 using Nat.strongRecOn with
  | ind n9 ih =>
    intro k M b y h9 hk0 hk1 hF hab hS
    have hT : tv M 100 = T := by rw [← hT0]; exact tv_far (fun j a b => hF.1 j (by omega))
    have hO : TOK T := by rw [← hT0]; exact TOK.of hB0
    have hb1 := hO.2.1
    have t01 : (M.1 100 1).toInt = T 0 1 := by rw [← hT]; exact (tv0 (by decide)).symm
    have t7 : ∀ j, j < 12 → (M.1 (100 + 7) j).toInt = T 7 j := fun j hj => by rw [← hT]; exact (tvw (f := 7) (Or.inl rfl) hj).symm
    refine g_iload_n1 dX5_sortByWeight_2 rfl ?_
    refine g_aload_n0 dX5_sortByWeight_3 rfl ?_
    refine g_getr dX5_sortByWeight_4 rfl fX5_10 hA.1 rfl ?_
    refine g_geti dX5_sortByWeight_7 rfl fX5_116 (hg_town hA).1 rfl ?_
    refine g_icmp_geI (t := 80) dX5_sortByWeight_10 (by decide) rfl (fun c10 => ?_) (fun c10 => ?_)
    · -- 10 t
      refine g_vret dX5_sortByWeight_80 rfl ?_
      exact hQ _ b hF (by rw [show (T 0 1).toNat = k.toInt.toNat by omega]; exact hab) (by rw [show (T 0 1).toNat = k.toInt.toNat by omega]; exact hS)
    · -- 10 f
      refine g_iload_n1 dX5_sortByWeight_13 rfl ?_
      refine g_istore_n2 dX5_sortByWeight_14 rfl rfl ?_
      refine lx_sortB hA hT0 hB0 ⟨hk0, by omega⟩ hS (fun M2 a2 hF2 q0 q1 q2 q3 q4 => ?_) _ _ _ rfl (by omega) (by omega) hF (fun j hj => hab j hj) (fun j a c => by omega) (fun j a c => by omega)
      refine g_aload_n0 dX5_sortByWeight_67 rfl ?_
      refine g_getr dX5_sortByWeight_68 rfl fX5_80 hA.1 rfl ?_
      refine g_iload_n2 dX5_sortByWeight_71 rfl ?_
      refine g_iload_n1 dX5_sortByWeight_72 rfl ?_
      refine g_iastI dX5_sortByWeight_73 rfl (hg_byWeight hA) ⟨by omega, by omega⟩ ?_
      refine g_iincI1 dX5_sortByWeight_74 rfl rfl rfl ⟨by omega, by omega⟩ (fun w74 h74 => ?_)
      refine g_goto (t := 2) dX5_sortByWeight_77 (by decide) ?_
      refine ih _ (show 12 - w74.toInt.toNat < n9 by omega) _ _ (insB b k.toInt.toNat a2.toInt.toNat) _ rfl (by omega) (by omega) ⟨fun j hj => by rw [g_u_ne hj]; exact hF2.1 j hj, hF2.2⟩ (fun j hj => ?_) (by rw [show w74.toInt.toNat = k.toInt.toNat + 1 by omega]; exact q4)
      rw [g_u_eq]
      rcases Nat.lt_trichotomy j a2.toInt.toNat with q | q | q
      · rw [if_neg (by omega), insB_lt q]; exact q2 j q
      · rw [if_pos q, q, insB_eq]; omega
      · rw [if_neg (by omega), insB_gt q]; exact q3 j q (by omega)
set_option maxHeartbeats 1200000 in
theorem x_sort {Γ : gW} {gt : Option Nat} {M : gM} (hA : g_HG Γ gt) {T : gTw} (hT : tv M 100 = T) (hB : TB M 100) : Ct Γ yX5_sortByWeight μX5_sortByWeight 0 [.ref 0] M (g_qv (fun M1 => fr 3 M M1 ∧ ∃ b : Nat → Nat, aB M1 b (T 0 1).toNat ∧ SRT T b (T 0 1).toNat)) := by
  have hO : TOK T := by rw [← hT]; exact TOK.of hB
  have hb1 := hO.2.1
  refine g_enter rfl rfl rfl (Nat.le_of_ble_eq_true rfl) ?_
  show G Γ _ _ _ _ 0 [some (.ref 0), none, none] [] M
  refine g_iconstI dX5_sortByWeight_0 rfl rfl (fun w0 h0 => ?_)
  refine g_istore_n1 dX5_sortByWeight_1 rfl rfl ?_
  exact lx_sortA hA hT hB (M0 := M) (fun M2 b a c d => ⟨rfl, a, b, c, d⟩) _ _ _ (fun _ => 0) _ rfl (by omega) (by omega) ⟨fun _ _ => rfl, rfl⟩ (fun j hj => by omega) ⟨fun j hj => by omega, fun i j hi => by omega, fun t ht => by omega, fun i j _ hj => by omega⟩
/-- u holds only things of the first i places -/
def inP (b : Nat → Nat) (i u : Nat) : Prop := ∀ t, u.testBit t = true → ∃ j, j < i ∧ b j = t
def GRd (T : gTw) (b : Nat → Nat) (s i : Nat) (R : Int) : Prop := 0 ≤ R ∧ (∀ v : Nat, (v : Int) ≤ R → ∃ u, sub u s ∧ inP b i u ∧ wtT T u = (v : Int)) ∧ ∀ u, sub u s → inP b i u → wtT T u ≤ R
theorem wt_add {T : gTw} {u t : Nat} (ht : t < 12) (hu : u.testBit t = false) : wtT T (u ||| 2 ^ t) = wtT T u + T 7 t :=
  wsum_clear (w := T 7) (n := 12) (x := u ||| 2 ^ t) (y := u) (k := t) ht (by rw [Nat.testBit_or, Nat.testBit_two_pow]; simp) (fun i => by
    rw [Nat.testBit_or, Nat.testBit_two_pow]
    by_cases hi : i = t
    · rw [hi, hu]; simp
    · have : ¬ t = i := fun e => hi e.symm
      simp [hi, this])
theorem nd_bit1 {u t i : Nat} : (nd u (2 ^ t)).testBit i = (u.testBit i && !decide (i = t)) := by
  rw [nd_bit, Nat.testBit_two_pow]
  by_cases hi : i = t
  · subst hi; simp
  · have : ¬ t = i := fun e => hi e.symm
    simp [hi, this]
theorem wt_del {T : gTw} {u t : Nat} (ht : t < 12) (hu : u.testBit t = true) : wtT T u = wtT T (nd u (2 ^ t)) + T 7 t :=
  wsum_clear (w := T 7) (n := 12) (x := u) (y := nd u (2 ^ t)) (k := t) ht hu (fun i => nd_bit1)
theorem GRd.zero {T : gTw} {b : Nat → Nat} {s : Nat} : GRd T b s 0 0 := by
  have z : wtT T 0 = 0 := wsum_none (fun i _ => Nat.zero_testBit i)
  refine ⟨Int.le_refl _, fun v hv => ⟨0, sub_zero _, fun t ht => by simp at ht, by rw [z]; omega⟩, fun u _ hu => ?_⟩
  have : u = 0 := Nat.eq_of_testBit_eq fun t => by
    cases h : u.testBit t with
    | false => simp
    | true => obtain ⟨j, hj, -⟩ := hu t h; omega
  rw [this, z]; exact Int.le_refl _
theorem GRd.skip {T : gTw} {b : Nat → Nat} {s i : Nat} {R : Int} (h : GRd T b s i R) (hb : ¬ s.testBit (b i) = true) : GRd T b s (i + 1) R := by
  obtain ⟨h0, h1, h2⟩ := h
  refine ⟨h0, fun v hv => ?_, fun u hs hu => h2 u hs (fun t ht => ?_)⟩
  · obtain ⟨u, a, c, d⟩ := h1 v hv
    exact ⟨u, a, fun t ht => by obtain ⟨j, j1, j2⟩ := c t ht; exact ⟨j, by omega, j2⟩, d⟩
  · obtain ⟨j, j1, j2⟩ := hu t ht
    by_cases e : j = i
    · rw [e] at j2; rw [j2] at hb; exact absurd (hs t ht) hb
    · exact ⟨j, by omega, j2⟩
theorem GRd.step {T : gTw} {b : Nat → Nat} {s i k : Nat} {R : Int} (hO : TOK T) (hS : SRT T b k) (hk : k ≤ 12) (hi : i < k) (h : GRd T b s i R) (hb : s.testBit (b i) = true) (hw : T 7 (b i) ≤ R + 1) : GRd T b s (i + 1) (R + T 7 (b i)) := by
  have hbi := hS.1 i hi
  have hw0 := (hO.2.2.2.2.2.2.2 (b i) (by omega)).1
  obtain ⟨h0, h1, h2⟩ := h
  have hnot : ∀ u, inP b i u → u.testBit (b i) = false := fun u hu => by
    cases e : u.testBit (b i) with
    | false => rfl
    | true =>
      obtain ⟨j, j1, j2⟩ := hu _ e
      have := hS.2.1 j i (by omega) hi j2
      omega
  refine ⟨by omega, fun v hv => ?_, fun u hs hu => ?_⟩
  · by_cases q : (v : Int) ≤ R
    · obtain ⟨u, a, c, d⟩ := h1 v q
      exact ⟨u, a, fun t ht => by obtain ⟨j, j1, j2⟩ := c t ht; exact ⟨j, by omega, j2⟩, d⟩
    · obtain ⟨u, a, c, d⟩ := h1 (v - (T 7 (b i)).toNat) (by omega)
      refine ⟨u ||| 2 ^ b i, fun t ht => ?_, fun t ht => ?_, ?_⟩
      · rw [Nat.testBit_or, Nat.testBit_two_pow] at ht
        by_cases e : b i = t
        · rw [← e]; exact hb
        · simp [e] at ht; exact a t ht
      · rw [Nat.testBit_or, Nat.testBit_two_pow] at ht
        by_cases e : b i = t
        · exact ⟨i, by omega, e⟩
        · simp [e] at ht
          obtain ⟨j, j1, j2⟩ := c t ht
          exact ⟨j, by omega, j2⟩
      · rw [wt_add (by omega) (hnot u c), d]; omega
  · have key : ∀ y, sub y s → inP b (i + 1) y → y.testBit (b i) = false → wtT T y ≤ R := fun y ys yu yb => h2 y ys (fun t ht => by
      obtain ⟨j, j1, j2⟩ := yu t ht
      by_cases e : j = i
      · rw [e] at j2; rw [j2] at yb; rw [yb] at ht; cases ht
      · exact ⟨j, by omega, j2⟩)
    cases e : u.testBit (b i) with
    | false => have := key u hs hu e; omega
    | true =>
      rw [wt_del (by omega) e]
      have hy : ∀ t, (nd u (2 ^ b i)).testBit t = true → u.testBit t = true := fun t ht => by
        rw [nd_bit1] at ht
        cases h : u.testBit t with
        | false => rw [h] at ht; simp at ht
        | true => rfl
      have := key (nd u (2 ^ b i)) (fun t ht => hs t (hy t ht)) (fun t ht => hu t (hy t ht)) (by rw [nd_bit1]; simp)
      omega
theorem GRd.all {T : gTw} {b : Nat → Nat} {s i : Nat} {R n : Int} (h : GRd T b s i R) (hs : s < 2 ^ (T 0 1).toNat) (hn : n ≤ R) : allS T n s := by
  refine ⟨hs, fun v hv => ?_⟩
  obtain ⟨u, a, c, d⟩ := h.2.1 (v + 1) (by omega)
  exact ⟨u, a, sub_lt a hs, by omega, by omega⟩
theorem GRd.none {T : gTw} {b : Nat → Nat} {s i : Nat} {R n : Int} (hO : TOK T) (hS : SRT T b (T 0 1).toNat) (hi : i ≤ (T 0 1).toNat) (h : GRd T b s i R) (hR : R < n) (hw : i = (T 0 1).toNat ∨ R + 1 < T 7 (b i)) : ¬ allS T n s := by
  intro ha
  have hb1 := hO.2.1
  have h0 := h.1
  obtain ⟨u, a, c, d, e⟩ := ha.2 R.toNat (by omega)
  have hwu : wtT T u = R + 1 := by omega
  by_cases q : inP b i u
  · have := h.2.2 u a q; omega
  · have : ∃ t, u.testBit t = true ∧ ∀ j, j < i → b j ≠ t := by
      refine Classical.byContradiction fun hno => q (fun t ht => ?_)
      refine Classical.byContradiction fun h3 => hno ⟨t, ht, fun j hj e9 => h3 ⟨j, hj, e9⟩⟩
    obtain ⟨t, ht, hj⟩ := this
    have htn : t < (T 0 1).toNat := by
      refine Nat.lt_of_not_le fun hle => ?_
      have := Nat.testBit_lt_two_pow (Nat.lt_of_lt_of_le c (Nat.pow_le_pow_right (by decide) hle))
      rw [this] at ht; cases ht
    obtain ⟨j, j1, j2⟩ := hS.2.2.1 t htn
    have hij : i ≤ j := Nat.le_of_not_lt fun hlt => hj j hlt j2
    rcases hw with hw | hw
    · omega
    · have h7 := hS.2.2.2 i j hij j1
      rw [j2] at h7
      have hd := wt_del (T := T) (u := u) (t := t) (by omega) ht
      have hp := (wtT_rng (T := T) (s := nd u (2 ^ t)) hO).1
      omega
set_option maxHeartbeats 1200000 in
theorem lx_all {Γ : gW} {gt : Option Nat} {M : gM} (hA : g_HG Γ gt) {T : gTw} (hT : tv M 100 = T) (hO : TOK T) {b : Nat → Nat} (hab : aB M b (T 0 1).toNat) (hS : SRT T b (T 0 1).toNat) {s n : Int32} (hs : 0 ≤ s.toInt ∧ s.toInt < (2 : Int) ^ (T 0 1).toNat) (hn : 1 ≤ n.toInt ∧ n.toInt ≤ 999) {Q : Option Value → gM → Prop} (hQ : ∀ z : Int32, (z.toInt = 0 ∨ z.toInt = 1) → (z.toInt = 1 ↔ allS T n.toInt s.toInt.toNat) → Q (some (.int z)) M) : ∀ (n9 : Nat) (r i : Int32) (y : Option Value), 12 - i.toInt.toNat = n9 → 0 ≤ i.toInt → i.toInt ≤ T 0 1 → GRd T b s.toInt.toNat i.toInt.toNat r.toInt → r.toInt ≤ 2000 → G Γ μX5_makesAllTo (g_R 0) (0, 0) (g_Z Γ Q) 5 [some (.ref 0), some (.int s), some (.int n), some (.int r), some (.int i), y] [] M := by
  intro n9
  induction n9 using Nat.strongRecOn with
  | ind n9 ih =>
    intro r i y h9 hi0 hi1 hG hr2
    have hb1 := hO.2.1
    have hr0 := hG.1
    have hs2 : s.toInt.toNat < 2 ^ (T 0 1).toNat := by
      have e : ((2 ^ (T 0 1).toNat : Nat) : Int) = (2 : Int) ^ (T 0 1).toNat := by push_cast; rfl
      omega
    have t01 : (M.1 100 1).toInt = T 0 1 := by rw [← hT]; exact (tv0 (by decide)).symm
    have t7 : ∀ j, j < 12 → (M.1 (100 + 7) j).toInt = T 7 j := fun j hj => by rw [← hT]; exact (tvw (f := 7) (Or.inl rfl) hj).symm
    refine g_iload4 dX5_makesAllTo_5 rfl ?_
    refine g_aload_n0 dX5_makesAllTo_7 rfl ?_
    refine g_getr dX5_makesAllTo_8 rfl fX5_10 hA.1 rfl ?_
    refine g_geti dX5_makesAllTo_11 rfl fX5_116 (hg_town hA).1 rfl ?_
    refine g_icmp_geI (t := 78) dX5_makesAllTo_14 (by decide) rfl (fun c14 => ?_) (fun c14 => ?_)
    · -- 14 t
      refine g_iload_n3 dX5_makesAllTo_78 rfl ?_
      refine g_iload_n2 dX5_makesAllTo_79 rfl ?_
      refine g_icmp_ltI (t := 87) dX5_makesAllTo_80 (by decide) rfl (fun c80 => ?_) (fun c80 => ?_)
      · -- 80 t
        have hnone : ¬ allS T n.toInt s.toInt.toNat := GRd.none hO hS (by omega) hG (by omega) (Or.inl (by omega))
        refine g_iconstI dX5_makesAllTo_87 rfl rfl (fun w87 h87 => ?_)
        refine g_zretI dX5_makesAllTo_88 rfl (by omega) ?_
        first
          | (have hz := hall
             exact hQ _ (by omega) ⟨fun _ => hall, fun _ => by omega⟩)
          | exact hQ _ (by omega) ⟨fun h => by omega, fun h => absurd h hnone⟩
      · -- 80 f
        have hall : allS T n.toInt s.toInt.toNat := GRd.all hG hs2 (by omega)
        refine g_iconstI dX5_makesAllTo_83 rfl rfl (fun w83 h83 => ?_)
        refine g_goto (t := 88) dX5_makesAllTo_84 (by decide) ?_
        refine g_zretI dX5_makesAllTo_88 rfl (by omega) ?_
        first
          | (have hz := hall
             exact hQ _ (by omega) ⟨fun _ => hall, fun _ => by omega⟩)
          | exact hQ _ (by omega) ⟨fun h => by omega, fun h => absurd h hnone⟩
    · -- 14 f
      refine g_iload_n3 dX5_makesAllTo_17 rfl ?_
      refine g_iload_n2 dX5_makesAllTo_18 rfl ?_
      refine g_icmp_geI (t := 78) dX5_makesAllTo_19 (by decide) rfl (fun c19 => ?_) (fun c19 => ?_)
      · -- 19 t
        refine g_iload_n3 dX5_makesAllTo_78 rfl ?_
        refine g_iload_n2 dX5_makesAllTo_79 rfl ?_
        refine g_icmp_ltI (t := 87) dX5_makesAllTo_80 (by decide) rfl (fun c80 => ?_) (fun c80 => ?_)
        · -- 80 t
          have hnone : ¬ allS T n.toInt s.toInt.toNat := GRd.none hO hS (by omega) hG (by omega) (Or.inl (by omega))
          refine g_iconstI dX5_makesAllTo_87 rfl rfl (fun w87 h87 => ?_)
          refine g_zretI dX5_makesAllTo_88 rfl (by omega) ?_
          first
            | (have hz := hall
               exact hQ _ (by omega) ⟨fun _ => hall, fun _ => by omega⟩)
            | exact hQ _ (by omega) ⟨fun h => by omega, fun h => absurd h hnone⟩
        · -- 80 f
          have hall : allS T n.toInt s.toInt.toNat := GRd.all hG hs2 (by omega)
          refine g_iconstI dX5_makesAllTo_83 rfl rfl (fun w83 h83 => ?_)
          refine g_goto (t := 88) dX5_makesAllTo_84 (by decide) ?_
          refine g_zretI dX5_makesAllTo_88 rfl (by omega) ?_
          first
            | (have hz := hall
               exact hQ _ (by omega) ⟨fun _ => hall, fun _ => by omega⟩)
            | exact hQ _ (by omega) ⟨fun h => by omega, fun h => absurd h hnone⟩
      · -- 19 f
        have g1 := hab i.toInt.toNat (by omega)
        have g2 := hS.1 i.toInt.toNat (by omega)
        have g3 : (M.1 3 i.toInt.toNat).toInt.toNat = b i.toInt.toNat := by omega
        have g4 := t7 (b i.toInt.toNat) (by omega)
        have g5 := (hO.2.2.2.2.2.2.2 (b i.toInt.toNat) (by omega)).1
        refine g_aload_n0 dX5_makesAllTo_22 rfl ?_
        refine g_getr dX5_makesAllTo_23 rfl fX5_80 hA.1 rfl ?_
        refine g_iload4 dX5_makesAllTo_26 rfl ?_
        refine g_ialdI dX5_makesAllTo_28 rfl (hg_byWeight hA) ⟨by omega, by omega⟩ ?_
        refine g_istore5 dX5_makesAllTo_29 rfl rfl ?_
        refine g_iload_n1 dX5_makesAllTo_31 rfl ?_
        refine g_iload5 dX5_makesAllTo_32 rfl ?_
        refine g_iushrB dX5_makesAllTo_34 rfl ⟨by omega, by omega⟩ (fun w34 h34 => ?_)
        refine g_iconstI dX5_makesAllTo_35 rfl rfl (fun w35 h35 => ?_)
        refine g_iandB dX5_makesAllTo_36 rfl  (fun w36 h36 => ?_)
        have e1 := bn_lit (n := 1) h35
        have hbit := bit_and1 s.toInt.toNat (b i.toInt.toNat)
        rw [h34, e1, bn_toNat hs.1, g3, hbit] at h36
        have h36c : w36.toInt = if s.toInt.toNat.testBit (b i.toInt.toNat) then 1 else 0 := by
          rw [i_bn (by rw [h36]; split <;> omega), h36]; split <;> rfl
        clear h36 hbit
        refine g_iconstI dX5_makesAllTo_37 rfl rfl (fun w37 h37 => ?_)
        refine g_icmp_neI (t := 72) dX5_makesAllTo_38 (by decide) rfl (fun c38 => ?_) (fun c38 => ?_)
        · -- 38 t
          have hnb : ¬ s.toInt.toNat.testBit (b i.toInt.toNat) = true := fun h => by rw [if_pos h] at h36c; omega
          refine g_iincI4 dX5_makesAllTo_72 rfl rfl rfl ⟨by omega, by omega⟩ (fun w72 h72 => ?_)
          refine g_goto (t := 5) dX5_makesAllTo_75 (by decide) ?_
          first
            | (have hz := hyb
               refine ih _ (show 12 - w72.toInt.toNat < n9 by omega) _ _ _ rfl (by omega) (by omega) ?_ (by omega)
               rw [show w72.toInt.toNat = i.toInt.toNat + 1 by omega, h70, g4]
               exact GRd.step hO hS (by omega) (by omega) hG hyb (by omega))
            | (refine ih _ (show 12 - w72.toInt.toNat < n9 by omega) _ _ _ rfl (by omega) (by omega) ?_ (by omega)
               rw [show w72.toInt.toNat = i.toInt.toNat + 1 by omega]
               exact GRd.skip hG hnb)
        · -- 38 f
          have hyb : s.toInt.toNat.testBit (b i.toInt.toNat) = true := by
            by_cases h : s.toInt.toNat.testBit (b i.toInt.toNat) = true
            · exact h
            · rw [if_neg h] at h36c; omega
          refine g_aload_n0 dX5_makesAllTo_41 rfl ?_
          refine g_getr dX5_makesAllTo_42 rfl fX5_10 hA.1 rfl ?_
          refine g_getr dX5_makesAllTo_45 rfl fX5_159 (hg_town hA).1 rfl ?_
          refine g_iload5 dX5_makesAllTo_48 rfl ?_
          refine g_ialdI dX5_makesAllTo_50 rfl (tw_weight (hg_town hA)) ⟨by omega, by omega⟩ ?_
          rw [g3]
          refine g_iload_n3 dX5_makesAllTo_51 rfl ?_
          refine g_iconstI dX5_makesAllTo_52 rfl rfl (fun w52 h52 => ?_)
          refine g_iaddI dX5_makesAllTo_53 rfl ⟨by omega, by omega⟩ (fun w53 h53 => ?_)
          refine g_icmp_leI (t := 59) dX5_makesAllTo_54 (by decide) rfl (fun c54 => ?_) (fun c54 => ?_)
          · -- 54 t
            refine g_iload_n3 dX5_makesAllTo_59 rfl ?_
            refine g_aload_n0 dX5_makesAllTo_60 rfl ?_
            refine g_getr dX5_makesAllTo_61 rfl fX5_10 hA.1 rfl ?_
            refine g_getr dX5_makesAllTo_64 rfl fX5_159 (hg_town hA).1 rfl ?_
            refine g_iload5 dX5_makesAllTo_67 rfl ?_
            refine g_ialdI dX5_makesAllTo_69 rfl (tw_weight (hg_town hA)) ⟨by omega, by omega⟩ ?_
            rw [g3]
            refine g_iaddI dX5_makesAllTo_70 rfl ⟨by omega, by omega⟩ (fun w70 h70 => ?_)
            refine g_istore_n3 dX5_makesAllTo_71 rfl rfl ?_
            refine g_iincI4 dX5_makesAllTo_72 rfl rfl rfl ⟨by omega, by omega⟩ (fun w72 h72 => ?_)
            refine g_goto (t := 5) dX5_makesAllTo_75 (by decide) ?_
            first
              | (have hz := hyb
                 refine ih _ (show 12 - w72.toInt.toNat < n9 by omega) _ _ _ rfl (by omega) (by omega) ?_ (by omega)
                 rw [show w72.toInt.toNat = i.toInt.toNat + 1 by omega, h70, g4]
                 exact GRd.step hO hS (by omega) (by omega) hG hyb (by omega))
              | (refine ih _ (show 12 - w72.toInt.toNat < n9 by omega) _ _ _ rfl (by omega) (by omega) ?_ (by omega)
                 rw [show w72.toInt.toNat = i.toInt.toNat + 1 by omega]
                 exact GRd.skip hG hnb)
          · -- 54 f
            refine g_iconstI dX5_makesAllTo_57 rfl rfl (fun w57 h57 => ?_)
            refine g_zretI dX5_makesAllTo_58 rfl (by omega) ?_
            refine hQ _ (by omega) ⟨fun h => by omega, fun h => absurd h (GRd.none hO hS (by omega) hG (by omega) (Or.inr (by omega)))⟩
set_option maxHeartbeats 1200000 in
theorem x_all {Γ : gW} {gt : Option Nat} {M : gM} (hA : g_HG Γ gt) {T : gTw} (hT : tv M 100 = T) (hO : TOK T) {b : Nat → Nat} (hab : aB M b (T 0 1).toNat) (hS : SRT T b (T 0 1).toNat) {s n : Int32} (hs : 0 ≤ s.toInt ∧ s.toInt < (2 : Int) ^ (T 0 1).toNat) (hn : 1 ≤ n.toInt ∧ n.toInt ≤ 999) : Ct Γ yX5_makesAllTo μX5_makesAllTo 0 [.ref 0, .int s, .int n] M (g_qi (fun z M1 => M1 = M ∧ (z.toInt = 0 ∨ z.toInt = 1) ∧ (z.toInt = 1 ↔ allS T n.toInt s.toInt.toNat))) := by
  have hb1 := hO.2.1
  refine g_enter rfl rfl rfl (Nat.le_of_ble_eq_true rfl) ?_
  show G Γ _ _ _ _ 0 [some (.ref 0), some (.int s), some (.int n), none, none, none] [] M
  refine g_iconstI dX5_makesAllTo_0 rfl rfl (fun w0 h0 => ?_)
  refine g_istore_n3 dX5_makesAllTo_1 rfl rfl ?_
  refine g_iconstI dX5_makesAllTo_2 rfl rfl (fun w2 h2 => ?_)
  refine g_istore4 dX5_makesAllTo_3 rfl rfl ?_
  exact lx_all hA hT hO hab hS hs hn (fun z a c => ⟨_, rfl, rfl, a, c⟩) _ _ _ _ rfl (by omega) (by omega) (by rw [h0, h2]; exact GRd.zero) (by omega)
theorem popc_rng (u : Nat) : 0 ≤ popc u ∧ popc u ≤ 12 := by
  have := wsum_le (w := fun _ => 1) (B := 1) (n := 12) (s := u) (fun _ _ => by decide) (by decide)
  rw [popc]; omega
def fwB (T : gTw) (n : Int) (s : Nat) (b z : Int) : Prop := (b = -1 ∧ z = 13 ∧ ∀ u, u < s → ¬ allS T n u) ∨ ∃ m : Nat, b = (m : Int) ∧ m < s ∧ z = popc m ∧ allS T n m ∧ ∀ u, u < s → allS T n u → popc m < popc u ∨ (popc m = popc u ∧ m ≤ u)
theorem fwB.no {T : gTw} {n : Int} {s : Nat} {b z : Int} (h : fwB T n s b z) (hn : allS T n s → z ≤ popc s) : fwB T n (s + 1) b z := by
  rcases h with ⟨h1, h2, h3⟩ | ⟨m, h1, h2, h3, h4, h5⟩
  · refine Or.inl ⟨h1, h2, fun u hu => ?_⟩
    by_cases e : u = s
    · intro ha
      rw [e] at ha
      have := hn ha
      have := popc_rng s
      omega
    · exact h3 u (by omega)
  · refine Or.inr ⟨m, h1, by omega, h3, h4, fun u hu ha => ?_⟩
    by_cases e : u = s
    · rw [e] at ha ⊢
      have := hn ha
      omega
    · exact h5 u (by omega) ha
theorem fwB.yes {T : gTw} {n : Int} {s : Nat} {b z : Int} (h : fwB T n s b z) (ha : allS T n s) (hz : popc s < z) : fwB T n (s + 1) (s : Int) (popc s) := by
  refine Or.inr ⟨s, rfl, by omega, rfl, ha, fun u hu hau => ?_⟩
  by_cases e : u = s
  · rw [e]; exact Or.inr ⟨rfl, Nat.le_refl _⟩
  · rcases h with ⟨h1, h2, h3⟩ | ⟨m, h1, h2, h3, h4, h5⟩
    · exact absurd hau (h3 u (by omega))
    · have := h5 u (by omega) hau
      omega
theorem fwB.ch {T : gTw} {n : Int} {s : Nat} {b z : Int} (h : fwB T n s b z) (hs : 2 ^ (T 0 1).toNat ≤ s) : CH (allS T n) popc b := by
  rcases h with ⟨h1, h2, h3⟩ | ⟨m, h1, h2, h3, h4, h5⟩
  · exact Or.inl ⟨h1, fun u hu => h3 u (by have := hu.1; omega) hu⟩
  · exact Or.inr ⟨m, h1, h4, fun u hu => h5 u (by have := hu.1; omega) hu⟩
theorem fwB.rng {T : gTw} {n : Int} {s : Nat} {b z : Int} (h : fwB T n s b z) : 0 ≤ z ∧ z ≤ 13 := by
  rcases h with ⟨-, h2, -⟩ | ⟨m, -, -, h3, -⟩
  · omega
  · have := popc_rng m; omega
set_option maxHeartbeats 1200000 in
theorem lx_few {Γ : gW} {gt : Option Nat} {M : gM} (hA : g_HG Γ gt) {T : gTw} (hT : tv M 100 = T) (hO : TOK T) {b : Nat → Nat} (hab : aB M b (T 0 1).toNat) (hS : SRT T b (T 0 1).toNat) {n : Int32} (hn : 1 ≤ n.toInt ∧ n.toInt ≤ 999) {Q : Option Value → gM → Prop} (hQ : ∀ z : Int32, CH (allS T n.toInt) popc z.toInt → Q (some (.int z)) M) : ∀ (n9 : Nat) (be bz s : Int32) (y : Option Value), 5000 - s.toInt.toNat = n9 → 1 ≤ s.toInt → s.toInt ≤ (2 : Int) ^ (T 0 1).toNat → fwB T n.toInt s.toInt.toNat be.toInt bz.toInt → G Γ μX5_fewest (g_RX 1) (0, 0) (g_Z Γ Q) 17 [some (.ref 0), some (.int n), some (.int be), some (.int bz), some (.int s), y] [] M := by
  intro n9
  induction n9 using Nat.strongRecOn with
  | ind n9 ih =>
    intro be bz s y h9 hs0 hs1 hW
    have hb1 := hO.2.1
    have hzr := hW.rng
    have ep : ((2 ^ (T 0 1).toNat : Nat) : Int) = (2 : Int) ^ (T 0 1).toNat := by push_cast; rfl
    have hp12 : 2 ^ (T 0 1).toNat ≤ 4096 := Nat.le_trans (Nat.pow_le_pow_right (by decide) (show (T 0 1).toNat ≤ 12 by omega)) (by decide)
    have hpz := popc_rng s.toInt.toNat
    have t01 : (M.1 100 1).toInt = T 0 1 := by rw [← hT]; exact (tv0 (by decide)).symm
    refine g_iload4 dX5_fewest_17 rfl ?_
    refine g_iconstI dX5_fewest_19 rfl rfl (fun w19 h19 => ?_)
    refine g_aload_n0 dX5_fewest_20 rfl ?_
    refine g_getr dX5_fewest_21 rfl fX5_10 hA.1 rfl ?_
    refine g_geti dX5_fewest_24 rfl fX5_116 (hg_town hA).1 rfl ?_
    refine g_ishlB dX5_fewest_27 rfl ⟨by omega, by omega⟩ (fun w27 h27 => ?_)
    rw [bn_lit (n := 1) h19, t01, Nat.shiftLeft_eq, Nat.one_mul, Nat.mod_eq_of_lt (by omega)] at h27
    have h27i : w27.toInt = (2 : Int) ^ (T 0 1).toNat := by rw [i_bn (by rw [h27]; omega), h27, ep]
    refine g_icmp_geI (t := 66) dX5_fewest_28 (by decide) rfl (fun c28 => ?_) (fun c28 => ?_)
    · -- 28 t
      refine g_iload_n2 dX5_fewest_66 rfl ?_
      refine g_iret dX5_fewest_67 rfl ?_
      exact hQ _ (hW.ch (by omega))
    · -- 28 f
      refine g_iload4 dX5_fewest_31 rfl ?_
      refine g_callJi1 dX5_fewest_33 rfl kX5_268 (c_bitCount ⟨by omega, by omega⟩) (g_rmX (by omega)) (Nat.le_of_ble_eq_true rfl) (fun z33 M33 e33 => ?_)
      obtain ⟨hMM, e33⟩ := e33
      subst M33
      refine g_istore5 dX5_fewest_36 rfl rfl ?_
      refine g_iload5 dX5_fewest_38 rfl ?_
      refine g_iload_n3 dX5_fewest_40 rfl ?_
      refine g_icmp_geI (t := 60) dX5_fewest_41 (by decide) rfl (fun c41 => ?_) (fun c41 => ?_)
      · -- 41 t
        have hno : allS T n.toInt s.toInt.toNat → bz.toInt ≤ popc s.toInt.toNat := fun _ => by omega
        refine g_iincI4 dX5_fewest_60 rfl rfl rfl ⟨by omega, by omega⟩ (fun w60 h60 => ?_)
        refine g_goto (t := 17) dX5_fewest_63 (by decide) ?_
        have e1 : w60.toInt.toNat = s.toInt.toNat + 1 := by omega
        first
          | (have hz := hya
             refine ih _ (show 5000 - w60.toInt.toNat < n9 by omega) _ _ _ _ rfl (by omega) (by omega) ?_
             have hy2 := fwB.yes hW hya (by omega)
             rw [show ((s.toInt.toNat : Nat) : Int) = s.toInt by omega] at hy2
             rw [e1, e33]
             exact hy2)
          | (refine ih _ (show 5000 - w60.toInt.toNat < n9 by clear hno; omega) _ _ _ _ rfl (by clear hno; omega) (by clear hno; omega) ?_
             rw [e1]
             exact fwB.no hW hno)
      · -- 41 f
        refine g_aload_n0 dX5_fewest_44 rfl ?_
        refine g_iload4 dX5_fewest_45 rfl ?_
        refine g_iload_n1 dX5_fewest_47 rfl ?_
        refine g_callVi2 dX5_fewest_48 rfl vX5_273 hA.1 rfl (x_all hA hT hO hab hS ⟨by omega, by omega⟩ hn) (g_rmX (by omega)) (Nat.le_of_ble_eq_true rfl) (fun z48 M48 e48 => ?_)
        obtain ⟨hMM, e48, f48⟩ := e48
        subst M48
        refine g_if_eqI (t := 60) dX5_fewest_51 (by decide) rfl (fun c51 => ?_) (fun c51 => ?_)
        · -- 51 t
          have hno : allS T n.toInt s.toInt.toNat → bz.toInt ≤ popc s.toInt.toNat := fun h => by have := f48.mpr h; omega
          clear f48 e48
          refine g_iincI4 dX5_fewest_60 rfl rfl rfl ⟨by omega, by omega⟩ (fun w60 h60 => ?_)
          refine g_goto (t := 17) dX5_fewest_63 (by decide) ?_
          have e1 : w60.toInt.toNat = s.toInt.toNat + 1 := by omega
          first
            | (have hz := hya
               refine ih _ (show 5000 - w60.toInt.toNat < n9 by omega) _ _ _ _ rfl (by omega) (by omega) ?_
               have hy2 := fwB.yes hW hya (by omega)
               rw [show ((s.toInt.toNat : Nat) : Int) = s.toInt by omega] at hy2
               rw [e1, e33]
               exact hy2)
            | (refine ih _ (show 5000 - w60.toInt.toNat < n9 by clear hno; omega) _ _ _ _ rfl (by clear hno; omega) (by clear hno; omega) ?_
               rw [e1]
               exact fwB.no hW hno)
        · -- 51 f
          have hya := f48.mp (by omega)
          clear f48 e48
          refine g_iload4 dX5_fewest_54 rfl ?_
          refine g_istore_n2 dX5_fewest_56 rfl rfl ?_
          refine g_iload5 dX5_fewest_57 rfl ?_
          refine g_istore_n3 dX5_fewest_59 rfl rfl ?_
          refine g_iincI4 dX5_fewest_60 rfl rfl rfl ⟨by omega, by omega⟩ (fun w60 h60 => ?_)
          refine g_goto (t := 17) dX5_fewest_63 (by decide) ?_
          have e1 : w60.toInt.toNat = s.toInt.toNat + 1 := by omega
          first
            | (have hz := hya
               refine ih _ (show 5000 - w60.toInt.toNat < n9 by omega) _ _ _ _ rfl (by omega) (by omega) ?_
               have hy2 := fwB.yes hW hya (by omega)
               rw [show ((s.toInt.toNat : Nat) : Int) = s.toInt by omega] at hy2
               rw [e1, e33]
               exact hy2)
            | (refine ih _ (show 5000 - w60.toInt.toNat < n9 by clear hno; omega) _ _ _ _ rfl (by clear hno; omega) (by clear hno; omega) ?_
               rw [e1]
               exact fwB.no hW hno)
set_option maxHeartbeats 1200000 in
theorem x_fewest {Γ : gW} {gt : Option Nat} {M : gM} (hA : g_HG Γ gt) {T : gTw} (hT : tv M 100 = T) (hB : TB M 100) {n : Int32} : CtX Γ yX5_fewest μX5_fewest 1 [.ref 0, .int n] M (g_qi (fun z M1 => fr 3 M M1 ∧ (1 ≤ n.toInt ∧ n.toInt ≤ 999) ∧ CH (allS T n.toInt) popc z.toInt)) (iaeX M (¬ (1 ≤ n.toInt ∧ n.toInt ≤ 999))) := by
  have hO : TOK T := by rw [← hT]; exact TOK.of hB
  have hb0 := hO.1
  have hb1 := hO.2.1
  have t00 : (M.1 100 0).toInt = T 0 0 := by rw [← hT]; exact (tv0 (by decide)).symm
  have t01 : (M.1 100 1).toInt = T 0 1 := by rw [← hT]; exact (tv0 (by decide)).symm
  refine g_enterX rfl rfl rfl (Nat.le_of_ble_eq_true rfl) ?_
  show G Γ _ _ _ _ 0 [some (.ref 0), some (.int n), none, none, none, none] [] M
  refine g_aload_n0 dX5_fewest_0 rfl ?_
  refine g_iload_n1 dX5_fewest_1 rfl ?_
  refine g_callXv1 dX5_fewest_2 rfl vX5_262 hA.1 rfl (x_reqN) (g_rmY (by omega)) (Nat.le_of_ble_eq_true rfl) (fun E M1 h => ⟨h.1, h.2.1, by have := h.2.2; omega⟩) (fun M2 e2 => ?_)
  obtain ⟨hMM, q2⟩ := e2
  subst M2
  refine g_aload_n0 dX5_fewest_5 rfl ?_
  refine g_callVv0 dX5_fewest_6 rfl vX5_265 hA.1 rfl (x_sort hA hT hB) (g_rmX (by omega)) (Nat.le_of_ble_eq_true rfl) (fun M6 e6 => ?_)
  obtain ⟨hF, b, hab, hS⟩ := e6
  have hT6 : tv M6 100 = T := by rw [← hT]; exact tv_far (fun j a c => hF.1 j (by omega))
  refine g_iconstI dX5_fewest_9 rfl rfl (fun w9 h9 => ?_)
  refine g_istore_n2 dX5_fewest_10 rfl rfl ?_
  refine g_bipushI dX5_fewest_11 rfl rfl (fun w11 h11 => ?_)
  refine g_istore_n3 dX5_fewest_13 rfl rfl ?_
  refine g_iconstI dX5_fewest_14 rfl rfl (fun w14 h14 => ?_)
  refine g_istore4 dX5_fewest_15 rfl rfl ?_
  refine g_toX ?_
  have hq : (0 : Int) < (2 : Int) ^ (T 0 1).toNat := Int.pow_pos (by decide)
  refine lx_few hA hT6 hO hab hS q2 (fun z hz => ⟨_, rfl, hF, q2, hz⟩) _ _ _ _ _ rfl (by omega) (by omega) ?_
  rw [h9, h11, h14]
  refine Or.inl ⟨rfl, rfl, fun u hu ha => ?_⟩
  have hu0 : u = 0 := by have : u < 1 := hu; omega
  rw [hu0] at ha
  have := all_wt hO q2.1 ha
  rw [wtT, wsum_none (fun i _ => Nat.zero_testBit i)] at this
  omega
