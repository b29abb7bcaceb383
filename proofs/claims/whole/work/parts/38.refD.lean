/-- row a with its first i places taken from f -/
def rowI (M : gM) (a : Nat) (f : Nat → Int32) (i : Nat) : gM := g_row M a (fun j => if j < i then f j else M.1 a j)
theorem gm_ext {M N : gM} (h1 : ∀ a, M.1 a = N.1 a) (h2 : M.2 = N.2) : M = N := Prod.ext (funext h1) h2
theorem g_u_row {M : gM} {a k : Nat} {f : Nat → Int32} {x : Int32} : g_u (g_row M a f) a k x = g_row M a (fun j => if j = k then x else f j) := by
  refine gm_ext (fun b => ?_) rfl
  by_cases hb : b = a
  · subst hb; rw [g_u_at, g_row_at, g_row_at]
  · rw [g_u_ne hb, g_row_ne hb, g_row_ne hb]
theorem g_row_self {M : gM} {a : Nat} : g_row M a (M.1 a) = M := by
  refine gm_ext (fun b => ?_) rfl
  by_cases hb : b = a
  · subst hb; rw [g_row_at]
  · rw [g_row_ne hb]
theorem g_row_congr {M : gM} {a : Nat} {f g : Nat → Int32} (h : ∀ j, f j = g j) : g_row M a f = g_row M a g := by rw [funext h]
theorem rowI_step {M : gM} {a i : Nat} {f : Nat → Int32} {x : Int32} (hx : x = f i) : g_u (rowI M a f i) a i x = rowI M a f (i + 1) := by
  rw [rowI, g_u_row, rowI]
  refine g_row_congr fun j => ?_
  by_cases h : j = i
  · subst h; rw [if_pos rfl, if_pos (by omega), hx]
  · rw [if_neg h]
    by_cases h2 : j < i
    · rw [if_pos h2, if_pos (by omega)]
    · rw [if_neg h2, if_neg (by omega)]
theorem rowI_0 {M : gM} {a : Nat} {f : Nat → Int32} : rowI M a f 0 = M := by
  rw [rowI]
  have : (fun j => if j < 0 then f j else M.1 a j) = M.1 a := funext fun j => by simp
  rw [this, g_row_self]
theorem rowI_at {M : gM} {a i j : Nat} {f : Nat → Int32} : (rowI M a f i).1 a j = if j < i then f j else M.1 a j := by rw [rowI, g_row_at]
theorem rowI_ne {M : gM} {a i b : Nat} {f : Nat → Int32} (h : b ≠ a) : (rowI M a f i).1 b = M.1 b := by rw [rowI, g_row_ne h]
theorem g_o_ne {Γ : gW} {a b : Nat} {x y : (Nat × gT) ⊕ (Nat × Nat)} (ha : g_o Γ a x) (hb : g_o Γ b y) (h : x ≠ y) : a ≠ b := fun e => h (by rw [← ha.2, ← hb.2, e])
set_option maxHeartbeats 4000000 in
theorem l_rcopy {Γ : gW} {a b : Nat} {M : gM} (ha : g_o Γ a (.inr (1, 30))) (hb : g_o Γ b (.inr (1, 30))) (hne : a ≠ b) {Q : Option Value → gM → Prop} (hQ : Q none (rowI M b (M.1 a) 30)) : ∀ (n9 : Nat) (i : Int32), 30 - i.toInt.toNat = n9 → 0 ≤ i.toInt → i.toInt ≤ 30 → G Γ μX6_copy (g_R 0) (0, 0) (g_Z Γ Q) 2 [some (.ref a), some (.ref b), some (.int i)] [] (rowI M b (M.1 a) i.toInt.toNat) := by
  intro n9
  induction n9 using Nat.strongRecOn with
  | ind n9 ih =>
    intro i hn hi0 hi1
    refine g_iload_n2 dX6_copy_2 rfl ?_
    refine g_bipushI dX6_copy_3 rfl rfl (fun w3 h3 => ?_)
    refine g_icmp_geI (t := 20) dX6_copy_5 (by decide) rfl (fun c5 => ?_) (fun c5 => ?_)
    · -- 5 t
      refine g_vret dX6_copy_20 rfl ?_
      rw [show i.toInt.toNat = 30 by omega]; exact hQ
    · -- 5 f
      refine g_aload_n1 dX6_copy_8 rfl ?_
      refine g_iload_n2 dX6_copy_9 rfl ?_
      refine g_aload_n0 dX6_copy_10 rfl ?_
      refine g_iload_n2 dX6_copy_11 rfl ?_
      refine g_ialdI dX6_copy_12 rfl ha ⟨by omega, by omega⟩ ?_
      rw [rowI_ne hne]
      refine g_iastI dX6_copy_13 rfl hb ⟨by omega, by omega⟩ ?_
      refine g_iincI2 dX6_copy_14 rfl rfl rfl ⟨by omega, by omega⟩ (fun w14 h14 => ?_)
      refine g_goto (t := 2) dX6_copy_17 (by decide) ?_
      have h := ih _ (by omega) w14 rfl (by omega) (by omega)
      rw [h14, show (i.toInt + 1).toNat = i.toInt.toNat + 1 by omega, ← rowI_step (x := M.1 a i.toInt.toNat) rfl] at h
      exact h
set_option maxHeartbeats 4000000 in
theorem r_copy {Γ : gW} {a b : Nat} {M : gM} (ha : g_o Γ a (.inr (1, 30))) (hb : g_o Γ b (.inr (1, 30))) (hne : a ≠ b)  : Ct Γ yX6_copy μX6_copy 0 [.ref a, .ref b] M (g_qv (fun M1 => M1 = rowI M b (M.1 a) 30)) := by
  refine g_enter rfl rfl rfl (Nat.le_of_ble_eq_true rfl) ?_
  show G Γ _ _ _ _ 0 [some (.ref a), some (.ref b), none] [] M
  refine g_iconstI dX6_copy_0 rfl rfl (fun w0 h0 => ?_)
  refine g_istore_n2 dX6_copy_1 rfl rfl ?_
  have h := l_rcopy ha hb hne (M := M) (Q := g_qv (fun M1 => M1 = rowI M b (M.1 a) 30)) ⟨rfl, rfl⟩ _ w0 rfl (by omega) (by omega)
  rw [h0, show (0 : Int).toNat = 0 from rfl, rowI_0] at h
  exact h
def begRow : Nat → Int32 := fun j => if j < 12 ∨ 24 ≤ j then -1 else 0
set_option maxHeartbeats 4000000 in
theorem l_rbegin {Γ : gW} {a : Nat} {M : gM} (ha : g_o Γ a (.inr (1, 30))) {Q : Option Value → gM → Prop} (hQ : Q none (rowI M a begRow 30)) : ∀ (n9 : Nat) (i : Int32), 30 - i.toInt.toNat = n9 → 0 ≤ i.toInt → i.toInt ≤ 30 → G Γ μX6_begin (g_R 0) (0, 0) (g_Z Γ Q) 2 [some (.ref a), some (.int i)] [] (rowI M a begRow i.toInt.toNat) := by
  intro n9
  induction n9 using Nat.strongRecOn with
  | ind n9 ih =>
    intro i hn hi0 hi1
    refine g_iload_n1 dX6_begin_2 rfl ?_
    refine g_bipushI dX6_begin_3 rfl rfl (fun w3 h3 => ?_)
    refine g_icmp_geI (t := 34) dX6_begin_5 (by decide) rfl (fun c5 => ?_) (fun c5 => ?_)
    · -- 5 t
      refine g_vret dX6_begin_34 rfl ?_
      rw [show i.toInt.toNat = 30 by omega]; exact hQ
    · -- 5 f
      refine g_aload_n0 dX6_begin_8 rfl ?_
      refine g_iload_n1 dX6_begin_9 rfl ?_
      refine g_iload_n1 dX6_begin_10 rfl ?_
      refine g_bipushI dX6_begin_11 rfl rfl (fun w11 h11 => ?_)
      refine g_icmp_ltI (t := 22) dX6_begin_13 (by decide) rfl (fun c13 => ?_) (fun c13 => ?_)
      · -- 13 t
        refine g_iconstI dX6_begin_22 rfl rfl (fun w22 h22 => ?_)
        refine g_goto (t := 27) dX6_begin_23 (by decide) ?_
        refine g_iastI dX6_begin_27 rfl ha ⟨by omega, by omega⟩ ?_
        refine g_iincI1 dX6_begin_28 rfl rfl rfl ⟨by omega, by omega⟩ (fun w28 h28 => ?_)
        refine g_goto (t := 2) dX6_begin_31 (by decide) ?_
        have h := ih _ (by omega) w28 rfl (by omega) (by omega)
        first
          | (rw [h28, show (i.toInt + 1).toNat = i.toInt.toNat + 1 by omega, ← rowI_step (x := w22) (by rw [begRow, if_pos (by omega)]; exact i_ext h22)] at h; exact h)
          | (rw [h28, show (i.toInt + 1).toNat = i.toInt.toNat + 1 by omega, ← rowI_step (x := w26) (by rw [begRow, if_neg (by omega)]; exact i_ext h26)] at h; exact h)
      · -- 13 f
        refine g_iload_n1 dX6_begin_16 rfl ?_
        refine g_bipushI dX6_begin_17 rfl rfl (fun w17 h17 => ?_)
        refine g_icmp_ltI (t := 26) dX6_begin_19 (by decide) rfl (fun c19 => ?_) (fun c19 => ?_)
        · -- 19 t
          refine g_iconstI dX6_begin_26 rfl rfl (fun w26 h26 => ?_)
          refine g_iastI dX6_begin_27 rfl ha ⟨by omega, by omega⟩ ?_
          refine g_iincI1 dX6_begin_28 rfl rfl rfl ⟨by omega, by omega⟩ (fun w28 h28 => ?_)
          refine g_goto (t := 2) dX6_begin_31 (by decide) ?_
          have h := ih _ (by omega) w28 rfl (by omega) (by omega)
          first
            | (rw [h28, show (i.toInt + 1).toNat = i.toInt.toNat + 1 by omega, ← rowI_step (x := w22) (by rw [begRow, if_pos (by omega)]; exact i_ext h22)] at h; exact h)
            | (rw [h28, show (i.toInt + 1).toNat = i.toInt.toNat + 1 by omega, ← rowI_step (x := w26) (by rw [begRow, if_neg (by omega)]; exact i_ext h26)] at h; exact h)
        · -- 19 f
          refine g_iconstI dX6_begin_22 rfl rfl (fun w22 h22 => ?_)
          refine g_goto (t := 27) dX6_begin_23 (by decide) ?_
          refine g_iastI dX6_begin_27 rfl ha ⟨by omega, by omega⟩ ?_
          refine g_iincI1 dX6_begin_28 rfl rfl rfl ⟨by omega, by omega⟩ (fun w28 h28 => ?_)
          refine g_goto (t := 2) dX6_begin_31 (by decide) ?_
          have h := ih _ (by omega) w28 rfl (by omega) (by omega)
          first
            | (rw [h28, show (i.toInt + 1).toNat = i.toInt.toNat + 1 by omega, ← rowI_step (x := w22) (by rw [begRow, if_pos (by omega)]; exact i_ext h22)] at h; exact h)
            | (rw [h28, show (i.toInt + 1).toNat = i.toInt.toNat + 1 by omega, ← rowI_step (x := w26) (by rw [begRow, if_neg (by omega)]; exact i_ext h26)] at h; exact h)
set_option maxHeartbeats 4000000 in
theorem r_begin {Γ : gW} {a : Nat} {M : gM} (ha : g_o Γ a (.inr (1, 30)))  : Ct Γ yX6_begin μX6_begin 0 [.ref a] M (g_qv (fun M1 => M1 = rowI M a begRow 30)) := by
  refine g_enter rfl rfl rfl (Nat.le_of_ble_eq_true rfl) ?_
  show G Γ _ _ _ _ 0 [some (.ref a), none] [] M
  refine g_iconstI dX6_begin_0 rfl rfl (fun w0 h0 => ?_)
  refine g_istore_n1 dX6_begin_1 rfl rfl ?_
  have h := l_rbegin ha (M := M) (Q := g_qv (fun M1 => M1 = rowI M a begRow 30)) ⟨rfl, rfl⟩ _ w0 rfl (by omega) (by omega)
  rw [h0, show (0 : Int).toNat = 0 from rfl, rowI_0] at h
  exact h
/-- the row behind a gift -/
def mk0 (r : Nat → Int32) (s : Nat) (o : Int32) (i : Nat) : Nat → Int32 := fun j => if j < i ∧ s.testBit j = true then o else r j
def up1 (r : Nat → Int32) (k : Nat) (x : Int32) : Nat → Int32 := fun j => if j = k then x else r j
def mkRow (r : Nat → Int32) (th p s k : Nat) (n v oI pI : Int32) (law : Int) : Nat → Int32 :=
  let r0 := mk0 r s oI th
  let r1 := up1 r0 (12 + p) (r0 (12 + p) - n)
  let r2 := up1 r1 (12 + k) (r1 (12 + k) + n)
  up1 (up1 (up1 (up1 r2 (18 + p) 0) (24 + p) (-1)) (18 + k) v) (24 + k) (if law = 0 then pI else -1)
theorem mk0_yes {r : Nat → Int32} {s i : Nat} {o : Int32} (h : s.testBit i = true) (j : Nat) : (if j = i then o else mk0 r s o i j) = mk0 r s o (i + 1) j := by
  rw [mk0, mk0]
  by_cases hj : j = i
  · subst hj; rw [if_pos rfl, if_pos ⟨by omega, h⟩]
  · rw [if_neg hj]
    by_cases h2 : j < i ∧ s.testBit j = true
    · rw [if_pos h2, if_pos ⟨by omega, h2.2⟩]
    · rw [if_neg h2, if_neg (fun h3 => h2 ⟨by omega, h3.2⟩)]
theorem mk0_no {r : Nat → Int32} {s i : Nat} {o : Int32} (h : ¬ s.testBit i = true) : mk0 r s o i = mk0 r s o (i + 1) := by
  funext j
  rw [mk0, mk0]
  by_cases h2 : j < i ∧ s.testBit j = true
  · rw [if_pos h2, if_pos ⟨by omega, h2.2⟩]
  · rw [if_neg h2, if_neg (fun h3 => by
      by_cases hj : j = i
      · subst hj; exact h h3.2
      · exact h2 ⟨by omega, h3.2⟩)]
theorem mk0_0 {r : Nat → Int32} {s : Nat} {o : Int32} : mk0 r s o 0 = r := by funext j; rw [mk0, if_neg (by omega)]
theorem g_u_up {M : gM} {a k : Nat} {f : Nat → Int32} {x : Int32} : g_u (g_row M a f) a k x = g_row M a (up1 f k x) := g_u_row
set_option maxHeartbeats 4000000 in
theorem l_make {Γ : gW} {M : gM} {T : gTw} (hR : g_Ref Γ) (hO : TOK T) (hC : CR T M) (hW : WR T M) {a : Nat} (ha : g_o Γ a (.inr (1, 30))) {p s n k : Int32} (hp : 0 ≤ p.toInt ∧ p.toInt < 6) (hk : 0 ≤ k.toInt ∧ k.toInt < 6) (hs : 0 ≤ s.toInt ∧ s.toInt < (2 : Int) ^ (T 0 1).toNat) {v : Int32} {Q : Option Value → gM → Prop} (hk1 : ∀ i : Int32, G Γ μX6_make (g_R 1) (0, 0) (g_Z Γ Q) 46 [some (.ref 300), some (.ref a), some (.int p), some (.int s), some (.int n), some (.int k), some (.int v), some (.int i)] [] (g_row M a (mk0 (M.1 a) s.toInt.toNat k (T 0 1).toNat))) : ∀ (n9 : Nat) (i : Int32), (T 0 1).toNat - i.toInt.toNat = n9 → 0 ≤ i.toInt → i.toInt ≤ T 0 1 → G Γ μX6_make (g_R 1) (0, 0) (g_Z Γ Q) 13 [some (.ref 300), some (.ref a), some (.int p), some (.int s), some (.int n), some (.int k), some (.int v), some (.int i)] [] (g_row M a (mk0 (M.1 a) s.toInt.toNat k i.toInt.toNat)) := by
  intro n9
  induction n9 using Nat.strongRecOn with
  | ind n9 ih =>
    intro i hm hi0 hi1
    obtain ⟨o_pe, o_th, o_la, o_wi, o_da, o_we, o_p, o_i⟩ := id hO
    obtain ⟨r_0, r_1, r_2, r_3, r_p, r_i⟩ := id hC
    have n2 : (402 : Nat) ≠ a := g_o_ne (rf_told hR) ha (by decide)
    refine g_iload7 dX6_make_13 rfl ?_
    refine g_aload_n0 dX6_make_15 rfl ?_
    refine g_getr dX6_make_16 rfl fX6_25 hR.1 rfl ?_
    refine g_iconstI dX6_make_19 rfl rfl (fun w19 h19 => ?_)
    refine g_ialdI dX6_make_20 rfl (rf_told hR) ⟨by omega, by omega⟩ ?_
    rw [g_row_ne n2]
    have et20 : w19.toInt.toNat = 1 := by omega
    rw [et20]
    refine g_icmp_geI (t := 46) dX6_make_21 (by decide) rfl (fun c21 => ?_) (fun c21 => ?_)
    · -- 21 t
      rw [show i.toInt.toNat = (T 0 1).toNat by omega]; exact hk1 i
    · -- 21 f
      refine g_iload_n3 dX6_make_24 rfl ?_
      refine g_iload7 dX6_make_25 rfl ?_
      refine g_ishrB dX6_make_27 rfl ⟨by omega, by omega, by omega⟩ (fun w27 h27 => ?_)
      refine g_iconstI dX6_make_28 rfl rfl (fun w28 h28 => ?_)
      refine g_iandB dX6_make_29 rfl  (fun w29 h29 => ?_)
      have hbit := bit_and1 s.toInt.toNat i.toInt.toNat
      rw [h27, bn_lit (n := 1) h28, bn_toNat hs.1, hbit] at h29
      have h29c : w29.toInt = if s.toInt.toNat.testBit i.toInt.toNat then 1 else 0 := by
        rw [i_bn (by rw [h29]; split <;> omega), h29]; split <;> rfl
      refine g_iconstI dX6_make_30 rfl rfl (fun w30 h30 => ?_)
      refine g_icmp_neI (t := 40) dX6_make_31 (by decide) rfl (fun c31 => ?_) (fun c31 => ?_)
      · -- 31 t
        refine g_iincI7 dX6_make_40 rfl rfl rfl ⟨by omega, by omega⟩ (fun w40 h40 => ?_)
        refine g_goto (t := 13) dX6_make_43 (by decide) ?_
        have h := ih _ (by omega) w40 rfl (by omega) (by omega)
        rw [h40, show (i.toInt + 1).toNat = i.toInt.toNat + 1 by omega] at h
        first
          | (have hb : s.toInt.toNat.testBit i.toInt.toNat = true := by
               by_cases hb : s.toInt.toNat.testBit i.toInt.toNat = true
               · exact hb
               · rw [if_neg hb] at h29c; omega
             rw [g_row_congr (mk0_yes hb)]; exact h)
          | (have hb : ¬ s.toInt.toNat.testBit i.toInt.toNat = true := fun hb => by rw [if_pos hb] at h29c; omega
             rw [mk0_no hb]; exact h)
      · -- 31 f
        refine g_aload_n1 dX6_make_34 rfl ?_
        refine g_iload7 dX6_make_35 rfl ?_
        refine g_iload5 dX6_make_37 rfl ?_
        refine g_iastI dX6_make_39 rfl ha ⟨by omega, by omega⟩ ?_
        rw [g_u_row]
        refine g_iincI7 dX6_make_40 rfl rfl rfl ⟨by omega, by omega⟩ (fun w40 h40 => ?_)
        refine g_goto (t := 13) dX6_make_43 (by decide) ?_
        have h := ih _ (by omega) w40 rfl (by omega) (by omega)
        rw [h40, show (i.toInt + 1).toNat = i.toInt.toNat + 1 by omega] at h
        first
          | (have hb : s.toInt.toNat.testBit i.toInt.toNat = true := by
               by_cases hb : s.toInt.toNat.testBit i.toInt.toNat = true
               · exact hb
               · rw [if_neg hb] at h29c; omega
             rw [g_row_congr (mk0_yes hb)]; exact h)
          | (have hb : ¬ s.toInt.toNat.testBit i.toInt.toNat = true := fun hb => by rw [if_pos hb] at h29c; omega
             rw [mk0_no hb]; exact h)
set_option maxHeartbeats 4000000 in
theorem l_make2 {Γ : gW} {M : gM} {T : gTw} (hR : g_Ref Γ) (hO : TOK T) (hC : CR T M) (hW : WR T M) {a : Nat} (ha : g_o Γ a (.inr (1, 30))) {p s n k : Int32} (hp : 0 ≤ p.toInt ∧ p.toInt < 6) (hk : 0 ≤ k.toInt ∧ k.toInt < 6) (hs : 0 ≤ s.toInt ∧ s.toInt < (2 : Int) ^ (T 0 1).toNat) (hn : -10000 ≤ n.toInt ∧ n.toInt ≤ 10000) {v i1 : Int32} (hv : v.toInt = wtT T s.toInt.toNat + n.toInt) : G Γ μX6_make (g_R 1) (0, 0) (g_Z Γ (g_qi (fun z M1 => z.toInt = wtT T s.toInt.toNat + n.toInt ∧ M1 = g_row M a (mkRow (M.1 a) (T 0 1).toNat p.toInt.toNat s.toInt.toNat k.toInt.toNat n z k p (T 0 2))))) 46 [some (.ref 300), some (.ref a), some (.int p), some (.int s), some (.int n), some (.int k), some (.int v), some (.int i1)] [] (g_row M a (mk0 (M.1 a) s.toInt.toNat k (T 0 1).toNat)) := by
  obtain ⟨o_pe, o_th, o_la, o_wi, o_da, o_we, o_p, o_i⟩ := id hO
  obtain ⟨r_0, r_1, r_2, r_3, r_p, r_i⟩ := id hC
  have n2 : (402 : Nat) ≠ a := g_o_ne (rf_told hR) ha (by decide)
  refine g_aload_n1 dX6_make_46 rfl ?_
  refine g_bipushI dX6_make_47 rfl rfl (fun w47 h47 => ?_)
  refine g_iload_n2 dX6_make_49 rfl ?_
  refine g_iaddI dX6_make_50 rfl ⟨by omega, by omega⟩ (fun w50 h50 => ?_)
  refine g_dup2 dX6_make_51 rfl rfl rfl ?_
  refine g_ialdI dX6_make_52 rfl ha ⟨by omega, by omega⟩ ?_
  rw [g_row_at]
  refine g_iload4 dX6_make_53 rfl ?_
  refine g_isub dX6_make_55 rfl ?_
  refine g_iastI dX6_make_56 rfl ha ⟨by omega, by omega⟩ ?_
  rw [g_u_up]
  refine g_aload_n1 dX6_make_57 rfl ?_
  refine g_bipushI dX6_make_58 rfl rfl (fun w58 h58 => ?_)
  refine g_iload5 dX6_make_60 rfl ?_
  refine g_iaddI dX6_make_62 rfl ⟨by omega, by omega⟩ (fun w62 h62 => ?_)
  refine g_dup2 dX6_make_63 rfl rfl rfl ?_
  refine g_ialdI dX6_make_64 rfl ha ⟨by omega, by omega⟩ ?_
  rw [g_row_at]
  refine g_iload4 dX6_make_65 rfl ?_
  refine g_iadd dX6_make_67 rfl ?_
  refine g_iastI dX6_make_68 rfl ha ⟨by omega, by omega⟩ ?_
  rw [g_u_up]
  refine g_aload_n1 dX6_make_69 rfl ?_
  refine g_bipushI dX6_make_70 rfl rfl (fun w70 h70 => ?_)
  refine g_iload_n2 dX6_make_72 rfl ?_
  refine g_iaddI dX6_make_73 rfl ⟨by omega, by omega⟩ (fun w73 h73 => ?_)
  refine g_iconst (v := 0) dX6_make_74 rfl rfl ?_
  refine g_iastI dX6_make_75 rfl ha ⟨by omega, by omega⟩ ?_
  rw [g_u_up]
  refine g_aload_n1 dX6_make_76 rfl ?_
  refine g_bipushI dX6_make_77 rfl rfl (fun w77 h77 => ?_)
  refine g_iload_n2 dX6_make_79 rfl ?_
  refine g_iaddI dX6_make_80 rfl ⟨by omega, by omega⟩ (fun w80 h80 => ?_)
  refine g_iconst (v := -1) dX6_make_81 rfl rfl ?_
  refine g_iastI dX6_make_82 rfl ha ⟨by omega, by omega⟩ ?_
  rw [g_u_up]
  refine g_aload_n1 dX6_make_83 rfl ?_
  refine g_bipushI dX6_make_84 rfl rfl (fun w84 h84 => ?_)
  refine g_iload5 dX6_make_86 rfl ?_
  refine g_iaddI dX6_make_88 rfl ⟨by omega, by omega⟩ (fun w88 h88 => ?_)
  refine g_iload6 dX6_make_89 rfl ?_
  refine g_iastI dX6_make_91 rfl ha ⟨by omega, by omega⟩ ?_
  rw [g_u_up]
  refine g_aload_n1 dX6_make_92 rfl ?_
  refine g_bipushI dX6_make_93 rfl rfl (fun w93 h93 => ?_)
  refine g_iload5 dX6_make_95 rfl ?_
  refine g_iaddI dX6_make_97 rfl ⟨by omega, by omega⟩ (fun w97 h97 => ?_)
  refine g_aload_n0 dX6_make_98 rfl ?_
  refine g_getr dX6_make_99 rfl fX6_25 hR.1 rfl ?_
  refine g_iconstI dX6_make_102 rfl rfl (fun w102 h102 => ?_)
  refine g_ialdI dX6_make_103 rfl (rf_told hR) ⟨by omega, by omega⟩ ?_
  rw [g_row_ne n2]
  have et : w102.toInt.toNat = 2 := by omega
  rw [et]
  refine g_if_neI (t := 111) dX6_make_104 (by decide) rfl (fun c104 => ?_) (fun c104 => ?_)
  · -- 104 t
    refine g_iconst (v := -1) dX6_make_111 rfl rfl ?_
    refine g_iastI dX6_make_112 rfl ha ⟨by omega, by omega⟩ ?_
    rw [g_u_up]
    refine g_iload6 dX6_make_113 rfl ?_
    refine g_iret dX6_make_115 rfl ?_
    have q1 : w50.toInt.toNat = 12 + p.toInt.toNat := by omega
    have q2 : w62.toInt.toNat = 12 + k.toInt.toNat := by omega
    have q3 : w73.toInt.toNat = 18 + p.toInt.toNat := by omega
    have q4 : w80.toInt.toNat = 24 + p.toInt.toNat := by omega
    have q5 : w88.toInt.toNat = 18 + k.toInt.toNat := by omega
    have q6 : w97.toInt.toNat = 24 + k.toInt.toNat := by omega
    rw [q1, q2, q3, q4, q5, q6]
    refine ⟨v, rfl, hv, ?_⟩
    rw [mkRow]
    first
      | rw [if_pos (by omega)]
      | rw [if_neg (by omega)]
  · -- 104 f
    refine g_iload_n2 dX6_make_107 rfl ?_
    refine g_goto (t := 112) dX6_make_108 (by decide) ?_
    refine g_iastI dX6_make_112 rfl ha ⟨by omega, by omega⟩ ?_
    rw [g_u_up]
    refine g_iload6 dX6_make_113 rfl ?_
    refine g_iret dX6_make_115 rfl ?_
    have q1 : w50.toInt.toNat = 12 + p.toInt.toNat := by omega
    have q2 : w62.toInt.toNat = 12 + k.toInt.toNat := by omega
    have q3 : w73.toInt.toNat = 18 + p.toInt.toNat := by omega
    have q4 : w80.toInt.toNat = 24 + p.toInt.toNat := by omega
    have q5 : w88.toInt.toNat = 18 + k.toInt.toNat := by omega
    have q6 : w97.toInt.toNat = 24 + k.toInt.toNat := by omega
    rw [q1, q2, q3, q4, q5, q6]
    refine ⟨v, rfl, hv, ?_⟩
    rw [mkRow]
    first
      | rw [if_pos (by omega)]
      | rw [if_neg (by omega)]
set_option maxHeartbeats 4000000 in
theorem r_make {Γ : gW} {M : gM} {T : gTw} (hR : g_Ref Γ) (hO : TOK T) (hC : CR T M) (hW : WR T M) {a : Nat} (ha : g_o Γ a (.inr (1, 30))) {p s n k : Int32} (hp : 0 ≤ p.toInt ∧ p.toInt < 6) (hk : 0 ≤ k.toInt ∧ k.toInt < 6) (hs : 0 ≤ s.toInt ∧ s.toInt < (2 : Int) ^ (T 0 1).toNat) (hn : -10000 ≤ n.toInt ∧ n.toInt ≤ 10000) : Ct Γ yX6_make μX6_make 1 [.ref 300, .ref a, .int p, .int s, .int n, .int k] M (g_qi (fun z M1 => z.toInt = wtT T s.toInt.toNat + n.toInt ∧ M1 = g_row M a (mkRow (M.1 a) (T 0 1).toNat p.toInt.toNat s.toInt.toNat k.toInt.toNat n z k p (T 0 2)))) := by
  obtain ⟨o_pe, o_th, o_la, o_wi, o_da, o_we, o_p, o_i⟩ := id hO
  obtain ⟨r_0, r_1, r_2, r_3, r_p, r_i⟩ := id hC
  have ep : ((2 ^ (T 0 1).toNat : Nat) : Int) = (2 : Int) ^ (T 0 1).toNat := by simp
  have hp12 : 2 ^ (T 0 1).toNat ≤ 2 ^ 12 := Nat.pow_le_pow_right (by decide) (by omega)
  have hp12e : (2 : Nat) ^ 12 = 4096 := rfl
  have hsn : s.toInt.toNat < 2 ^ (T 0 1).toNat := by omega
  have hwt : wsum (T 7) (T 0 1).toNat s.toInt.toNat = wtT T s.toInt.toNat := (wsum_ext hsn (by omega)).symm
  have hwr := wsum_le (w := T 7) (B := 99) (n := 12) (s := s.toInt.toNat) (fun j hj => (o_i j hj).1) (by omega)
  rw [show wsum (T 7) 12 s.toInt.toNat = wtT T s.toInt.toNat from rfl] at hwr
  have n2 : (402 : Nat) ≠ a := g_o_ne (rf_told hR) ha (by decide)
  refine g_enter rfl rfl rfl (Nat.le_of_ble_eq_true rfl) ?_
  show G Γ _ _ _ _ 0 [some (.ref 300), some (.ref a), some (.int p), some (.int s), some (.int n), some (.int k), none, none] [] M
  refine g_aload_n0 dX6_make_0 rfl ?_
  refine g_iload_n3 dX6_make_1 rfl ?_
  refine g_callVi1 dX6_make_2 rfl vX6_273 hR.1 rfl (r_weightOf hR hO hC hW hs.1) (g_rm (by omega)) (Nat.le_of_ble_eq_true rfl) (fun z2 M2 e2 => ?_)
  obtain ⟨rfl, e2⟩ := e2
  rw [hwt] at e2
  refine g_iload4 dX6_make_5 rfl ?_
  refine g_iaddI dX6_make_7 rfl ⟨by omega, by omega⟩ (fun w7 h7 => ?_)
  refine g_istore6 dX6_make_8 rfl rfl ?_
  refine g_iconstI dX6_make_10 rfl rfl (fun w10 h10 => ?_)
  refine g_istore7 dX6_make_11 rfl rfl ?_
  have hgo := l_make hR hO hC hW ha hp hk hs (n := n) (v := w7) (fun i1 => l_make2 hR hO hC hW ha hp hk hs hn (v := w7) (i1 := i1) (by omega)) _ w10 rfl (by omega) (by omega)
  rw [h10, show (0 : Int).toNat = 0 from rfl, mk0_0, g_row_self] at hgo
  exact hgo
