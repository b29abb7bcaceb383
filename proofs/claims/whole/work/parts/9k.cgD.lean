/-- row i of the long memory taken anew -/
def g_rowL (M : gM) (i : Nat) (f : Nat → Int64) : gM := (M.1, fun a b => if a = i then f b else M.2 a b)
theorem g_rowL_at {M : gM} {i : Nat} {f : Nat → Int64} : (g_rowL M i f).2 i = f := by funext b; simp [g_rowL]
theorem g_rowL_ne {M : gM} {i j : Nat} {f : Nat → Int64} (h : j ≠ i) : (g_rowL M i f).2 j = M.2 j := by funext b; simp [g_rowL, h]
theorem g_E_rowL {Γ : gW} {M : gM} {i j : Nat} {f : Nat → Int64} (h : j ≠ i) : g_E Γ (g_rowL M i f) j = g_E Γ M j := by
  simp only [g_E, g_rowL_ne h]; rfl
theorem g_acopyL {Γ : gW} {μ : gY} {R : Room} {kn : Nat × Nat} {Z : gZ} {pc q : Nat} {lv : List (Option Value)} {st : List Value} {M : gM} {idx i j n0 n1 : Nat} {sp dp n : Int32} (hd : decode μ.1 pc = .ok (.invokestatic idx, 3)) (hq : pc + 3 = q) (hl : Cond.methodLink μ.2.1 idx arraycopyName ∈ g_UW) (h2 : Cond.static arraycopyName ∈ g_UW) (h3 : Cond.initialized "java/lang/System" ∈ g_UW) (h4 : Cond.native arraycopyName ∈ g_UW) (ho : g_o Γ i (.inr (2, n1))) (hj : g_o Γ j (.inr (2, n0)))
    (b1 : 0 ≤ sp.toInt) (b2 : 0 ≤ dp.toInt) (b3 : 0 ≤ n.toInt) (b4 : sp.toInt + n.toInt ≤ n0) (b5 : dp.toInt + n.toInt ≤ n1) (hR : 1 ≤ R.frames ∧ (st.map fun v => v.category).sum + 18 ≤ R.locals)
    (k : G Γ μ R kn Z q lv st (g_rowL M i (va_cpy (M.2 j) (M.2 i) sp.toInt.toNat dp.toInt.toNat n.toInt.toNat))) : G Γ μ R kn Z pc lv (.int n :: .int dp :: .ref i :: .int sp :: .ref j :: st) M := by
  subst hq
  intro p l e s m args below meth c H locs A ls F X
  obtain ⟨hP, hD, hS, hL⟩ := X
  have hcat : ((st.map (g_v Γ.2.2.1)).map fun v => v.category) = st.map fun v => v.category := by
    rw [List.map_map]; exact List.map_congr_left fun v _ => g_cat v
  have hT := F.2.2.2.2.2.2.1
  obtain ⟨q1, h1, g1⟩ := g_ws_at (M := M) ho.1
  rw [g_E_arrl ho.2] at g1
  obtain ⟨q0, h0, g0⟩ := g_ws_at (M := M) hj.1
  rw [g_E_arrl hj.2] at g0
  have nn : ∀ x : Int32, 0 ≤ x.toInt → ¬ x < 0 := fun x hx h => by
    have := Int32.lt_iff_toInt_lt.mp h
    have e0 : (0 : Int32).toInt = 0 := rfl
    omega
  have e1 : (g_ws Γ M).set q1 (Γ.2.2.1 i, .inl (Γ.2.1 2, n1, .inr (.inl (va_cpy (M.2 j) (M.2 i) sp.toInt.toNat dp.toInt.toNat n.toInt.toNat)))) = g_ws Γ (g_rowL M i (va_cpy (M.2 j) (M.2 i) sp.toInt.toNat dp.toInt.toNat n.toInt.toNat)) := g_ws_set hD h1 (by rw [g_E_arrl ho.2, g_rowL_at]) (fun j hj => g_E_rowL hj)
  refine va_copyl F.1 F.2.1 (by rw [F.2.2.2.2.1, hL.1]) F.2.2.2.2.2.1 (hT _ hl) (hT _ h4) (hT _ h2) (hT _ h3) F.2.2.2.2.2.2.2.1 hP hD hS q0 q1 2 2 g0 g1 rfl rfl rfl (nn sp b1) (nn dp b2) (nn n b3) (by show sp.toInt.toNat + n.toInt.toNat ≤ n0; omega) (by show dp.toInt.toNat + n.toInt.toNat ≤ n1; omega) (fun _ _ => rfl) hR.1 (by rw [hcat]; exact hR.2) hd (fun H1 locs1 hP1 hD1 hS1 => ?_)
  have hP2 : va_P Γ.1 vwCl ((g_ws Γ M).set q1 (Γ.2.2.1 i, .inl (Γ.2.1 2, n1, .inr (.inl (va_cpy (M.2 j) (M.2 i) sp.toInt.toNat dp.toInt.toNat n.toInt.toNat))))) H1 := hP1
  have hD2 : va_D A ((g_ws Γ M).set q1 (Γ.2.2.1 i, .inl (Γ.2.1 2, n1, .inr (.inl (va_cpy (M.2 j) (M.2 i) sp.toInt.toNat dp.toInt.toNat n.toInt.toNat))))) := hD1
  rw [e1] at hP2 hD2
  exact k p l e s m args below meth c H1 locs1 A ls F ⟨hP2, hD2, hS1, hL⟩
/-! the states that the class has found -/
def stL (M : gM) (k : Nat) : Nat → Int64 := fun q => M.2 251 (6 * k + q)
def hN (f : Nat → Int64) : Nat := (hS f).toInt.toNat
theorem hN_lt (f : Nat → Int64) : hN f < 2048 := by have := hS_rng f; rw [hN]; omega
def slt (M : gM) (s : Nat) : Int := (M.1 252 (s % 2048)).toInt
def GCs (n : Nat) (M : gM) : Prop := (∀ s, s < 2048 → 0 ≤ slt M s ∧ slt M s ≤ (n : Int)) ∧ (∀ s s', s < 2048 → s' < 2048 → slt M s = slt M s' → ¬ slt M s = 0 → s = s') ∧ ∀ k, k < n → ∃ d, d < 2048 ∧ slt M (hN (stL M k) + d) = (k : Int) + 1 ∧ ∀ d', d' < d → ¬ slt M (hN (stL M k) + d') = 0
def GC1 (T0 : gTw) (T : gTw) (f : Nat → Int64) : Prop := INV T ∧ TX T0 T ∧ ∀ q, q < 6 → ln (f q) = PKr T q
def GC (T0 : gTw) (σ : gGt) (M : gM) : Prop := (M.1 250 4).toInt = (σ.1 : Int) ∧ σ.1 ≤ 1000 ∧ (M.1 250 5).toInt = σ.2.2.2 ∧ (σ.2.2.2 = 0 ∨ gEnd σ) ∧ (∀ k, k < σ.1 → GC1 T0 (σ.2.1 k) (stL M k)) ∧ GCs σ.1 M
theorem slt_mod {M : gM} {s : Nat} : slt M (s % 2048) = slt M s := by rw [slt, slt, Nat.mod_mod]
theorem pkr_eq {T0 T T' : gTw} {f g : Nat → Int64} (h : GC1 T0 T f) (h' : GC1 T0 T' g) : (∀ q, q < 6 → f q = g q) ↔ T = T' := by
  obtain ⟨a1, a2, a3⟩ := h
  obtain ⟨c1, c2, c3⟩ := h'
  have e0 := a2.o 0
  have e0' := c2.o 0
  have hb := a1.1.1
  constructor
  · intro hq
    funext F i
    by_cases hF : (F ≠ 3 ∧ F ≠ 4 ∧ F ≠ 5 ∧ F ≠ 6) ∨ T0 0 0 ≤ (i : Int)
    · rw [a2 F i hF, c2 F i hF]
    · have hi : i < 6 := by omega
      have h1 := a3 i hi
      have h2 := c3 i hi
      rw [hq i hi, h2, PKr, PKr, if_pos (by omega), if_pos (by omega)] at h1
      have := PK_inj c1.1 a1.1 hi h1
      rcases (show F = 3 ∨ F = 4 ∨ F = 5 ∨ F = 6 by omega) with rfl | rfl | rfl | rfl
      · exact this.1.symm
      · exact this.2.1.symm
      · exact this.2.2.1.symm
      · exact this.2.2.2.symm
  · rintro rfl q hq
    exact l_ext (by rw [a3 q hq, c3 q hq])
/-- the rest of the table is full of others: an empty place comes -/
theorem slots_free {n : Nat} {M : gM} (h : GCs n M) (hn : n ≤ 1000) (s : Nat) : ∃ d, d < 2048 ∧ slt M (s + d) = 0 := by
  by_cases hx : ∃ d, d < 2048 ∧ slt M (s + d) = 0
  · exact hx
  · exfalso
    have hall : ∀ u, u < 2048 → ¬ slt M u = 0 := fun u hu q => by
      refine hx ⟨(u + 2048 - s % 2048) % 2048, Nat.mod_lt _ (by decide), ?_⟩
      have hs : s % 2048 < 2048 := Nat.mod_lt _ (by decide)
      have e : (s + (u + 2048 - s % 2048) % 2048) % 2048 = u := by omega
      rw [← slt_mod, e]; exact q
    have := pig n 2048 (fun u => (slt M u).toNat) (fun u hu => by have a := h.1 u hu; have b := hall u hu; constructor <;> omega) (fun u v hu hv e => by
      have a := h.1 u hu
      have b := h.1 v hv
      exact h.2.1 u v hu hv (by omega) (hall u hu))
    omega
