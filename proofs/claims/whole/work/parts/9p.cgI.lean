/-- what is there stays, what is new has b gifts -/
def gNb (b : Int) (σ σ' : gGt) : Prop := gKp σ σ' ∧ ∀ j, σ.1 ≤ j → j < σ'.1 → σ'.2.2.1 j = b
theorem gNb.rf {b : Int} {σ : gGt} : gNb b σ σ := ⟨gKp.rf, fun j a c => by omega⟩
theorem gNb.tr {b : Int} {σ σ1 σ2 : gGt} (h : gNb b σ σ1) (h2 : gNb b σ1 σ2) : gNb b σ σ2 := by
  refine ⟨gKp.tr h.1 h2.1, fun j a c => ?_⟩
  by_cases hj : j < σ1.1
  · rw [(h2.1.2 j hj).2]; exact h.2 j a hj
  · exact h2.2 j (by omega) c
theorem gcome_nb {T : gTw} {b : Int} {σ : gGt} : gNb b σ (gcome T b σ) := by
  refine ⟨gcome_kp, fun j a c => ?_⟩
  by_cases h : ∃ k, k < σ.1 ∧ σ.2.1 k = T
  · rw [gcome_old h] at c; omega
  · by_cases h2 : σ.1 = 1000
    · rw [gcome_full h h2] at c
      have c2 : j < σ.1 := c
      omega
    · rw [gcome_new h h2] at c ⊢
      have c2 : j < σ.1 + 1 := c
      exact if_pos (by omega)
theorem gfold_nb {b : Int} {f : Nat → gGt → gGt} (hf : ∀ u σ, gNb b σ (f u σ)) : ∀ (n : Nat) (σ : gGt), gNb b σ (gfold f n σ) := by
  intro n
  induction n with
  | zero => intro σ; exact gNb.rf
  | succ n ih => intro σ; exact gNb.tr (ih σ) (hf n _)
theorem gTak_nb {T : gTw} {p u k : Nat} {b : Int} {σ : gGt} : gNb b σ (gTak T p u b k σ) := by
  rw [gTak]; split
  · exact gcome_nb
  · exact gNb.rf
theorem gSet_nb {T : gTw} {p u : Nat} {b : Int} {σ : gGt} : gNb b σ (gSet T p b u σ) := by
  by_cases hf : fitT T p u
  · rw [gSet, if_pos hf]; exact gfold_nb (fun u σ => gTak_nb) _ _
  · rw [gSet, if_neg hf]; exact gNb.rf
theorem gPer_nb {T : gTw} {who p : Nat} {b : Int} {σ : gGt} : gNb b σ (gPer T who b p σ) := by
  rw [gPer]; split
  · exact gfold_nb (fun u σ => gSet_nb) _ _
  · split
    · exact gNb.rf
    · exact gcome_nb
/-- the level that is being gone through: g gifts, up to e -/
def gLev (σ : gGt) (k : Nat) (g : Int) (e : Nat) : Prop := k ≤ e ∧ e ≤ σ.1 ∧ (∀ j, k ≤ j → j < e → σ.2.2.1 j = g) ∧ ∀ j, e ≤ j → j < σ.1 → σ.2.2.1 j = g + 1
theorem gLev.on {σ : gGt} {k : Nat} {g : Int} {e : Nat} (h : gLev σ k g e) (hk : k = e) (hlt : k < σ.1) : gLev σ k (g + 1) σ.1 := ⟨by omega, Nat.le_refl _, fun j a c => h.2.2.2 j (by omega) c, fun j a c => by omega⟩
theorem gLev.step {σ σ' : gGt} {k : Nat} {g : Int} {e : Nat} (h : gLev σ k g e) (hk : k < e) (hn : gNb (g + 1) σ σ') : gLev σ' (k + 1) g e := by
  obtain ⟨a, b, c, d⟩ := h
  refine ⟨by omega, Nat.le_trans b hn.1.1, fun j q1 q2 => ?_, fun j q1 q2 => ?_⟩
  · rw [(hn.1.2 j (by omega)).2]; exact c j (by omega) q2
  · by_cases hj : j < σ.1
    · rw [(hn.1.2 j hj).2]; exact d j q1 hj
    · exact hn.2 j (by omega) q2
set_option maxHeartbeats 1200000 in
theorem l_fillS {Γ : gW} {i n : Nat} (hi : g_o Γ i (.inr (3, n))) {M0 : gM} {v nI : Int32} (hn : nI.toInt = (n : Int)) (hn2 : n < 100000) (hv : vp_nar .short v = v) {Q : Option Value → gM → Prop} (hQ : ∀ M : gM, (∀ j, j ≠ i → M.1 j = M0.1 j) → M.2 = M0.2 → (∀ k, k < n → M.1 i k = v) → Q none M) : ∀ (n9 : Nat) (a : Int32) (M : gM), n - a.toInt.toNat = n9 → 0 ≤ a.toInt → a.toInt ≤ n → (∀ j, j ≠ i → M.1 j = M0.1 j) → M.2 = M0.2 → (∀ k, k < a.toInt.toNat → M.1 i k = v) → G Γ μJ7_fs (g_R 0) (0, 0) (g_Z Γ Q) 5 [some (.ref i), some (.int v), some (.int a), some (.int nI)] [] M := by
  intro n9
  induction n9 using Nat.strongRecOn with
  | ind n9 ih =>
    intro a M h9 ha0 ha1 g1 g2 g3
    refine g_iload_n2 dJ7_fill_fb410_5 rfl ?_
    refine g_iload_n3 dJ7_fill_fb410_6 rfl ?_
    refine g_icmp_geI (t := 20) dJ7_fill_fb410_7 (by decide) rfl (fun c7 => ?_) (fun c7 => ?_)
    · -- 7 t
      refine g_vret dJ7_fill_fb410_20 rfl ?_
      exact hQ M g1 g2 (fun k hk => g3 k (by omega))
    · -- 7 f
      refine g_aload_n0 dJ7_fill_fb410_10 rfl ?_
      refine g_iload_n2 dJ7_fill_fb410_11 rfl ?_
      refine g_iload_n1 dJ7_fill_fb410_12 rfl ?_
      refine g_sastI dJ7_fill_fb410_13 rfl hi ⟨by omega, by omega⟩ ?_
      rw [hv]
      refine g_iincI2 dJ7_fill_fb410_14 rfl rfl rfl ⟨by omega, by omega⟩ (fun w14 h14 => ?_)
      refine g_goto (t := 5) dJ7_fill_fb410_17 (by decide) ?_
      refine ih _ (show n - w14.toInt.toNat < n9 by omega) w14 _ rfl (by omega) (by omega) (fun j hj => by rw [g_u_ne hj]; exact g1 j hj) (by exact g2) (fun k hk => ?_)
      rw [g_u_eq]
      split
      · rfl
      · exact g3 k (by omega)
set_option maxHeartbeats 1200000 in
theorem j_fillS {Γ : gW} {i n : Nat} (hi : g_o Γ i (.inr (3, n))) (hn : n < 100000) {M : gM} {v : Int32} (hv : vp_nar .short v = v) : Ct Γ yJ7_fill_fb410 μJ7_fs 0 [.ref i, .int v] M (g_qv (fun M1 => (∀ j, j ≠ i → M1.1 j = M.1 j) ∧ M1.2 = M.2 ∧ ∀ k, k < n → M1.1 i k = v)) := by
  refine g_enter rfl rfl rfl (Nat.le_of_ble_eq_true rfl) ?_
  show G Γ _ _ _ _ 0 [some (.ref i), some (.int v), none, none] [] M
  refine g_iconstI dJ7_fill_fb410_0 rfl rfl (fun w0 h0 => ?_)
  refine g_istore_n2 dJ7_fill_fb410_1 rfl rfl ?_
  refine g_aload_n0 dJ7_fill_fb410_2 rfl ?_
  refine g_alen dJ7_fill_fb410_3 rfl hi (by decide) rfl ?_
  refine g_istore_n3 dJ7_fill_fb410_4 rfl rfl ?_
  refine l_fillS hi (nI := Int32.ofNat n) (by rw [i_of (by omega)]) hn hv (M0 := M) (fun M1 a c d => ⟨rfl, a, c, d⟩) _ _ _ rfl (by omega) (by omega) (fun _ _ => rfl) rfl (fun k hk => by omega)
