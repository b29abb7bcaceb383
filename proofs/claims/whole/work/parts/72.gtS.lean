/-! looking for the fewest gifts: the states found (how many, which town, by how many gifts) and 1 where there were too many -/
def gfold {α : Type} (f : Nat → α → α) : Nat → α → α
  | 0, σ => σ
  | n + 1, σ => f n (gfold f n σ)
theorem gfold_tail {α : Type} {f : Nat → α → α} {i : Nat} {σ : α} (N : Nat) (h : i ≤ N) (hf : ∀ u, i ≤ u → u < N → f u (gfold f i σ) = gfold f i σ) : gfold f N σ = gfold f i σ := by
  obtain ⟨k, rfl⟩ : ∃ k, N = i + k := ⟨N - i, by omega⟩
  induction k with
  | zero => rfl
  | succ k ih =>
    have := ih (by omega) (fun u a b => hf u a (by omega))
    show f (i + k) (gfold f (i + k) σ) = _
    rw [this, hf _ (by omega) (by omega)]
theorem gfold_P {α : Type} {f : Nat → α → α} {P : α → Prop} {N : Nat} (hf : ∀ u σ, u < N → P σ → P (f u σ)) : ∀ (n : Nat) (σ : α), n ≤ N → P σ → P (gfold f n σ) := by
  intro n
  induction n with
  | zero => intro σ _ h; exact h
  | succ n ih => intro σ hn h; exact hf n _ (by omega) (ih σ (by omega) h)
abbrev gGt : Type := Nat × (Nat → gTw) × (Nat → Int) × Int
noncomputable def gcome (T : gTw) (b : Int) (σ : gGt) : gGt := @ite _ (∃ k, k < σ.1 ∧ σ.2.1 k = T) (Classical.propDecidable _) σ (if σ.1 = 1000 then (σ.1, σ.2.1, σ.2.2.1, 1) else (σ.1 + 1, (fun k => if k = σ.1 then T else σ.2.1 k), (fun k => if k = σ.1 then b else σ.2.2.1 k), σ.2.2.2))
noncomputable def chF (T : gTw) (p : Nat) : Int := Classical.epsilon (fun z => chosenT T p z)
theorem chF_eq {T : gTw} {p : Nat} {z : Int} (h : chosenT T p z) : chF T p = z := CH_uniq (Classical.epsilon_spec (p := fun z => chosenT T p z) ⟨z, h⟩) h
noncomputable def gTak (T : gTw) (p u : Nat) (b : Int) (k : Nat) (σ : gGt) : gGt := if ¬ k = p ∧ (T 5 p = -1 ∨ T 5 p = (k : Int)) then gcome (giftT T p u (sandT T p u) k) b σ else σ
noncomputable def gSet (T : gTw) (p : Nat) (b : Int) (u : Nat) (σ : gGt) : gGt := @ite _ (fitT T p u) (Classical.propDecidable _) (gfold (gTak T p u b) (T 0 0).toNat σ) σ
noncomputable def gPer (T : gTw) (who : Nat) (b : Int) (p : Nat) (σ : gGt) : gGt := if p = who then gfold (gSet T p b) 4096 σ else if chF T p = -1 then σ else gcome (choT T p (chF T p).toNat) b σ
noncomputable def gStK (who thing : Nat) (k : Nat) (σ : gGt × Int) : gGt × Int := if k < σ.1.1 ∧ σ.1.2.2.2 = 0 then (if (hasT (σ.1.2.1 k) who).testBit thing = true then (σ.1, if σ.2 = -1 then σ.1.2.2.1 k else σ.2) else (gfold (gPer (σ.1.2.1 k) who (σ.1.2.2.1 k + 1)) (σ.1.2.1 k 0 0).toNat σ.1, σ.2)) else σ
noncomputable def gGet (T : gTw) (who thing : Nat) : gGt × Int := gfold (gStK who thing) 1000 (gcome T 0 (0, (fun _ => T), (fun _ => 0), 0), -1)
noncomputable def getZ (T : gTw) (who thing : Nat) : Int := if (gGet T who thing).1.2.2.2 = 0 then (gGet T who thing).2 else -2
theorem gcome_old {T : gTw} {b : Int} {σ : gGt} (h : ∃ k, k < σ.1 ∧ σ.2.1 k = T) : gcome T b σ = σ := by rw [gcome, if_pos h]
theorem gcome_full {T : gTw} {b : Int} {σ : gGt} (h : ¬ ∃ k, k < σ.1 ∧ σ.2.1 k = T) (h2 : σ.1 = 1000) : gcome T b σ = (σ.1, σ.2.1, σ.2.2.1, 1) := by rw [gcome, if_neg h, if_pos h2]
theorem gcome_new {T : gTw} {b : Int} {σ : gGt} (h : ¬ ∃ k, k < σ.1 ∧ σ.2.1 k = T) (h2 : ¬ σ.1 = 1000) : gcome T b σ = (σ.1 + 1, (fun k => if k = σ.1 then T else σ.2.1 k), (fun k => if k = σ.1 then b else σ.2.2.1 k), σ.2.2.2) := by rw [gcome, if_neg h, if_neg h2]
/-- too many: nothing comes any more -/
def gEnd (σ : gGt) : Prop := σ.1 = 1000 ∧ σ.2.2.2 = 1
theorem gcome_end {T : gTw} {b : Int} {σ : gGt} (h : gEnd σ) : gcome T b σ = σ := by
  by_cases h2 : ∃ k, k < σ.1 ∧ σ.2.1 k = T
  · exact gcome_old h2
  · rw [gcome_full h2 h.1]
    obtain ⟨a, b, c, d⟩ := σ
    have : d = 1 := h.2
    subst this; rfl
theorem gfold_end {f : Nat → gGt → gGt} (hf : ∀ u σ, gEnd σ → f u σ = σ) : ∀ (n : Nat) (σ : gGt), gEnd σ → gfold f n σ = σ := by
  intro n
  induction n with
  | zero => intro σ _; rfl
  | succ n ih => intro σ h; show f n (gfold f n σ) = σ; rw [ih σ h]; exact hf n σ h
theorem gTak_end {T : gTw} {p u k : Nat} {b : Int} {σ : gGt} (h : gEnd σ) : gTak T p u b k σ = σ := by
  rw [gTak]; split
  · exact gcome_end h
  · rfl
theorem gSet_end {T : gTw} {p u : Nat} {b : Int} {σ : gGt} (h : gEnd σ) : gSet T p b u σ = σ := by
  rw [gSet]
  by_cases hf : fitT T p u
  · rw [if_pos hf]; exact gfold_end (fun u σ h => gTak_end h) _ _ h
  · rw [if_neg hf]
theorem gPer_end {T : gTw} {who p : Nat} {b : Int} {σ : gGt} (h : gEnd σ) : gPer T who b p σ = σ := by
  rw [gPer]; split
  · exact gfold_end (fun u σ h => gSet_end h) _ _ h
  · split
    · rfl
    · exact gcome_end h
/-- only the gifts' side of those who are there has moved -/
def TX (T0 T : gTw) : Prop := ∀ f i : Nat, ((f ≠ 3 ∧ f ≠ 4 ∧ f ≠ 5 ∧ f ≠ 6) ∨ T0 0 0 ≤ (i : Int)) → T f i = T0 f i
theorem TX.rf {T : gTw} : TX T T := fun _ _ _ => rfl
theorem TX.gift {T0 T : gTw} {g s k : Nat} {n : Int} (h : TX T0 T) (hg : (g : Int) < T0 0 0) (hk : (k : Int) < T0 0 0) : TX T0 (giftT T g s n k) := by
  intro f i hf
  rw [← h f i hf]
  simp only [giftT, handT, upT]
  have q1 : ¬ (f = 5 ∧ i = k) := fun e => by omega
  have q2 : ¬ (f = 4 ∧ i = k) := fun e => by omega
  have q3 : ¬ (f = 5 ∧ i = g) := fun e => by omega
  have q4 : ¬ (f = 4 ∧ i = g) := fun e => by omega
  have q5 : ¬ (f = 3 ∧ i = k) := fun e => by omega
  have q6 : ¬ (f = 3 ∧ i = g) := fun e => by omega
  have q7 : ¬ (f = 6 ∧ i = k) := fun e => by omega
  have q8 : ¬ (f = 6 ∧ i = g) := fun e => by omega
  rw [if_neg q1, if_neg q2, if_neg q3, if_neg q4, if_neg q5, if_neg q6, if_neg q7, if_neg q8]
theorem TX.o {T0 T : gTw} (h : TX T0 T) (i : Nat) : T 0 i = T0 0 i := h 0 i (Or.inl (by decide))
/-- a row's cells of those who are not there -/
def RX (T0 : gTw) (r0 r : Nat → Int32) : Prop := (∀ j : Nat, T0 0 1 ≤ (j : Int) → j < 12 → r j = r0 j) ∧ ∀ p : Nat, p < 6 → T0 0 0 ≤ (p : Int) → r (12 + p) = r0 (12 + p) ∧ r (18 + p) = r0 (18 + p) ∧ r (24 + p) = r0 (24 + p)
theorem RX.ext {T0 : gTw} {r0 r r' : Nat → Int32} (h : RX T0 r0 r) (e : ∀ j, j < 30 → r' j = r j) : RX T0 r0 r' := ⟨fun j a b => by rw [e j (by omega)]; exact h.1 j a b, fun p a b => by rw [e _ (by omega), e _ (by omega), e _ (by omega)]; exact h.2 p a b⟩
theorem RX.mk {T0 : gTw} {r0 r : Nat → Int32} {th p s k : Nat} {n v oI pI : Int32} {law : Int} (h : RX T0 r0 r) (hth : th ≤ 12) (hth2 : (th : Int) = T0 0 1) (h6 : T0 0 0 ≤ 6) (hp : (p : Int) < T0 0 0) (hk : (k : Int) < T0 0 0) (hpk : p ≠ k) : RX T0 r0 (mkRow r th p s k n v oI pI law) := by
  refine ⟨fun j a b => ?_, fun q a b => ?_⟩
  · rw [mk_lt b, mk0, if_neg (by omega)]; exact h.1 j a b
  · rw [mk_12 hth (by omega) (by omega) a hpk, mk_18 hth (by omega) (by omega) a, mk_24 hth (by omega) (by omega) a, if_neg (by omega), if_neg (by omega), if_neg (by omega), if_neg (by omega), if_neg (by omega), if_neg (by omega)]
    exact h.2 q a b
theorem row_eq {T0 T T' : gTw} {r0 r r' : Nat → Int32} (hI : INV T) (hI' : INV T') (hX : TX T0 T) (hX' : TX T0 T') (hr : RW T r) (hr' : RW T' r') (hx : RX T0 r0 r) (hx' : RX T0 r0 r') : (∀ j, j < 30 → r j = r' j) ↔ T = T' := by
  have e0 := hX.o 0
  have e0' := hX'.o 0
  have e1 := hX.o 1
  have e1' := hX'.o 1
  have hO := hI.1
  have hO' := hI'.1
  have b0 := hO.1
  have b1 := hO.2.1
  constructor
  · intro h
    funext f i
    by_cases hf : (f ≠ 3 ∧ f ≠ 4 ∧ f ≠ 5 ∧ f ≠ 6) ∨ T0 0 0 ≤ (i : Int)
    · rw [hX f i hf, hX' f i hf]
    · have hi : (i : Int) < T0 0 0 := by omega
      obtain ⟨a1, a2, a3, a4⟩ := hr.1 i (by omega)
      obtain ⟨c1, c2, c3, c4⟩ := hr'.1 i (by omega)
      rcases (show f = 3 ∨ f = 4 ∨ f = 5 ∨ f = 6 by omega) with rfl | rfl | rfl | rfl
      · rw [← a1, ← c1, h _ (by omega)]
      · rw [← a2, ← c2, h _ (by omega)]
      · rw [← a3, ← c3, h _ (by omega)]
      · have hh : hasT T i = hasT T' i := by
          refine Nat.eq_of_testBit_eq fun j => ?_
          have q := a4 j
          have q' := c4 j
          have hj : (hasT T i).testBit j = true ↔ (hasT T' i).testBit j = true := by
            rw [q, q', e1, e1']
            by_cases hj : (j : Int) < T0 0 1
            · rw [h j (by omega)]
            · exact ⟨fun h => absurd h.1 hj, fun h => absurd h.1 hj⟩
          cases hb : (hasT T i).testBit j <;> cases hb' : (hasT T' i).testBit j
          · rfl
          · rw [hb, hb'] at hj; exact absurd (hj.mpr rfl) (by decide)
          · rw [hb, hb'] at hj; exact absurd (hj.mp rfl) (by decide)
          · rfl
        have z1 := (hO.2.2.2.2.2.2.1 i (by omega)).2.2.2.2.2.1
        have z2 := (hO'.2.2.2.2.2.2.1 i (by omega)).2.2.2.2.2.1
        have h1 : hasT T i = (T 6 i).toNat := rfl
        have h2 : hasT T' i = (T' 6 i).toNat := rfl
        omega
  · rintro rfl j hj
    by_cases h12 : j < 12
    · by_cases hj1 : (j : Int) < T0 0 1
      · refine i_ext ?_
        rw [← RW.hold hr (by omega) (i := j) (by omega), ← RW.hold hr' (by omega) (i := j) (by omega)]
      · rw [hx.1 j (by omega) h12, hx'.1 j (by omega) h12]
    · obtain ⟨c, p, hp, hc, rfl⟩ : ∃ c p, p < 6 ∧ (c = 12 ∨ c = 18 ∨ c = 24) ∧ j = c + p := by
        by_cases h18 : j < 18
        · exact ⟨12, j - 12, by omega, Or.inl rfl, by omega⟩
        · by_cases h24 : j < 24
          · exact ⟨18, j - 18, by omega, Or.inr (Or.inl rfl), by omega⟩
          · exact ⟨24, j - 24, by omega, Or.inr (Or.inr rfl), by omega⟩
      by_cases hpp : (p : Int) < T0 0 0
      · obtain ⟨a1, a2, a3, -⟩ := hr.1 p (by omega)
        obtain ⟨c1, c2, c3, -⟩ := hr'.1 p (by omega)
        refine i_ext ?_
        rcases hc with rfl | rfl | rfl
        · rw [a1, c1]
        · rw [a2, c2]
        · rw [a3, c3]
      · obtain ⟨a1, a2, a3⟩ := hx.2 p hp (by omega)
        obtain ⟨c1, c2, c3⟩ := hx'.2 p hp (by omega)
        rcases hc with rfl | rfl | rfl
        · rw [a1, c1]
        · rw [a2, c2]
        · rw [a3, c3]
/-! the reference's states -/
def fold32 (r : Nat → Int32) : Nat → Int32
  | 0 => 0
  | k + 1 => 31 * fold32 r k + r k
def foN (r : Nat → Int32) : Nat := bn (fold32 r 30) &&& 4095
theorem foN_lt (r : Nat → Int32) : foN r < 4096 := Nat.lt_of_le_of_lt Nat.and_le_right (by decide)
theorem fold32_ext {r r' : Nat → Int32} : ∀ n, (∀ j, j < n → r' j = r j) → fold32 r' n = fold32 r n := by
  intro n
  induction n with
  | zero => intro _; rfl
  | succ n ih => intro h; rw [fold32, fold32, ih (fun j hj => h j (by omega)), h n (by omega)]
theorem foN_ext {r r' : Nat → Int32} (h : ∀ j, j < 30 → r' j = r j) : foN r' = foN r := by rw [foN, foN, fold32_ext 30 h]
def stR (M : gM) (k : Nat) : Nat → Int32 := fun j => M.1 438 (30 * k + j)
def GT1 (T0 : gTw) (r0 : Nat → Int32) (σ : gGt) (M : gM) (k : Nat) : Prop := INV (σ.2.1 k) ∧ TX T0 (σ.2.1 k) ∧ RW (σ.2.1 k) (stR M k) ∧ RX T0 r0 (stR M k) ∧ (M.1 439 k).toInt = σ.2.2.1 k ∧ 0 ≤ σ.2.2.1 k ∧ σ.2.2.1 k ≤ (k : Int)
def GTH (m : Nat) (M : gM) (f : Nat) : Prop := ((M.1 441 f).toInt = -1 ∨ ∃ h : Nat, (M.1 441 f).toInt = (h : Int) ∧ h < m ∧ foN (stR M h) = f) ∧ ∀ k, k < m → foN (stR M k) = f → (k : Int) ≤ (M.1 441 f).toInt
def GTN (M : gM) (j : Nat) : Prop := ((M.1 440 j).toInt = -1 ∨ ∃ h : Nat, (M.1 440 j).toInt = (h : Int) ∧ h < j ∧ foN (stR M h) = foN (stR M j)) ∧ ∀ k, k < j → foN (stR M k) = foN (stR M j) → (k : Int) ≤ (M.1 440 j).toInt
def GTR (T0 : gTw) (r0 : Nat → Int32) (σ : gGt) (M : gM) : Prop := (M.1 300 44).toInt = (σ.1 : Int) ∧ σ.1 ≤ 1000 ∧ (M.1 300 45).toInt = σ.2.2.2 ∧ (σ.2.2.2 = 0 ∨ gEnd σ) ∧ (∀ k, k < σ.1 → GT1 T0 r0 σ M k) ∧ (∀ f, f < 4096 → GTH σ.1 M f) ∧ ∀ j, j < σ.1 → GTN M j
def frG (M M' : gM) : Prop := (∀ j, j ≠ 300 → j ≠ 438 → j ≠ 439 → j ≠ 440 → j ≠ 441 → j ≠ 443 → M'.1 j = M.1 j) ∧ M'.2 = M.2 ∧ ∀ k, k ≠ 44 → k ≠ 45 → M'.1 300 k = M.1 300 k
theorem frG.rf {M : gM} : frG M M := ⟨fun _ _ _ _ _ _ _ => rfl, rfl, fun _ _ _ => rfl⟩
theorem frG.tr {M M1 M2 : gM} (h : frG M M1) (h2 : frG M1 M2) : frG M M2 := ⟨fun j a b c d e f => by rw [h2.1 j a b c d e f, h.1 j a b c d e f], by rw [h2.2.1, h.2.1], fun k a b => by rw [h2.2.2 k a b, h.2.2 k a b]⟩
