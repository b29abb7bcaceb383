/-! handing things and sand over alone -/
theorem fit_can {T : gTw} {p n : Nat} (hO : TOK T) (hp : (p : Int) < T 0 0) (hf : fitT T p n) (hown : own T) : canG T p n (sandT T p n) (takerT T p).toNat ∧ 0 ≤ takerT T p ∧ takerT T p < T 0 0 := by
  obtain ⟨⟨m1, m2⟩, m3, m4, m5⟩ := hf
  have hb := hO.2.2.2.2.2.2.1 p (by have := hO.1; omega)
  have htk : 0 ≤ takerT T p ∧ takerT T p < T 0 0 ∧ ¬ takerT T p = (p : Int) := by
    rw [takerT]
    split
    · rename_i h5
      have := hown p hp h5
      omega
    · split
      · rename_i hh
        have h3 := fst_rng (fun q => (hasT T q).testBit (T 2 p).toNat) (T 0 0).toNat 0
        have h4 : holdT T (T 2 p).toNat = -1 ∨ (0 ≤ holdT T (T 2 p).toNat ∧ holdT T (T 2 p).toNat < T 0 0) := by
          rcases h3 with h | ⟨m, h, -, h5, -⟩
          · exact Or.inl h
          · right; rw [holdT, h]; omega
        clear h3
        omega
      · split <;> omega
  have hs : 0 ≤ sandT T p n ∧ sandT T p n ≤ T 3 p := by
    rw [sandT]; split <;> omega
  exact ⟨⟨hp, by omega, by omega, m3, hs.1, hs.2⟩, htk.1, htk.2.1⟩
theorem hand_g {T : gTw} {g s k f i : Nat} {n : Int} (h4 : f ≠ 4) (h5 : f ≠ 5) : handT T g s n k f i = giftT T g s n k f i := by
  rw [giftT, upT_ne (by omega), upT_ne (by omega), upT_ne (by omega), upT_ne (by omega)]
theorem hand_o {T : gTw} {g s k f i : Nat} {n : Int} (h3 : f ≠ 3) (h6 : f ≠ 6) : handT T g s n k f i = T f i := by
  rw [handT, upT_ne (by omega), upT_ne (by omega), upT_ne (by omega), upT_ne (by omega)]
theorem hand_sum {T : gTw} {g s k : Nat} {n : Int} (h : canG T g s n k) : sumT (handT T g s n k) = sumT T := by
  have h2 := gift_sum h
  rw [sumT] at h2 ⊢
  rw [hand_o (by decide) (by decide)]
  rw [gift_o (by decide)] at h2
  have e : handT T g s n k 3 = giftT T g s n k 3 := funext fun i => hand_g (by decide) (by decide)
  rw [e]; exact h2
theorem INV.hand {T : gTw} {g s k : Nat} {n : Int} (h : INV T) (hc : canG T g s n k) : INV (handT T g s n k) := by
  have hg := (INV.gift h hc).1
  obtain ⟨h1, h2, h3⟩ := h
  obtain ⟨o1, o2, o3, o4, o5, o6, o7, o8⟩ := h1
  obtain ⟨-, -, -, -, -, -, g7, -⟩ := hg
  refine ⟨⟨?_, ?_, ?_, ?_, ?_, ?_, fun p hp => ?_, fun i hi => ?_⟩, by rw [hand_sum hc]; exact h2, fun q hq hne => ?_⟩
  · rw [hand_o (by decide) (by decide)]; exact o1
  · rw [hand_o (by decide) (by decide)]; exact o2
  · rw [hand_o (by decide) (by decide)]; exact o3
  · rw [hand_o (by decide) (by decide)]; exact o4
  · rw [hand_o (by decide) (by decide)]; exact o5
  · rw [hand_o (by decide) (by decide)]; exact o6
  · obtain ⟨a, b, c, d, e, f, g'⟩ := o7 p hp
    obtain ⟨-, -, c', -, -, f', -⟩ := g7 p hp
    refine ⟨?_, ?_, ?_, ?_, ?_, ?_, ?_⟩
    · rw [hand_o (by decide) (by decide)]; exact a
    · rw [hand_o (by decide) (by decide)]; exact b
    · rw [hand_g (by decide) (by decide)]; exact c'
    · rw [hand_o (by decide) (by decide)]; exact d
    · rw [hand_o (by decide) (by decide)]; exact e
    · rw [hand_g (by decide) (by decide)]; exact f'
    · rw [hand_o (by decide) (by decide), hand_o (by decide) (by decide)]; exact g'
  · rw [hand_o (by decide) (by decide), hand_o (by decide) (by decide)]; exact o8 i hi
  · rw [hand_o (by decide) (by decide)] at hq hne ⊢
    rw [hand_o (by decide) (by decide)]
    exact h3 q hq hne
def hdRow (r : Nat → Int32) (th p s k : Nat) (n oI : Int32) : Nat → Int32 := up1 (up1 (mk0 r s oI th) (12 + p) (mk0 r s oI th (12 + p) - n)) (12 + k) (up1 (mk0 r s oI th) (12 + p) (mk0 r s oI th (12 + p) - n) (12 + k) + n)
theorem hd_mk {r : Nat → Int32} {th p s k j : Nat} {n v oI pI : Int32} {law : Int} (h : j < 18) : hdRow r th p s k n oI j = mkRow r th p s k n v oI pI law j := by
  rw [mkRow, up1_ne (by omega), up1_ne (by omega), up1_ne (by omega), up1_ne (by omega)]; rfl
theorem hd_hi {r : Nat → Int32} {th p s k j : Nat} {n oI : Int32} (hth : th ≤ 12) (hp : p < 6) (hk : k < 6) (h : 18 ≤ j) : hdRow r th p s k n oI j = r j := by
  rw [hdRow, up1_ne (by omega), up1_ne (by omega), mk0, if_neg (by omega)]
theorem RW.hand {T : gTw} {r : Nat → Int32} {g s k : Nat} {n oI : Int32} (hI : INV T) (hr : RW T r) (h : canG T g s n.toInt k) (ho : oI.toInt = (k : Int)) : RW (handT T g s n.toInt k) (hdRow r (T 0 1).toNat g s k n oI) := by
  obtain ⟨o1, o2, o3, o4, o5, o6, o7, o8⟩ := hI.1
  have hg7 := (o7 g (by have := h.1; omega)).2.2.1
  have hw := wtT_rng (s := s) hI.1
  have hle := h.2.2.2.2.2
  have hge := h.2.2.2.2.1
  have hG := RW.gift (v := Int32.ofNat (wtT T s + n.toInt).toNat) (pI := Int32.ofNat g) hI.1 hr h hI.2.1 (by rw [i_of (by omega)]; omega) ho (by have := h.1; rw [i_of (by omega)])
  have e0 : handT T g s n.toInt k 0 0 = T 0 0 := hand_o (by decide) (by decide)
  have e1 : handT T g s n.toInt k 0 1 = T 0 1 := hand_o (by decide) (by decide)
  have g0 : giftT T g s n.toInt k 0 0 = T 0 0 := gift_o (by decide)
  have g1 : giftT T g s n.toInt k 0 1 = T 0 1 := gift_o (by decide)
  have hgp := h.1
  have hkp := h.2.1
  refine ⟨fun q hq => ?_, fun i hi => ?_⟩
  · rw [e0] at hq
    obtain ⟨a, -, -, d⟩ := hG.1 q (by rw [g0]; exact hq)
    obtain ⟨-, b, c, -⟩ := hr.1 q hq
    refine ⟨?_, ?_, ?_, fun i => ?_⟩
    · rw [hd_mk (by omega), hand_g (by decide) (by decide)]; exact a
    · rw [hd_hi (by omega) (by omega) (by omega) (by omega), hand_o (by decide) (by decide)]; exact b
    · rw [hd_hi (by omega) (by omega) (by omega) (by omega), hand_o (by decide) (by decide)]; exact c
    · have hh : hasT (handT T g s n.toInt k) q = hasT (giftT T g s n.toInt k) q := by rw [hasT, hasT, hand_g (by decide) (by decide)]
      rw [hh, d i, e1, g1]
      by_cases hi : (i : Int) < T 0 1
      · rw [hd_mk (by omega)]
      · exact ⟨fun h => absurd h.1 hi, fun h => absurd h.1 hi⟩
  · rw [e1] at hi
    rw [e0, hd_mk (by omega)]
    have := hG.2 i (by rw [g1]; exact hi)
    rw [g0] at this
    exact this
/-! the week's search: tries, most, order, and 0 (goes on), 1 (all answered) or 2 (spent) -/
abbrev gWk : Type := Int × Int × (Nat → Int) × Int
def wfold (f : Nat → gWk → gWk) : Nat → gWk → gWk
  | 0, σ => σ
  | n + 1, σ => f n (wfold f n σ)
theorem wfold_tail {f : Nat → gWk → gWk} {i : Nat} {σ : gWk} (N : Nat) (h : i ≤ N) (hf : ∀ u, i ≤ u → u < N → f u (wfold f i σ) = wfold f i σ) : wfold f N σ = wfold f i σ := by
  obtain ⟨k, rfl⟩ : ∃ k, N = i + k := ⟨N - i, by omega⟩
  induction k with
  | zero => rfl
  | succ k ih =>
    have := ih (by omega) (fun u a b => hf u a (by omega))
    show f (i + k) (wfold f (i + k) σ) = _
    rw [this, hf _ (by omega) (by omega)]
noncomputable def wkSet (on : gTw → gWk → gWk) (T : gTw) (p u : Nat) (σ : gWk) : gWk := @ite _ (σ.2.2.2 = 0 ∧ fitT T p u) (Classical.propDecidable _) (if σ.1 = 20000 then (σ.1, σ.2.1, σ.2.2.1, 2) else on (handT T p u (sandT T p u) (takerT T p).toNat) (σ.1 + 1, σ.2)) σ
noncomputable def wkAns (on : gTw → gWk → gWk) (T : gTw) (p : Nat) (σ : gWk) : gWk := wfold (wkSet on T p) 4096 σ
noncomputable def wkPer (on : Nat → gTw → gWk → gWk) (T : gTw) (dn n p : Nat) (σ : gWk) : gWk := if σ.2.2.2 = 0 ∧ ¬ T 4 p = 0 ∧ dn.testBit p = false then wkAns (on (dn ||| 2 ^ p)) T p (σ.1, σ.2.1, (fun i => if i = n then (p : Int) else σ.2.2.1 i), σ.2.2.2) else σ
noncomputable def wkOn : Nat → gTw → Nat → Nat → gWk → gWk
  | 0, _, _, n, σ => (σ.1, mx σ.2.1 (n : Int), σ.2.2.1, 1)
  | r + 1, T, dn, n, σ => wfold (wkPer (fun dn' T' σ' => wkOn r T' dn' (n + 1) σ') T dn n) (T 0 0).toNat (σ.1, mx σ.2.1 (n : Int), σ.2.2)
theorem wkSet_no {on : gTw → gWk → gWk} {T : gTw} {p u : Nat} {σ : gWk} (h : ¬ (σ.2.2.2 = 0 ∧ fitT T p u)) : wkSet on T p u σ = σ := by rw [wkSet, if_neg h]
theorem wkSet_sp {on : gTw → gWk → gWk} {T : gTw} {p u : Nat} {σ : gWk} (h : σ.2.2.2 = 0 ∧ fitT T p u) (h2 : σ.1 = 20000) : wkSet on T p u σ = (σ.1, σ.2.1, σ.2.2.1, 2) := by rw [wkSet, if_pos h, if_pos h2]
theorem wkSet_on {on : gTw → gWk → gWk} {T : gTw} {p u : Nat} {σ : gWk} (h : σ.2.2.2 = 0 ∧ fitT T p u) (h2 : ¬ σ.1 = 20000) : wkSet on T p u σ = on (handT T p u (sandT T p u) (takerT T p).toNat) (σ.1 + 1, σ.2) := by rw [wkSet, if_pos h, if_neg h2]
/-- the search's values are in their ranges -/
def WKO (σ : gWk) : Prop := (0 ≤ σ.1 ∧ σ.1 ≤ 20000) ∧ (0 ≤ σ.2.1 ∧ σ.2.1 ≤ 6) ∧ (σ.2.2.2 = 0 ∨ σ.2.2.2 = 1 ∨ σ.2.2.2 = 2)
/-- the reference holds the search -/
def WKR (σ : gWk) (M : gM) : Prop := WKO σ ∧ (M.1 300 34).toInt = σ.1 ∧ (M.1 300 35).toInt = σ.2.1 ∧ (M.1 300 36).toInt = (if σ.2.2.2 = 2 then 1 else 0) ∧ (M.1 300 37).toInt = (if σ.2.2.2 = 1 then 1 else 0) ∧ ∀ i, i < 6 → (M.1 430 i).toInt = σ.2.2.1 i
def frW (n : Nat) (M M' : gM) : Prop := (∀ j, j ≠ 300 → j ≠ 426 → j ≠ 427 → j ≠ 430 → M'.1 j = M.1 j) ∧ M'.2 = M.2 ∧ (∀ k, k ≠ 34 → k ≠ 35 → k ≠ 36 → k ≠ 37 → M'.1 300 k = M.1 300 k) ∧ ∀ k, k < 30 * (n + 1) → M'.1 426 k = M.1 426 k
theorem frW.rf {n : Nat} {M : gM} : frW n M M := ⟨fun _ _ _ _ _ => rfl, rfl, fun _ _ _ _ _ => rfl, fun _ _ => rfl⟩
theorem frW.tr {n m : Nat} {M M1 M2 : gM} (h : frW n M M1) (h2 : frW m M1 M2) (hn : n ≤ m) : frW n M M2 := ⟨fun j a b c d => by rw [h2.1 j a b c d, h.1 j a b c d], by rw [h2.2.1, h.2.1], fun k a b c d => by rw [h2.2.2.1 k a b c d, h.2.2.1 k a b c d], fun k hk => by rw [h2.2.2.2 k (by omega), h.2.2.2 k hk]⟩
/-- what the search leaves alone -/
def WKC (T : gTw) (W : Nat) (M : gM) : Prop := CR T M ∧ WR T M ∧ (M.1 300 33).toInt = (W : Int) ∧ ∀ p : Nat, p < 6 → ((p : Int) < T 0 0 → (M.1 428 p).toInt = T 4 p ∧ (M.1 429 p).toInt = T 5 p)
theorem WKC.fr {T : gTw} {W n : Nat} {M M' : gM} (h : WKC T W M) (hf : frW n M M') : WKC T W M' := by
  obtain ⟨a, b, c, d⟩ := h
  refine ⟨?_, ?_, ?_, ?_⟩
  · unfold CR at a ⊢; rw [hf.1 402 (by decide) (by decide) (by decide) (by decide), hf.1 403 (by decide) (by decide) (by decide) (by decide), hf.1 404 (by decide) (by decide) (by decide) (by decide), hf.1 405 (by decide) (by decide) (by decide) (by decide)]; exact a
  · unfold WR at b ⊢; rw [hf.1 409 (by decide) (by decide) (by decide) (by decide)]; exact b
  · rw [hf.2.2.1 33 (by decide) (by decide) (by decide) (by decide)]; exact c
  · rw [hf.1 428 (by decide) (by decide) (by decide) (by decide), hf.1 429 (by decide) (by decide) (by decide) (by decide)]; exact d
theorem WKC.hand {T : gTw} {W g s k : Nat} {n : Int} {M : gM} (h : WKC T W M) : WKC (handT T g s n k) W M := by
  obtain ⟨a, b, c, d⟩ := h
  unfold WKC CR WR at *
  simp only [hand_o (show (0 : Nat) ≠ 3 by decide) (show (0 : Nat) ≠ 6 by decide), hand_o (show (1 : Nat) ≠ 3 by decide) (show (1 : Nat) ≠ 6 by decide), hand_o (show (2 : Nat) ≠ 3 by decide) (show (2 : Nat) ≠ 6 by decide), hand_o (show (4 : Nat) ≠ 3 by decide) (show (4 : Nat) ≠ 6 by decide), hand_o (show (5 : Nat) ≠ 3 by decide) (show (5 : Nat) ≠ 6 by decide), hand_o (show (7 : Nat) ≠ 3 by decide) (show (7 : Nat) ≠ 6 by decide), hand_o (show (8 : Nat) ≠ 3 by decide) (show (8 : Nat) ≠ 6 by decide)]
  exact ⟨a, b, c, d⟩
