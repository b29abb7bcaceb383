/-! a town as a value: T f i, f as the arrays of a Town are numbered (0: its own fields), and the same words said of it -/
abbrev gTw : Type := Nat → Nat → Int
def tv (M : gM) (t : Nat) : gTw := fun f i => if f ≤ 8 ∧ i < lenT f then (M.1 (t + f) i).toInt else 0
def hasT (T : gTw) (p : Nat) : Nat := (T 6 p).toNat
def wtT (T : gTw) (s : Nat) : Int := wsum (T 7) 12 s
def woT (T : gTw) (s : Nat) : Int := wsum (T 8) (T 0 1).toNat s
def lgtT (T : gTw) (p : Nat) : Int := if (1 : Int) < T 4 p - T 0 3 then T 4 p - T 0 3 else 1
def hvyT (T : gTw) (p : Nat) : Int := T 4 p + T 0 3
def holdT (T : gTw) (i : Nat) : Int := fstP (fun p => (hasT T p).testBit i) (T 0 0).toNat 0
def mayT (T : gTw) (p : Nat) : Prop := 0 < T 4 p ∧ 1 < T 0 0
def sandT (T : gTw) (p s : Nat) : Int := if (0 : Int) < lgtT T p - wtT T s then lgtT T p - wtT T s else 0
def waitsT (T : gTw) (p : Nat) : Prop := T 1 p = 4 ∧ T 0 4 < T 2 p
def takerT (T : gTw) (p : Nat) : Int := if ¬ T 5 p = -1 then T 5 p else if T 1 p = 3 ∧ ¬ holdT T (T 2 p).toNat = -1 ∧ ¬ holdT T (T 2 p).toNat = p then holdT T (T 2 p).toNat else if (p : Int) + 1 < T 0 0 then (p : Int) + 1 else 0
def fitWT (T : gTw) (lo hi : Int) (u : Nat) : Prop := lo ≤ wtT T u ∧ wtT T u ≤ hi
def rankT (T : gTw) (p u : Nat) : Int := if T 1 p = 1 then woT T u else if T 1 p = 2 then popc u else 0
def fitT (T : gTw) (p u : Nat) : Prop := mayT T p ∧ sub u (hasT T p) ∧ fitWT T (lgtT T p - T 3 p) (hvyT T p) u
def selT (T : gTw) (p u : Nat) : Prop := fitT T p u ∧ (T 1 p = 3 → u.testBit (T 2 p).toNat = false) ∧ ¬ waitsT T p
def chosenT (T : gTw) (p : Nat) (z : Int) : Prop := CH (selT T p) (rankT T p) z
def partT (T : gTw) (p i : Nat) (w : Int) : Prop := ∃ u : Nat, sub u (hasT T p) ∧ u.testBit i = false ∧ fitWT T (lgtT T p - T 3 p - w) (hvyT T p - w) u
def troubT (T : gTw) (g s n k : Int) : Int := if g < 0 ∨ T 0 0 ≤ g ∨ k < 0 ∨ T 0 0 ≤ k then 1 else if s < 0 ∨ (2 : Int) ^ (T 0 1).toNat ≤ s ∨ n < 0 then 1 else if T 4 g.toNat = 0 then 2 else if ¬ nd s.toNat (hasT T g.toNat) = 0 ∨ T 3 g.toNat < n then 3 else if k = g ∨ (¬ T 5 g.toNat = -1 ∧ ¬ T 5 g.toNat = k) then 4 else if wtT T s.toNat + n < lgtT T g.toNat then 5 else if hvyT T g.toNat < wtT T s.toNat + n then 6 else 0
def offT (T : gTw) (p u : Nat) : Int := mx 0 (mx (wtT T u - T 4 p) (T 4 p - (wtT T u + T 3 p)))
def posT (T : gTw) (p u : Nat) : Prop := 0 < wtT T u + T 3 p
def nearT (T : gTw) (p : Nat) (z : Int) : Prop := nearP (fun u => sub u (hasT T p)) (posT T p) (offT T p) z
theorem wsum_fcongr {w v : Nat → Int} {n s : Nat} (h : ∀ i, i < n → w i = v i) : wsum w n s = wsum v n s := by
  induction n with
  | zero => rfl
  | succ n ih => rw [wsum, wsum, ih (fun i hi => h i (by omega)), h n (by omega)]
theorem tv0 {M : gM} {t i : Nat} (h : i < 6) : tv M t 0 i = (M.1 t i).toInt := by rw [tv, if_pos ⟨by omega, by rw [lenT, if_pos (by omega)]; exact h⟩]; rfl
theorem tvp {M : gM} {t f i : Nat} (hf : f ≤ 6) (h : i < 6) : tv M t f i = (M.1 (t + f) i).toInt := by rw [tv, if_pos ⟨by omega, by rw [lenT, if_pos hf]; exact h⟩]
theorem tvw {M : gM} {t f i : Nat} (hf : f = 7 ∨ f = 8) (h : i < 12) : tv M t f i = (M.1 (t + f) i).toInt := by rw [tv, if_pos ⟨by omega, by rw [lenT, if_neg (by omega), if_pos (by omega)]; exact h⟩]
theorem v_has {M : gM} {t p : Nat} (hB : TB M t) (hp : p < 6) : has M t p = hasT (tv M t) p := by
  rw [has, hasT, tvp (by omega) hp, bn_toNat (hB.2.1 p hp).2.2.2.2.2.1.1]
theorem v_wt {M : gM} {t s : Nat} : wt M t s = wtT (tv M t) s := wsum_fcongr (fun i hi => (tvw (Or.inl rfl) hi).symm)
theorem v_wo {M : gM} {t s : Nat} (hB : TB M t) : worthS M t s = woT (tv M t) s := by
  have := hB.1.2.1
  rw [worthS, woT, tv0 (by omega)]
  exact wsum_fcongr (fun i hi => (tvw (Or.inr rfl) (by omega)).symm)
theorem v_lgt {M : gM} {t p : Nat} (hp : p < 6) : lgt M t p = lgtT (tv M t) p := by rw [lgt, lgtT, tvp (by omega) hp, tv0 (by omega)]
theorem v_hvy {M : gM} {t p : Nat} (hp : p < 6) : hvy M t p = hvyT (tv M t) p := by rw [hvy, hvyT, tvp (by omega) hp, tv0 (by omega)]
theorem fstP_congr {P Q : Nat → Bool} : ∀ (n k : Nat), (∀ j, k ≤ j → j < k + n → P j = Q j) → fstP P n k = fstP Q n k := by
  intro n
  induction n with
  | zero => intro k _; rfl
  | succ n ih => intro k h; rw [fstP, fstP, h k (by omega) (by omega), ih (k + 1) (fun j h1 h2 => h j (by omega) (by omega))]
theorem v_hold {M : gM} {t i : Nat} (hB : TB M t) : hold M t i = holdT (tv M t) i := by
  have := hB.1.1
  rw [hold, holdT, tv0 (by omega)]
  exact fstP_congr _ _ (fun j _ h => by rw [v_has hB (by omega)])
theorem v_may {M : gM} {t p : Nat} (hp : p < 6) : may M t p ↔ mayT (tv M t) p := by rw [may, mayT, tvp (by omega) hp, tv0 (by omega)]
theorem v_sand {M : gM} {t p s : Nat} (hp : p < 6) : sandOf M t p s = sandT (tv M t) p s := by rw [sandOf, sandT, v_lgt hp, v_wt]
theorem v_waits {M : gM} {t p : Nat} (hp : p < 6) : waitsP M t p ↔ waitsT (tv M t) p := by rw [waitsP, waitsT, tvp (by omega) hp, tvp (by omega) hp, tv0 (by omega)]
theorem v_taker {M : gM} {t p : Nat} (hB : TB M t) (hp : p < 6) : taker M t p = takerT (tv M t) p := by
  rw [taker, takerT, tvp (by omega) hp, tvp (by omega) hp, tvp (by omega) hp, tv0 (by omega), v_hold hB]
theorem v_fitW {M : gM} {t u : Nat} {lo hi : Int} : fitW M t lo hi u ↔ fitWT (tv M t) lo hi u := by rw [fitW, fitWT, v_wt]
theorem v_fit {M : gM} {t p u : Nat} (hB : TB M t) (hp : p < 6) : fitS M t p u ↔ fitT (tv M t) p u := by
  rw [fitS, fitT, v_may hp, v_has hB hp, v_lgt hp, v_hvy hp, v_fitW, tvp (by omega) hp]
theorem v_rank {M : gM} {t p u : Nat} (hB : TB M t) (hp : p < 6) : rankS M t p u = rankT (tv M t) p u := by
  rw [rankS, rankT, tvp (by omega) hp, v_wo hB]
theorem v_sel {M : gM} {t p u : Nat} (hB : TB M t) (hp : p < 6) : selS M t p u ↔ selT (tv M t) p u := by
  rw [selS, selT, v_fit hB hp, v_waits hp, tvp (by omega) hp, tvp (by omega) hp]
theorem v_chosen {M : gM} {t p : Nat} {z : Int} (hB : TB M t) (hp : p < 6) : chosen M t p z ↔ chosenT (tv M t) p z :=
  ⟨fun h => ch_congr (fun _ => v_sel hB hp) (fun _ _ => v_rank hB hp) h, fun h => ch_congr (fun _ => (v_sel hB hp).symm) (fun _ _ => (v_rank hB hp).symm) h⟩
theorem v_part {M : gM} {t p i : Nat} {w : Int} (hB : TB M t) (hp : p < 6) : partS M t p i w ↔ partT (tv M t) p i w := by
  simp only [partS, partT, v_has hB hp, v_lgt hp, v_hvy hp, v_fitW, tvp (show 3 ≤ 6 by omega) hp]
theorem v_troub {M : gM} {t : Nat} {g s n k : Int} (hB : TB M t) : troub M t g s n k = troubT (tv M t) g s n k := by
  have h0 := hB.1.1
  rw [troub, troubT, tv0 (by omega), tv0 (by omega)]
  by_cases hg : g < 0 ∨ (M.1 t 0).toInt ≤ g ∨ k < 0 ∨ (M.1 t 0).toInt ≤ k
  · rw [if_pos hg, if_pos hg]
  · rw [if_neg hg, if_neg hg, tvp (by omega) (by omega), tvp (by omega) (by omega), tvp (by omega) (by omega), v_has hB (by omega), v_lgt (by omega), v_hvy (by omega), v_wt]
theorem v_off {M : gM} {t p u : Nat} (hp : p < 6) : offS M t p u = offT (tv M t) p u := by rw [offS, offT, v_wt, tvp (by omega) hp, tvp (by omega) hp]
theorem v_pos {M : gM} {t p u : Nat} (hp : p < 6) : posS M t p u ↔ posT (tv M t) p u := by rw [posS, posT, v_wt, tvp (by omega) hp]
theorem near_full {P Q pos pos' : Nat → Prop} {off off' : Nat → Int} {z : Int} (hP : ∀ u, P u ↔ Q u) (hp : ∀ u, pos u ↔ pos' u) (ho : ∀ u, off u = off' u) (h : nearP P pos off z) : nearP Q pos' off' z := by
  rcases h with ⟨rfl, h⟩ | ⟨u, h1, h2, h3, h4⟩
  · exact Or.inl ⟨rfl, fun u hu hp' => h u ((hP u).mpr hu) ((hp u).mpr hp')⟩
  · exact Or.inr ⟨u, (hP u).mp h1, (hp u).mp h2, by rw [h3, ho u], fun u' hu' hp' => by rw [← ho u, ← ho u']; exact h4 u' ((hP u').mpr hu') ((hp u').mpr hp')⟩
theorem v_near {M : gM} {t p : Nat} {z : Int} (hB : TB M t) (hp : p < 6) (h : nearS M t p z) : nearT (tv M t) p z := near_full (fun u => by rw [v_has hB hp]) (fun u => v_pos hp) (fun u => v_off hp) h
/-- of a copy: the same value -/
theorem v_copy {M M1 : gM} {t t2 : Nat} (h : CP M M1 t t2) : tv M1 t = tv M t2 := by
  funext f i
  rw [tv, tv]
  by_cases hc : f ≤ 8 ∧ i < lenT f
  · rw [if_pos hc, if_pos hc, h.2.2 f (by omega) i hc.2]
  · rw [if_neg hc, if_neg hc]
theorem TB.copy {M M1 : gM} {t t2 : Nat} (h : CP M M1 t t2) (hB : TB M t2) : TB M1 t := by
  obtain ⟨-, -, hc⟩ := h
  have e0 : ∀ k, k < 6 → M1.1 t k = M.1 t2 k := fun k hk => hc 0 (by omega) k (by rw [lenT, if_pos (by omega)]; exact hk)
  have e1 : ∀ a, a ≤ 6 → ∀ k, k < 6 → M1.1 (t + a) k = M.1 (t2 + a) k := fun a ha k hk => hc a (by omega) k (by rw [lenT, if_pos ha]; exact hk)
  have e7 : ∀ a, a = 7 ∨ a = 8 → ∀ k, k < 12 → M1.1 (t + a) k = M.1 (t2 + a) k := fun a ha k hk => hc a (by omega) k (by rw [lenT, if_neg (by omega), if_pos (by omega)]; exact hk)
  have e9 : ∀ a, a = 9 ∨ a = 10 → ∀ k, k < 64 → M1.1 (t + a) k = M.1 (t2 + a) k := fun a ha k hk => hc a (by omega) k (by rw [lenT, if_neg (by omega), if_neg (by omega)]; exact hk)
  obtain ⟨h0, h1, h2, h3⟩ := hB
  refine ⟨?_, fun p hp => ?_, fun i hi => ?_, fun s hs => ?_⟩
  · simp only [TB0, e0 0 (by omega), e0 1 (by omega), e0 2 (by omega), e0 3 (by omega), e0 4 (by omega), e0 5 (by omega)]
    exact h0
  · have := h1 p hp
    simp only [TB1, e1 1 (by omega) p hp, e1 2 (by omega) p hp, e1 3 (by omega) p hp, e1 4 (by omega) p hp, e1 5 (by omega) p hp, e1 6 (by omega) p hp]
    exact this
  · have := h2 i hi
    simp only [TB2, e7 7 (by omega) i hi, e7 8 (by omega) i hi]
    exact this
  · have := h3 s hs
    have hw : ∀ i, i < 12 → wtF M1 t i = wtF M t2 i := fun i hi => by simp only [wtF, e7 7 (by omega) i hi]
    rw [e9 9 (by omega) s hs, e9 10 (by omega) s hs, wsum_fcongr (w := wtF M1 t) (v := wtF M t2) (fun i hi => hw i (by omega)), wsum_fcongr (w := fun i => wtF M1 t (6 + i)) (v := fun i => wtF M t2 (6 + i)) (fun i hi => hw (6 + i) (by omega))]
    exact this
