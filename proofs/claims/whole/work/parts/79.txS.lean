def w_person : List Int32 := [112, 101, 114, 115, 111, 110]
def w_sand : List Int32 := [115, 97, 110, 100]
def w_plain : List Int32 := [112, 108, 97, 105, 110]
def w_least : List Int32 := [108, 101, 97, 115, 116]
def w_fewest : List Int32 := [102, 101, 119, 101, 115, 116]
def w_aim : List Int32 := [97, 105, 109]
def w_wait : List Int32 := [119, 97, 105, 116]
def w_thing : List Int32 := [116, 104, 105, 110, 103]
def w_wet : List Int32 := [119, 101, 116]
def w_owes : List Int32 := [111, 119, 101, 115]
def w_to : List Int32 := [116, 111]
def w_law : List Int32 := [108, 97, 119]
def w_giver : List Int32 := [103, 105, 118, 101, 114]
def w_anyone : List Int32 := [97, 110, 121, 111, 110, 101]
def w_within : List Int32 := [119, 105, 116, 104, 105, 110]
/-! the text: byte k is t k, n of them; the token behind place e -/
def spB (c : Int) : Bool := decide (c = 32 ∨ c = 10)
def ltB (c : Int) : Bool := decide (97 ≤ c ∧ c ≤ 122)
def dgB (c : Int) : Bool := decide (48 ≤ c ∧ c ≤ 57)
def runF (P : Int → Bool) (t : Nat → Int) : Nat → Nat → Nat
  | 0, i => i
  | f + 1, i => if P (t i) = true then runF P t f (i + 1) else i
def runT (P : Int → Bool) (t : Nat → Int) (n i : Nat) : Nat := runF P t (n - i) i
theorem runT_step {P : Int → Bool} {t : Nat → Int} {n i : Nat} (h : i < n) (hp : P (t i) = true) : runT P t n i = runT P t n (i + 1) := by
  rw [runT, show n - i = (n - (i + 1)) + 1 by omega, runF, if_pos hp]; rfl
theorem runT_stop {P : Int → Bool} {t : Nat → Int} {n i : Nat} (h : ¬ (i < n ∧ P (t i) = true)) : runT P t n i = i := by
  by_cases hi : i < n
  · rw [runT, show n - i = (n - (i + 1)) + 1 by omega, runF, if_neg (fun q => h ⟨hi, q⟩)]
  · rw [runT, show n - i = 0 by omega]; rfl
theorem runF_rng {P : Int → Bool} {t : Nat → Int} : ∀ f i : Nat, i ≤ runF P t f i ∧ runF P t f i ≤ i + f := by
  intro f
  induction f with
  | zero => intro i; exact ⟨Nat.le_refl _, Nat.le_refl _⟩
  | succ f ih =>
    intro i
    rw [runF]
    split
    · have := ih (i + 1); omega
    · omega
theorem runT_rng {P : Int → Bool} {t : Nat → Int} {n i : Nat} (h : i ≤ n) : i ≤ runT P t n i ∧ runT P t n i ≤ n := by
  have := runF_rng (P := P) (t := t) (n - i) i
  rw [runT]; omega
theorem runF_all {P : Int → Bool} {t : Nat → Int} : ∀ f i k : Nat, i ≤ k → k < runF P t f i → P (t k) = true := by
  intro f
  induction f with
  | zero => intro i k a b; rw [runF] at b; omega
  | succ f ih =>
    intro i k a b
    rw [runF] at b
    by_cases hp : P (t i) = true
    · rw [if_pos hp] at b
      by_cases hk : i = k
      · rw [← hk]; exact hp
      · exact ih (i + 1) k (by omega) b
    · rw [if_neg hp] at b; omega
theorem runT_all {P : Int → Bool} {t : Nat → Int} {n i k : Nat} (h1 : i ≤ k) (h2 : k < runT P t n i) : P (t k) = true := runF_all _ _ _ h1 h2
def tkB (t : Nat → Int) (n e : Nat) : Nat := runT spB t n e
def tkK (t : Nat → Int) (n e : Nat) : Int := if n ≤ tkB t n e then 0 else if ltB (t (tkB t n e)) = true then 1 else if dgB (t (tkB t n e)) = true then 2 else if t (tkB t n e) = 59 then 3 else 4
def tkE (t : Nat → Int) (n e : Nat) : Nat := if n ≤ tkB t n e then tkB t n e else if ltB (t (tkB t n e)) = true then runT ltB t n (tkB t n e) else if dgB (t (tkB t n e)) = true then runT dgB t n (tkB t n e) else tkB t n e + 1
def dvl (t : Nat → Int) (b : Nat) : Nat → Int
  | 0 => 0
  | k + 1 => 10 * dvl t b k + (t (b + k) - 48)
def tkV (t : Nat → Int) (n e : Nat) : Int := dvl t (tkB t n e) (tkE t n e - tkB t n e)
theorem tk_rng {t : Nat → Int} {n e : Nat} (h : e ≤ n) : e ≤ tkB t n e ∧ tkB t n e ≤ tkE t n e ∧ tkE t n e ≤ n ∧ (¬ tkK t n e = 0 → tkB t n e < tkE t n e ∧ tkB t n e < n) ∧ 0 ≤ tkK t n e ∧ tkK t n e ≤ 4 := by
  have h1 := runT_rng (P := spB) (t := t) h
  have hb : tkB t n e = runT spB t n e := rfl
  rw [tkK, tkE]
  generalize tkB t n e = b at *
  by_cases q : n ≤ b
  · rw [if_pos q, if_pos q]; omega
  · rw [if_neg q, if_neg q]
    have h2 := runT_rng (P := ltB) (t := t) (n := n) (i := b) (by omega)
    have h3 := runT_rng (P := dgB) (t := t) (n := n) (i := b) (by omega)
    by_cases ql : ltB (t b) = true
    · rw [if_pos ql, if_pos ql]
      have := runT_step (n := n) (show b < n by omega) ql
      have := runT_rng (P := ltB) (t := t) (n := n) (i := b + 1) (by omega)
      omega
    · rw [if_neg ql, if_neg ql]
      by_cases qd : dgB (t b) = true
      · rw [if_pos qd, if_pos qd]
        have := runT_step (n := n) (show b < n by omega) qd
        have := runT_rng (P := dgB) (t := t) (n := n) (i := b + 1) (by omega)
        omega
      · rw [if_neg qd, if_neg qd]
        split <;> omega
theorem tk_dig {t : Nat → Int} {n e k : Nat} (hk : tkK t n e = 2) (h1 : tkB t n e ≤ k) (h2 : k < tkE t n e) : 48 ≤ t k ∧ t k ≤ 57 := by
  rw [tkK] at hk
  rw [tkE] at h2
  by_cases q : n ≤ tkB t n e
  · rw [if_pos q] at hk; omega
  · rw [if_neg q] at hk h2
    by_cases ql : ltB (t (tkB t n e)) = true
    · rw [if_pos ql] at hk; omega
    · rw [if_neg ql] at hk h2
      by_cases qd : dgB (t (tkB t n e)) = true
      · rw [if_pos qd] at h2
        have := runT_all h1 h2
        rw [dgB] at this
        exact of_decide_eq_true this
      · rw [if_neg qd] at hk
        split at hk <;> omega
theorem dvl_rng {t : Nat → Int} {b : Nat} : ∀ k : Nat, (∀ j, j < k → 48 ≤ t (b + j) ∧ t (b + j) ≤ 57) → 0 ≤ dvl t b k ∧ dvl t b k < (10 : Int) ^ k := by
  intro k
  induction k with
  | zero => intro _; exact ⟨Int.le_refl _, by show (0 : Int) < 10 ^ 0; decide⟩
  | succ k ih =>
    intro h
    have h1 := ih (fun j hj => h j (by omega))
    have h2 := h k (by omega)
    rw [dvl, Int.pow_succ]
    omega
theorem tkV_rng {t : Nat → Int} {n e : Nat} (hk : tkK t n e = 2) (h4 : tkE t n e - tkB t n e ≤ 4) : 0 ≤ tkV t n e ∧ tkV t n e ≤ 9999 := by
  have h := dvl_rng (t := t) (b := tkB t n e) (tkE t n e - tkB t n e) (fun j hj => tk_dig hk (by omega) (by omega))
  rw [tkV]
  refine ⟨h.1, ?_⟩
  have hh := h.2
  rcases (show tkE t n e - tkB t n e = 0 ∨ tkE t n e - tkB t n e = 1 ∨ tkE t n e - tkB t n e = 2 ∨ tkE t n e - tkB t n e = 3 ∨ tkE t n e - tkB t n e = 4 by omega) with q | q | q | q | q <;> rw [q] at hh ⊢ <;> simp at hh <;> omega
/-- the token is this word -/
def isW (t : Nat → Int) (n e : Nat) (w : List Int32) : Prop := tkK t n e = 1 ∧ tkE t n e - tkB t n e = w.length ∧ ∀ k, k < w.length → t (tkB t n e + k) = (w.getD k 0).toInt
theorem isW_one {t : Nat → Int} {n e : Nat} {w v : List Int32} (h1 : isW t n e w) (h2 : isW t n e v) : w = v := by
  obtain ⟨-, a, b⟩ := h1
  obtain ⟨-, c, d⟩ := h2
  refine List.ext_getElem (by omega) fun k hk hk2 => ?_
  have e1 := b k hk
  have e2 := d k hk2
  have g1 : w.getD k 0 = w[k] := by simp [List.getD, hk]
  have g2 : v.getD k 0 = v[k] := by simp [List.getD, hk2]
  rw [g1] at e1
  rw [g2] at e2
  exact i_ext (by omega)
abbrev pR (α : Type) : Type := (Int × Int) ⊕ (α × Nat)
def pBd {α β : Type} (x : pR α) (f : α → Nat → pR β) : pR β := match x with
  | .inl q => .inl q
  | .inr (a, e) => f a e
def pNum (t : Nat → Int) (n e : Nat) (a b : Int) : pR Int := if ¬ tkK t n e = 2 then .inl (1, tkB t n e) else if 4 < tkE t n e - tkB t n e ∨ tkV t n e < a ∨ b < tkV t n e then .inl (2, tkB t n e) else .inr (tkV t n e, tkE t n e)
def pPer (t : Nat → Int) (n e : Nat) (m : Int) : pR Int := if ¬ tkK t n e = 2 then .inl (1, tkB t n e) else if 4 < tkE t n e - tkB t n e then .inl (2, tkB t n e) else if m ≤ tkV t n e then .inl (3, tkB t n e) else .inr (tkV t n e, tkE t n e)
def pStop {α : Type} (t : Nat → Int) (n : Nat) (x : α) (e : Nat) : pR α := if tkK t n e = 3 then .inr (x, tkE t n e) else .inl (1, tkB t n e)
noncomputable def pIf {α : Type} (t : Nat → Int) (n e : Nat) (w : List Int32) (x y : α) : α := @ite α (isW t n e w) (Classical.propDecidable _) x y
theorem pIf_pos {α : Type} {t : Nat → Int} {n e : Nat} {w : List Int32} {x y : α} (h : isW t n e w) : pIf t n e w x y = x := by rw [pIf, if_pos h]
theorem pIf_neg {α : Type} {t : Nat → Int} {n e : Nat} {w : List Int32} {x y : α} (h : ¬ isW t n e w) : pIf t n e w x y = y := by rw [pIf, if_neg h]
noncomputable def kindW (t : Nat → Int) (n e : Nat) : Int := pIf t n e w_plain 0 (pIf t n e w_least 1 (pIf t n e w_fewest 2 (pIf t n e w_aim 3 (pIf t n e w_wait 4 (-1)))))
def addPT (T : gTw) (k g s : Int) : gTw := upT (upT (upT (upT (upT (upT (upT T 1 (T 0 0).toNat k) 2 (T 0 0).toNat g) 3 (T 0 0).toNat s) 4 (T 0 0).toNat 0) 5 (T 0 0).toNat (-1)) 6 (T 0 0).toNat 0) 0 0 (T 0 0 + 1)
def addTT (T : gTw) (w v : Int) (h : Nat) (b : Bool) : gTw := upT (upT (upT (upT (upT T 7 (T 0 1).toNat w) 8 (T 0 1).toNat v) 6 h (((T 6 h).toNat ||| 2 ^ (T 0 1).toNat : Nat) : Int)) 0 5 (((T 0 5).toNat ||| (if b = true then 2 ^ (T 0 1).toNat else 0) : Nat) : Int)) 0 1 (T 0 1 + 1)
noncomputable def pOne (t : Nat → Int) (n : Nat) (T : gTw) (e : Nat) : pR gTw := if T 0 0 = 6 then .inl (2, tkB t n e) else
  pBd (pIf t n (tkE t n e) w_sand (pNum t n (tkE t n (tkE t n e)) 0 99) (.inr (0, tkE t n e))) (fun s e2 =>
    if kindW t n e2 = -1 then .inl (1, tkB t n e2) else
    pBd (if kindW t n e2 = 3 then pNum t n (tkE t n e2) 0 11 else if kindW t n e2 = 4 then pNum t n (tkE t n e2) 0 99 else .inr (0, tkE t n e2)) (fun g e3 => .inr (addPT T (kindW t n e2) g s, e3)))
noncomputable def pThg (t : Nat → Int) (n : Nat) (T : gTw) (e : Nat) : pR gTw := if T 0 1 = 12 then .inl (2, tkB t n e) else
  pBd (pNum t n (tkE t n e) 1 99) (fun w e1 => pBd (pNum t n e1 0 999) (fun v e2 => pBd (pPer t n e2 (T 0 0)) (fun h e3 => pIf t n e3 w_wet (.inr (addTT T w v h.toNat true, tkE t n e3)) (.inr (addTT T w v h.toNat false, e3)))))
noncomputable def pOwe (t : Nat → Int) (n : Nat) (T : gTw) (e : Nat) : pR gTw :=
  pBd (pPer t n e (T 0 0)) (fun p e1 => if ¬ T 4 p.toNat = 0 then .inl (4, tkB t n e) else pBd (pNum t n e1 1 999) (fun v e2 =>
    pIf t n e2 w_to (pBd (pPer t n (tkE t n e2) (T 0 0)) (fun q e3 => if q = p then .inl (4, tkB t n (tkE t n e2)) else .inr (upT (upT T 4 p.toNat v) 5 p.toNat q, e3))) (.inr (upT T 4 p.toNat v, e2))))
noncomputable def pLaw (t : Nat → Int) (n : Nat) (T : gTw) (e : Nat) : pR gTw := pIf t n e w_giver (.inr (T, tkE t n e)) (pIf t n e w_anyone (.inr (upT T 0 2 1, tkE t n e)) (.inl (1, tkB t n e)))
noncomputable def pLine (t : Nat → Int) (n : Nat) (T : gTw) (sl sw : Int) (e : Nat) : pR (gTw × Int × Int) :=
  pIf t n e w_person (pBd (pOne t n T e) (fun T1 e1 => pStop t n (T1, sl, sw) e1))
  (pIf t n e w_thing (pBd (pThg t n T e) (fun T1 e1 => pStop t n (T1, sl, sw) e1))
  (pIf t n e w_owes (pBd (pOwe t n T (tkE t n e)) (fun T1 e1 => pStop t n (T1, sl, sw) e1))
  (pIf t n e w_law (if sl = 1 then .inl (5, tkB t n e) else pBd (pLaw t n T (tkE t n e)) (fun T1 e1 => pStop t n (T1, 1, sw) e1))
  (pIf t n e w_within (if sw = 1 then .inl (5, tkB t n e) else pBd (pNum t n (tkE t n e) 0 9) (fun v e1 => pStop t n (upT T 0 3 v, sl, 1) e1))
  (.inl (1, tkB t n e))))))
noncomputable def pAll (t : Nat → Int) (n : Nat) : Nat → gTw → Int → Int → Nat → (Int × Int) ⊕ gTw
  | 0, T, _, _, _ => .inr T
  | f + 1, T, sl, sw, e => if tkK t n e = 0 then .inr T else match pLine t n T sl sw e with
    | .inl q => .inl q
    | .inr (x, e1) => pAll t n f x.1 x.2.1 x.2.2 e1
theorem pAll_end {t : Nat → Int} {n f : Nat} {T : gTw} {sl sw : Int} {e : Nat} (h : tkK t n e = 0) : pAll t n (f + 1) T sl sw e = .inr T := by rw [pAll, if_pos h]
theorem pAll_bad {t : Nat → Int} {n f : Nat} {T : gTw} {sl sw : Int} {e : Nat} {q : Int × Int} (h : ¬ tkK t n e = 0) (h2 : pLine t n T sl sw e = .inl q) : pAll t n (f + 1) T sl sw e = .inl q := by rw [pAll, if_neg h, h2]
theorem pAll_on {t : Nat → Int} {n f : Nat} {T T1 : gTw} {sl sw l1 w1 : Int} {e e1 : Nat} (h : ¬ tkK t n e = 0) (h2 : pLine t n T sl sw e = .inr ((T1, l1, w1), e1)) : pAll t n (f + 1) T sl sw e = pAll t n f T1 l1 w1 e1 := by rw [pAll, if_neg h, h2]
