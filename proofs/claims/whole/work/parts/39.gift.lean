/-! a gift as a step between values, on both sides -/
def upT (T : gTw) (f i : Nat) (x : Int) : gTw := fun a b => if a = f ∧ b = i then x else T a b
def handT (T : gTw) (g s : Nat) (n : Int) (k : Nat) : gTw := upT (upT (upT (upT T 6 g ((nd (hasT T g) s : Nat) : Int)) 6 k ((hasT T k ||| s : Nat) : Int)) 3 g (T 3 g - n)) 3 k (T 3 k + n)
def giftT (T : gTw) (g s : Nat) (n : Int) (k : Nat) : gTw := upT (upT (upT (upT (handT T g s n k) 4 g 0) 5 g (-1)) 4 k (wtT T s + n)) 5 k (if T 0 2 = 0 then (g : Int) else -1)
theorem upT_ne {T : gTw} {f i a b : Nat} {x : Int} (h : ¬ (a = f ∧ b = i)) : upT T f i x a b = T a b := if_neg h
theorem upT_eq {T : gTw} {f i : Nat} {x : Int} : upT T f i x f i = x := if_pos ⟨rfl, rfl⟩
theorem gift_6 {T : gTw} {g s k p : Nat} {n : Int} (hgk : g ≠ k) : giftT T g s n k 6 p = if p = k then ((hasT T k ||| s : Nat) : Int) else if p = g then ((nd (hasT T g) s : Nat) : Int) else T 6 p := by
  simp only [giftT, handT, upT]
  by_cases h1 : p = k
  · simp [h1]
  · by_cases h2 : p = g <;> simp [h1, h2]
theorem gift_3 {T : gTw} {g s k p : Nat} {n : Int} (hgk : g ≠ k) : giftT T g s n k 3 p = if p = k then T 3 k + n else if p = g then T 3 g - n else T 3 p := by
  simp only [giftT, handT, upT]
  by_cases h1 : p = k
  · simp [h1]
  · by_cases h2 : p = g <;> simp [h1, h2]
theorem gift_4 {T : gTw} {g s k p : Nat} {n : Int} : giftT T g s n k 4 p = if p = k then wtT T s + n else if p = g then 0 else T 4 p := by
  simp only [giftT, handT, upT]
  by_cases h1 : p = k
  · simp [h1]
  · by_cases h2 : p = g <;> simp [h1, h2]
theorem gift_5 {T : gTw} {g s k p : Nat} {n : Int} : giftT T g s n k 5 p = if p = k then (if T 0 2 = 0 then (g : Int) else -1) else if p = g then -1 else T 5 p := by
  simp only [giftT, handT, upT]
  by_cases h1 : p = k
  · simp [h1]
  · by_cases h2 : p = g <;> simp [h1, h2]
theorem gift_o {T : gTw} {g s k f p : Nat} {n : Int} (h : f ≠ 3 ∧ f ≠ 4 ∧ f ≠ 5 ∧ f ≠ 6) : giftT T g s n k f p = T f p := by
  simp only [giftT, handT, upT]
  simp [h.1, h.2.1, h.2.2.1, h.2.2.2]
theorem gift_has {T : gTw} {g s k p : Nat} {n : Int} (hgk : g ≠ k) : hasT (giftT T g s n k) p = if p = k then hasT T k ||| s else if p = g then nd (hasT T g) s else hasT T p := by
  rw [hasT, gift_6 hgk]
  by_cases h1 : p = k
  · rw [if_pos h1, if_pos h1]; simp
  · rw [if_neg h1, if_neg h1]
    by_cases h2 : p = g
    · rw [if_pos h2, if_pos h2]; simp
    · rw [if_neg h2, if_neg h2]; rfl
def psum (f : Nat → Int) : Nat → Int
  | 0 => 0
  | n + 1 => psum f n + f n
theorem psum_two {f : Nat → Int} {n i j : Nat} (h : ∀ q, q < n → 0 ≤ f q) (hi : i < n) (hj : j < n) (hij : i ≠ j) : f i + f j ≤ psum f n := by
  have one : ∀ m, m ≤ n → ∀ q, q < m → f q ≤ psum f m := by
    intro m
    induction m with
    | zero => intro _ q hq; omega
    | succ m ih =>
      intro hm q hq
      have h0 : 0 ≤ psum f m := by
        clear ih hq
        induction m with
        | zero => exact Int.le_refl 0
        | succ m ih2 => have := ih2 (by omega); have := h m (by omega); rw [psum]; omega
      rw [psum]
      have hfm := h m (by omega)
      by_cases hqm : q = m
      · subst hqm; omega
      · have := ih (by omega) q (by omega); omega
  have two : ∀ m, m ≤ n → ∀ a b, a < m → b < m → a < b → f a + f b ≤ psum f m := by
    intro m
    induction m with
    | zero => intro _ a b ha; omega
    | succ m ih =>
      intro hm a b ha hb hab
      rw [psum]
      by_cases hbm : b = m
      · subst hbm; have := one b (by omega) a (by omega); omega
      · have := ih (by omega) a b (by omega) (by omega) hab
        have := h m (by omega)
        omega
  rcases Nat.lt_or_ge i j with hlt | hge
  · exact two n (Nat.le_refl _) i j hi hj hlt
  · have := two n (Nat.le_refl _) j i hj hi (by omega)
    omega
theorem psum_move {f f' : Nat → Int} {n i j : Nat} {x : Int} (hi : i < n) (hj : j < n) (hij : i ≠ j) (h : ∀ q, f' q = if q = j then f j + x else if q = i then f i - x else f q) : psum f' n = psum f n := by
  have e : ∀ m, psum f' m = psum f m + (if j < m then x else 0) - (if i < m then x else 0) := by
    intro m
    induction m with
    | zero => simp [psum]
    | succ m ih =>
      rw [psum, psum, ih, h m]
      by_cases h1 : m = j
      · subst h1
        have : ¬ m < m := by omega
        by_cases h2 : i < m
        · rw [if_pos rfl, if_neg this, if_pos h2, if_pos (by omega), if_pos (by omega)]; omega
        · rw [if_pos rfl, if_neg this, if_neg h2, if_pos (by omega), if_neg (by omega)]; omega
      · rw [if_neg h1]
        by_cases h3 : m = i
        · subst h3
          have : ¬ m < m := by omega
          by_cases h2 : j < m
          · rw [if_pos rfl, if_neg this, if_pos h2, if_pos (by omega), if_pos (by omega)]; omega
          · rw [if_pos rfl, if_neg this, if_neg h2, if_neg (by omega), if_pos (by omega)]; omega
        · rw [if_neg h3]
          by_cases h4 : j < m <;> by_cases h5 : i < m
          · rw [if_pos h4, if_pos h5, if_pos (by omega), if_pos (by omega)]; omega
          · rw [if_pos h4, if_neg h5, if_pos (by omega), if_neg (by omega)]; omega
          · rw [if_neg h4, if_pos h5, if_neg (by omega), if_pos (by omega)]; omega
          · rw [if_neg h4, if_neg h5, if_neg (by omega), if_neg (by omega)]; omega
  rw [e n, if_pos hj, if_pos hi]; omega
/-- all sand together -/
def sumT (T : gTw) : Int := psum (T 3) (T 0 0).toNat
theorem wtT_rng {T : gTw} {s : Nat} (hO : TOK T) : 0 ≤ wtT T s ∧ wtT T s ≤ 1188 := by
  have := wsum_le (w := T 7) (B := 99) (n := 12) (s := s) (fun j hj => (hO.2.2.2.2.2.2.2 j hj).1) (by omega)
  rw [wtT]; omega
/-- a gift that can be made -/
def canG (T : gTw) (g s : Nat) (n : Int) (k : Nat) : Prop := (g : Int) < T 0 0 ∧ (k : Int) < T 0 0 ∧ g ≠ k ∧ sub s (hasT T g) ∧ 0 ≤ n ∧ n ≤ T 3 g
theorem gift_sum {T : gTw} {g s k : Nat} {n : Int} (h : canG T g s n k) : sumT (giftT T g s n k) = sumT T := by
  obtain ⟨h1, h2, h3, -, -, -⟩ := h
  rw [sumT, sumT, gift_o (by omega)]
  exact psum_move (x := n) (by omega) (by omega) h3 (fun q => gift_3 h3)
theorem TOK.gift {T : gTw} {g s k : Nat} {n : Int} (hO : TOK T) (hs : sumT T ≤ 600) (h : canG T g s n k) : TOK (giftT T g s n k) := by
  obtain ⟨h1, h2, h3, h4, h5, h6⟩ := h
  have hw := wtT_rng (s := s) hO
  obtain ⟨o1, o2, o3, o4, o5, o6, o7, o8⟩ := hO
  have hg := o7 g (by omega)
  have hk := o7 k (by omega)
  have h2s := psum_two (f := T 3) (n := (T 0 0).toNat) (i := g) (j := k) (fun q hq => (o7 q (by omega)).2.2.1.1) (by omega) (by omega) h3
  rw [← sumT] at h2s
  refine ⟨?_, ?_, ?_, ?_, ?_, ?_, fun p hp => ?_, fun i hi => ?_⟩
  · rw [gift_o (by omega)]; exact o1
  · rw [gift_o (by omega)]; exact o2
  · rw [gift_o (by omega)]; exact o3
  · rw [gift_o (by omega)]; exact o4
  · rw [gift_o (by omega)]; exact o5
  · rw [gift_o (by omega)]; exact o6
  · have hpp := o7 p hp
    have hnd := nd_le (hasT T g) s
    have hgs := sub_le h4
    have hhg : hasT T g ≤ 4095 := by rw [hasT]; omega
    have hhk : hasT T k ≤ 4095 := by rw [hasT]; omega
    have hor : hasT T k ||| s < 2 ^ 12 := Nat.or_lt_two_pow (by omega) (by omega)
    have e12 : (2 : Nat) ^ 12 = 4096 := rfl
    rw [gift_o (by omega), gift_o (by omega), gift_3 h3, gift_4, gift_5, gift_6 h3]
    refine ⟨hpp.1, hpp.2.1, ?_, ?_, ?_, ?_, hpp.2.2.2.2.2.2⟩
    · split
      · omega
      · split <;> omega
    · split
      · omega
      · split <;> omega
    · split
      · split <;> omega
      · split <;> omega
    · split
      · omega
      · split <;> omega
  · rw [gift_o (by omega), gift_o (by omega)]; exact o8 i hi
theorem up1_ne {r : Nat → Int32} {k j : Nat} {x : Int32} (h : j ≠ k) : up1 r k x j = r j := if_neg h
theorem up1_eq {r : Nat → Int32} {k : Nat} {x : Int32} : up1 r k x k = x := if_pos rfl
theorem mk_lt {r : Nat → Int32} {th p s k j : Nat} {n v oI pI : Int32} {law : Int} (h : j < 12) : mkRow r th p s k n v oI pI law j = mk0 r s oI th j := by
  rw [mkRow, up1_ne (by omega), up1_ne (by omega), up1_ne (by omega), up1_ne (by omega), up1_ne (by omega), up1_ne (by omega)]
theorem mk_12 {r : Nat → Int32} {th p s k q : Nat} {n v oI pI : Int32} {law : Int} (hth : th ≤ 12) (hp : p < 6) (hk : k < 6) (hq : q < 6) (hpk : p ≠ k) : mkRow r th p s k n v oI pI law (12 + q) = if q = k then r (12 + k) + n else if q = p then r (12 + p) - n else r (12 + q) := by
  have m0 : ∀ j, 12 ≤ j → mk0 r s oI th j = r j := fun j hj => by rw [mk0, if_neg (by omega)]
  rw [mkRow, up1_ne (by omega), up1_ne (by omega), up1_ne (by omega), up1_ne (by omega)]
  by_cases h1 : q = k
  · subst h1; rw [if_pos rfl, up1_eq, up1_ne (by omega), m0 _ (by omega)]
  · rw [if_neg h1, up1_ne (by omega)]
    by_cases h2 : q = p
    · subst h2; rw [if_pos rfl, up1_eq, m0 _ (by omega)]
    · rw [if_neg h2, up1_ne (by omega), m0 _ (by omega)]
theorem mk_18 {r : Nat → Int32} {th p s k q : Nat} {n v oI pI : Int32} {law : Int} (hth : th ≤ 12) (hp : p < 6) (hk : k < 6) (hq : q < 6) : mkRow r th p s k n v oI pI law (18 + q) = if q = k then v else if q = p then 0 else r (18 + q) := by
  rw [mkRow, up1_ne (by omega)]
  by_cases h1 : q = k
  · subst h1; rw [if_pos rfl, up1_eq]
  · rw [if_neg h1, up1_ne (by omega), up1_ne (by omega)]
    by_cases h2 : q = p
    · subst h2; rw [if_pos rfl, up1_eq]
    · rw [if_neg h2, up1_ne (by omega), up1_ne (by omega), up1_ne (by omega), mk0, if_neg (by omega)]
theorem mk_24 {r : Nat → Int32} {th p s k q : Nat} {n v oI pI : Int32} {law : Int} (hth : th ≤ 12) (hp : p < 6) (hk : k < 6) (hq : q < 6) : mkRow r th p s k n v oI pI law (24 + q) = if q = k then (if law = 0 then pI else -1) else if q = p then -1 else r (24 + q) := by
  rw [mkRow]
  by_cases h1 : q = k
  · subst h1; rw [if_pos rfl, up1_eq]
  · rw [if_neg h1, up1_ne (by omega), up1_ne (by omega)]
    by_cases h2 : q = p
    · subst h2; rw [if_pos rfl, up1_eq]
    · rw [if_neg h2, up1_ne (by omega), up1_ne (by omega), up1_ne (by omega), up1_ne (by omega), mk0, if_neg (by omega)]
theorem RW.gift {T : gTw} {r : Nat → Int32} {g s k : Nat} {n v oI pI : Int32} (hO : TOK T) (hr : RW T r) (h : canG T g s n.toInt k) (hsum : sumT T ≤ 600) (hv : v.toInt = wtT T s + n.toInt) (ho : oI.toInt = (k : Int)) (hp : pI.toInt = (g : Int)) : RW (giftT T g s n.toInt k) (mkRow r (T 0 1).toNat g s k n v oI pI (T 0 2)) := by
  have hO2 := TOK.gift hO hsum h
  obtain ⟨h1, h2, h3, h4, h5, h6⟩ := h
  obtain ⟨o1, o2, o3, o4, o5, o6, o7, o8⟩ := hO
  have hg := o7 g (by omega)
  have hk := o7 k (by omega)
  have hbit : ∀ i : Nat, s.testBit i = true → (i : Int) < T 0 1 ∧ (r i).toInt = (g : Int) := fun i hi => ((hr.1 g h1).2.2.2 i).mp (h4 i hi)
  refine ⟨fun q hq => ?_, fun i hi => ?_⟩
  · rw [gift_o (by omega)] at hq
    have hrq := hr.1 q hq
    have hq6 := o7 q (by omega)
    have h2s := psum_two (f := T 3) (n := (T 0 0).toNat) (i := g) (j := k) (fun q hq => (o7 q (by omega)).2.2.1.1) (by omega) (by omega) h3
    rw [← sumT] at h2s
    have rg := (hr.1 g h1).1
    have rk := (hr.1 k h2).1
    rw [mk_12 (by omega) (by omega) (by omega) (by omega) h3, mk_18 (by omega) (by omega) (by omega) (by omega), mk_24 (by omega) (by omega) (by omega) (by omega), gift_3 h3, gift_4, gift_5, gift_has h3]
    refine ⟨?_, ?_, ?_, fun i => ?_⟩
    · split
      · rw [i_add (by omega)]; omega
      · split
        · rw [i_sub (by omega)]; omega
        · exact hrq.1
    · split
      · exact hv
      · split
        · rfl
        · exact hrq.2.1
    · split
      · split
        · exact hp
        · rfl
      · split
        · rfl
        · exact hrq.2.2.1
    · rw [gift_o (by omega)]
      have hi12 : (i : Int) < T 0 1 → mkRow r (T 0 1).toNat g s k n v oI pI (T 0 2) i = mk0 r s oI (T 0 1).toNat i := fun h => mk_lt (by omega)
      have hval : (i : Int) < T 0 1 → (mkRow r (T 0 1).toNat g s k n v oI pI (T 0 2) i).toInt = if s.testBit i = true then (k : Int) else (r i).toInt := fun h => by
        rw [hi12 h, mk0]
        by_cases hb : s.testBit i = true
        · rw [if_pos ⟨by omega, hb⟩, if_pos hb, ho]
        · rw [if_neg (fun h => hb h.2), if_neg hb]
      have hqi := hrq.2.2.2 i
      have hgi := (hr.1 g h1).2.2.2 i
      have hki := (hr.1 k h2).2.2.2 i
      by_cases hqk : q = k
      · subst hqk
        rw [if_pos rfl, Nat.testBit_or]
        constructor
        · intro hb
          simp only [Bool.or_eq_true] at hb
          by_cases hsb : s.testBit i = true
          · exact ⟨(hbit i hsb).1, by rw [hval (hbit i hsb).1, if_pos hsb]⟩
          · have hx := hqi.mp (hb.resolve_right hsb)
            exact ⟨hx.1, by rw [hval hx.1, if_neg hsb]; exact hx.2⟩
        · rintro ⟨hx, hy⟩
          rw [hval hx] at hy
          simp only [Bool.or_eq_true]
          by_cases hsb : s.testBit i = true
          · exact Or.inr hsb
          · rw [if_neg hsb] at hy
            exact Or.inl (hqi.mpr ⟨hx, hy⟩)
      · rw [if_neg hqk]
        by_cases hqg : q = g
        · subst hqg
          rw [if_pos rfl, nd_bit]
          constructor
          · intro hb
            simp only [Bool.and_eq_true, Bool.not_eq_true'] at hb
            have hx := hqi.mp hb.1
            exact ⟨hx.1, by rw [hval hx.1, if_neg (by rw [hb.2]; decide)]; exact hx.2⟩
          · rintro ⟨hx, hy⟩
            rw [hval hx] at hy
            by_cases hsb : s.testBit i = true
            · rw [if_pos hsb] at hy; omega
            · rw [if_neg hsb] at hy
              simp only [Bool.and_eq_true, Bool.not_eq_true']
              exact ⟨hqi.mpr ⟨hx, hy⟩, by simpa using hsb⟩
        · rw [if_neg hqg]
          constructor
          · intro hb
            have hx := hqi.mp hb
            refine ⟨hx.1, ?_⟩
            rw [hval hx.1]
            by_cases hsb : s.testBit i = true
            · have := (hbit i hsb).2; omega
            · rw [if_neg hsb]; exact hx.2
          · rintro ⟨hx, hy⟩
            rw [hval hx] at hy
            by_cases hsb : s.testBit i = true
            · rw [if_pos hsb] at hy; omega
            · rw [if_neg hsb] at hy
              exact hqi.mpr ⟨hx, hy⟩
  · rw [gift_o (by omega)] at hi
    rw [gift_o (by omega), mk_lt (by omega), mk0]
    split
    · omega
    · exact hr.2 i hi
/-- the class's side of a gift -/
theorem TB.of_TOK {M : gM} {t : Nat} (h : TOK (tv M t)) (ht : TBt M t) : TB M t := by
  obtain ⟨o1, o2, o3, o4, o5, o6, o7, o8⟩ := h
  rw [tv0 (by omega)] at o1 o2 o3 o4 o5 o6
  refine ⟨⟨o1, o2, o3, o4, o5, o6⟩, fun p hp => ?_, fun i hi => ?_, ht⟩
  · have := o7 p hp
    rw [tvp (by omega) hp, tvp (by omega) hp, tvp (by omega) hp, tvp (by omega) hp, tvp (by omega) hp, tvp (by omega) hp] at this
    exact this
  · have := o8 i hi
    rw [tvw (by omega) hi, tvw (by omega) hi] at this
    exact this
