/-! the class's gift, seen as a value -/
theorem gm_6 {M : gM} {t g k i : Nat} {s n v : Int32} (hgk : g ≠ k) : (giftM M t g s n v k).1 (t + 6) i = if i = k then M.1 (t + 6) k ||| s else if i = g then M.1 (t + 6) g &&& (s ^^^ -1) else M.1 (t + 6) i := by
  rw [giftM, g_u_ne (by omega), g_u_ne (by omega), g_u_ne (by omega), g_u_ne (by omega), handM, g_u_ne (by omega), g_u_ne (by omega), g_u_eq, g_u_eq]
  by_cases h1 : i = k
  · rw [if_pos h1, if_pos h1, if_neg (fun e => hgk e.symm)]
  · rw [if_neg h1, if_neg h1, g_u_eq]
theorem gm_3 {M : gM} {t g k i : Nat} {s n v : Int32} (hgk : g ≠ k) : (giftM M t g s n v k).1 (t + 3) i = if i = k then M.1 (t + 3) k + n else if i = g then M.1 (t + 3) g - n else M.1 (t + 3) i := by
  rw [giftM, g_u_ne (by omega), g_u_ne (by omega), g_u_ne (by omega), g_u_ne (by omega), handM, g_u_eq]
  by_cases h1 : i = k
  · rw [if_pos h1, if_pos h1, g_u_eq, if_neg (fun e => hgk e.symm), g_u_ne (by omega), g_u_ne (by omega)]
  · rw [if_neg h1, if_neg h1, g_u_eq]
    by_cases h2 : i = g
    · rw [if_pos h2, if_pos h2]
    · rw [if_neg h2, if_neg h2, g_u_ne (by omega), g_u_ne (by omega)]
theorem gm_4 {M : gM} {t g k i : Nat} {s n v : Int32} : (giftM M t g s n v k).1 (t + 4) i = if i = k then v else if i = g then 0 else M.1 (t + 4) i := by
  rw [giftM, g_u_ne (by omega), g_u_eq]
  by_cases h1 : i = k
  · rw [if_pos h1, if_pos h1]
  · rw [if_neg h1, if_neg h1, g_u_ne (by omega), g_u_eq, handM_ne (by omega) (by omega)]
theorem gm_5 {M : gM} {t g k i : Nat} {s n v : Int32} : (giftM M t g s n v k).1 (t + 5) i = if i = k then (if (M.1 t 2).toInt = 0 then Int32.ofNat g else -1) else if i = g then -1 else M.1 (t + 5) i := by
  rw [giftM, g_u_eq]
  by_cases h1 : i = k
  · rw [if_pos h1, if_pos h1]
  · rw [if_neg h1, if_neg h1, g_u_ne (by omega), g_u_eq]
    by_cases h2 : i = g
    · rw [if_pos h2, if_pos h2]
    · rw [if_neg h2, if_neg h2, g_u_ne (by omega), handM_ne (by omega) (by omega)]
theorem gm_o {M : gM} {t g k j : Nat} {s n v : Int32} (h : j ≠ t + 3 ∧ j ≠ t + 4 ∧ j ≠ t + 5 ∧ j ≠ t + 6) : (giftM M t g s n v k).1 j = M.1 j := by
  rw [giftM, g_u_ne h.2.2.1, g_u_ne h.2.1, g_u_ne h.2.2.1, g_u_ne h.2.1, handM_ne h.2.2.2 h.1]
theorem gm_2 {M : gM} {t g k : Nat} {s n v : Int32} : (giftM M t g s n v k).2 = M.2 := rfl
theorem lenT_p {f : Nat} (h : f ≤ 6) : lenT f = 6 := if_pos h
theorem v_gift {M : gM} {t g k : Nat} {s n v : Int32} (hB : TB M t) (hg : g < 6) (hk : k < 6) (hgk : g ≠ k) (hs : bn s < 4096) (hn : 0 ≤ n.toInt ∧ n.toInt ≤ (M.1 (t + 3) g).toInt) (hv : v.toInt = wt M t (bn s) + n.toInt) : tv (giftM M t g s n v k) t = giftT (tv M t) g (bn s) n.toInt k := by
  have hbg := hB.2.1 g hg
  have hbk := hB.2.1 k hk
  have eg := i_bn2 hbg.2.2.2.2.2.1.1
  have ek := i_bn2 hbk.2.2.2.2.2.1.1
  have e12 : (2 : Nat) ^ 12 = 4096 := rfl
  have hg4 : bn (M.1 (t + 6) g) < 4096 := by have := hbg.2.2.2.2.2.1; omega
  have hk4 : bn (M.1 (t + 6) k) < 4096 := by have := hbk.2.2.2.2.2.1; omega
  have eh : hasT (tv M t) g = bn (M.1 (t + 6) g) := (v_has hB hg).symm
  have ekh : hasT (tv M t) k = bn (M.1 (t + 6) k) := (v_has hB hk).symm
  have hsg := hbg.2.2.1
  have hsk := hbk.2.2.1
  funext f i
  by_cases hr : f ≤ 8 ∧ i < lenT f
  · rw [tv, if_pos hr]
    by_cases h6 : f = 6
    · subst h6
      have hi : i < 6 := by rw [lenT_p (by omega)] at hr; exact hr.2
      rw [gm_6 hgk, gift_6 hgk, eh, ekh, tvp (by omega) hi]
      by_cases h1 : i = k
      · have : bn (M.1 (t + 6) k ||| s) < 4096 := by rw [bn_or, ← e12]; exact Nat.or_lt_two_pow (by omega) (by omega)
        rw [if_pos h1, if_pos h1, i_bn (by omega), bn_or]
      · rw [if_neg h1, if_neg h1]
        by_cases h2 : i = g
        · have hx : bn (M.1 (t + 6) g &&& (s ^^^ -1)) = nd (bn (M.1 (t + 6) g)) (bn s) := by
            rw [bn_and, bn_xor, show bn (-1) = 4294967295 from rfl, and_not (bn_lt _)]
          have := nd_le (bn (M.1 (t + 6) g)) (bn s)
          rw [if_pos h2, if_pos h2, i_bn (by omega), hx]
        · rw [if_neg h2, if_neg h2]
    · by_cases h3 : f = 3
      · subst h3
        have hi : i < 6 := by rw [lenT_p (by omega)] at hr; exact hr.2
        rw [gm_3 hgk, gift_3 hgk, tvp (by omega) hi, tvp (by omega) hg, tvp (by omega) hk]
        by_cases h1 : i = k
        · rw [if_pos h1, if_pos h1, i_add (by omega)]
        · rw [if_neg h1, if_neg h1]
          by_cases h2 : i = g
          · rw [if_pos h2, if_pos h2, i_sub (by omega)]
          · rw [if_neg h2, if_neg h2]
      · by_cases h4 : f = 4
        · subst h4
          have hi : i < 6 := by rw [lenT_p (by omega)] at hr; exact hr.2
          rw [gm_4, gift_4, tvp (by omega) hi, ← v_wt]
          by_cases h1 : i = k
          · rw [if_pos h1, if_pos h1, hv]
          · rw [if_neg h1, if_neg h1]
            by_cases h2 : i = g
            · rw [if_pos h2, if_pos h2]; rfl
            · rw [if_neg h2, if_neg h2]
        · by_cases h5 : f = 5
          · subst h5
            have hi : i < 6 := by rw [lenT_p (by omega)] at hr; exact hr.2
            rw [gm_5, gift_5, tvp (by omega) hi, tv0 (by omega)]
            by_cases h1 : i = k
            · rw [if_pos h1, if_pos h1]
              split
              · rw [i_of (by omega)]
              · rfl
            · rw [if_neg h1, if_neg h1]
              by_cases h2 : i = g
              · rw [if_pos h2, if_pos h2]; rfl
              · rw [if_neg h2, if_neg h2]
          · rw [gm_o (by omega), gift_o (by omega), tv, if_pos hr]
  · have hf : giftT (tv M t) g (bn s) n.toInt k f i = tv M t f i := by
      simp only [giftT, handT, upT]
      have q1 : ¬ (f = 5 ∧ i = k) := fun h => hr (by rw [h.1, lenT_p (by omega)]; omega)
      have q2 : ¬ (f = 4 ∧ i = k) := fun h => hr (by rw [h.1, lenT_p (by omega)]; omega)
      have q3 : ¬ (f = 5 ∧ i = g) := fun h => hr (by rw [h.1, lenT_p (by omega)]; omega)
      have q4 : ¬ (f = 4 ∧ i = g) := fun h => hr (by rw [h.1, lenT_p (by omega)]; omega)
      have q5 : ¬ (f = 3 ∧ i = k) := fun h => hr (by rw [h.1, lenT_p (by omega)]; omega)
      have q6 : ¬ (f = 3 ∧ i = g) := fun h => hr (by rw [h.1, lenT_p (by omega)]; omega)
      have q7 : ¬ (f = 6 ∧ i = k) := fun h => hr (by rw [h.1, lenT_p (by omega)]; omega)
      have q8 : ¬ (f = 6 ∧ i = g) := fun h => hr (by rw [h.1, lenT_p (by omega)]; omega)
      rw [if_neg q1, if_neg q2, if_neg q3, if_neg q4, if_neg q5, if_neg q6, if_neg q7, if_neg q8]
    rw [hf, tv, if_neg hr, tv, if_neg hr]
theorem TBt.gift {M : gM} {t g k : Nat} {s n v : Int32} (h : TBt M t) : TBt (giftM M t g s n v k) t := TBt.moved h (gm_o (by omega)) (gm_o (by omega)) (gm_o (by omega))
/-- a chosen gift can be made, and what it makes -/
theorem chosenT_can {T : gTw} {p n : Nat} (hO : TOK T) (hp : (p : Int) < T 0 0) (h : chosenT T p (n : Int)) (hown : ∀ q : Nat, (q : Int) < T 0 0 → ¬ T 5 q = -1 → T 5 q < T 0 0 ∧ ¬ T 5 q = (q : Int)) : canG T p n (sandT T p n) (takerT T p).toNat ∧ 0 ≤ takerT T p ∧ takerT T p < T 0 0 := by
  have hsel : selT T p n := by
    rcases h with ⟨h, -⟩ | ⟨m, h, h1, -⟩
    · omega
    · have : n = m := by omega
      subst this; exact h1
  obtain ⟨⟨⟨m1, m2⟩, m3, m4, m5⟩, -, -⟩ := hsel
  have hb := hO.2.2.2.2.2.2.1 p (by have := hO.1; omega)
  have htk : 0 ≤ takerT T p ∧ takerT T p < T 0 0 ∧ ¬ takerT T p = (p : Int) := by
    rw [takerT]
    split
    · rename_i h5
      have := hown p hp h5
      omega
    · split
      · rename_i hh
        have h3 := fst_rng (fun q => (hasT T q).testBit (T 2 p).toNat) (T 0 0).toNat 0
        have h4 : holdT T (T 2 p).toNat = -1 ∨ (0 ≤ holdT T (T 2 p).toNat ∧ holdT T (T 2 p).toNat < T 0 0) := by
          rcases h3 with h | ⟨m, h, -, h5, -⟩
          · exact Or.inl h
          · right; rw [holdT, h]; omega
        clear h3
        omega
      · split <;> omega
  have hs : 0 ≤ sandT T p n ∧ sandT T p n ≤ T 3 p := by
    rw [sandT]; split <;> omega
  exact ⟨⟨hp, by omega, by omega, m3, hs.1, hs.2⟩, htk.1, htk.2.1⟩
