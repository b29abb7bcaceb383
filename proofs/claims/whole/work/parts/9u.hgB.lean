theorem PBy.feed {M M1 M2 : gM} {p n : Nat} {f g : Nat → Int} (h : PBy M M1 p n f) (h2 : PBy M1 M2 (p + n) 4 g) : PBy M M2 p (n + 4) (fun i => if i < n then f i else g (i - n)) := by
  obtain ⟨a1, a2, a3, a4, a5, a6⟩ := h
  obtain ⟨b1, b2, b3, b4, b5, b6⟩ := h2
  refine ⟨fun j q1 q2 => by rw [b1 j q1 q2, a1 j q1 q2], by rw [b2, a2], fun q hq => by rw [b3 q hq, a3 q hq], by rw [b4]; omega, fun i hi => ?_, fun q hq => by rw [b6 q (by omega), a6 q (by omega)]⟩
  show _ = sgn8 (if i < n then f i else g (i - n))
  by_cases hin : i < n
  · rw [if_pos hin, b6 _ (by omega)]; exact a5 i hin
  · rw [if_neg hin]
    have := b5 (i - n) (by omega)
    rw [show p + n + (i - n) = p + i by omega] at this
    exact this
theorem PBy.ext {M M1 : gM} {p n : Nat} {f g : Nat → Int} (h : PBy M M1 p n f) (e : ∀ i, i < n → f i = g i) : PBy M M1 p n g := ⟨h.1, h.2.1, h.2.2.1, h.2.2.2.1, fun i hi => by rw [h.2.2.2.2.1 i hi, e i hi], h.2.2.2.2.2⟩
