theorem cutIn_no {ok : Nat → Prop} (h : ∀ a, ¬ ok a) (t : Nat) : ∀ (m : Nat) (q : Int × Int), cutIn ok t m q = q := by
  intro m
  induction m with
  | zero => intro q; rfl
  | succ m ih => intro q; show cutStep (ok (m + 1)) t (m + 1) (cutIn ok t m q) = q; rw [cutStep_no (h _), ih]
theorem cutOut_no {ok : Nat → Nat → Prop} (h : ∀ t a, ¬ ok t a) (m : Nat → Nat) : ∀ n, cutOut ok m n = (0, -1) := by
  intro n
  induction n with
  | zero => rfl
  | succ n ih => show cutIn (ok n) n (m n) (cutOut ok m n) = _; rw [cutIn_no (h n), ih]
section OC
variable {b : Nat} {Γ : gW} {gt : Option Nat} {M : gM} {A : gAb} {n : Nat}
theorem o_cut (hL : LW b Γ gt M) (hC : RC A M) (hR : RR A M) (hn : AOK A n) {p w : Int32} : OH b Γ gt n yL_cut μL_cut hhL_cut [.ref 0, .int p, .int w, .ref 500] yX6_cut μX6_cut [.ref 300, .int p, .int w] M := by
  refine o_rg hL hC hR hn (d := 6) (by decide) (h_cut hL.1 hL.2.2.2.1 (by decide) (x_cut hL.1 hC.1.1 (hC.tb hn)) (fun E M' h => h.1)) Iff.rfl (fun z M1 h => ⟨h.1 ▸ FC.rf, h.2.1, h.2.2⟩) (fun M1 h => ⟨h.2.1, h.2.2⟩) (d2 := 5) (by decide) (fun M1 h1 => r_cut hL.2.1 hn.1.1 h1.1.1) (qz := fun z => ((0 < A.1.1 4 p.toInt.toNat ∧ ¬ ∃ u, fitT A.1.1 p.toInt.toNat u) ∧ z.toInt = if w.toInt = 0 then (cutOut (okT A.1.1 p.toInt.toNat) (fun t => if t < 12 then mT A.1.1 p.toInt.toNat t else 0) (A.1.1 0 1).toNat).1 else (cutOut (okT A.1.1 p.toInt.toNat) (fun t => if t < 12 then mT A.1.1 p.toInt.toNat t else 0) (A.1.1 0 1).toNat).2) ∨ (¬ (0 < A.1.1 4 p.toInt.toNat ∧ ¬ ∃ u, fitT A.1.1 p.toInt.toNat u) ∧ z.toInt = if w.toInt = 0 then 0 else -1)) (fun M1 z M2 hr h => by
    rcases h with ⟨a1, -, a3⟩ | ⟨a1, a2, a3⟩
    · exact Or.inl ⟨a1, a3⟩
    · exact Or.inr ⟨a1, a2 ▸ FR.c, by rw [a2]; exact code_at, a3⟩) (fun z z2 _ h1 h2 => ?_)
  rcases h1 with ⟨⟨u1, u2⟩, u3⟩ | ⟨u1, u3⟩ <;> rcases h2 with ⟨⟨v1, v2⟩, v3⟩ | ⟨v1, v3⟩
  · exact i32_eq u3 v3
  · exact absurd ⟨u1.1, u2⟩ v1
  · have hm : ¬ 1 < A.1.1 0 0 := fun q => u1 ⟨⟨v1, q⟩, v2⟩
    have hno : ∀ t a, ¬ okT A.1.1 p.toInt.toNat t a := fun t a hk => by
      rcases hk with ⟨u, hu⟩ | ⟨u, hu⟩
      · exact hm (by have := hu.1.2; rwa [show upT A.1.1 7 t (a : Int) 0 0 = A.1.1 0 0 from if_neg (fun h => absurd h.1 (by decide))] at this)
      · exact hm (by have := hu.1.2; rwa [show upT A.1.1 7 t (A.1.1 7 t - (a : Int)) 0 0 = A.1.1 0 0 from if_neg (fun h => absurd h.1 (by decide))] at this)
    rw [cutOut_no hno] at v3
    exact i32_eq u3 v3
  · exact i32_eq u3 v3
theorem has_lt {T : gTw} {r : Nat → Int32} {p u : Nat} (hr : RW T r) (hp : (p : Int) < T 0 0) (h : sub u (hasT T p)) : u < 2 ^ (T 0 1).toNat := by
  refine Nat.lt_of_not_le fun hle => ?_
  obtain ⟨i, hi, hb⟩ := Nat.exists_ge_and_testBit_of_ge_two_pow hle
  have h1 : (hasT T p).testBit i = true := h i hb
  have := ((hr.1 p hp).2.2.2 i).mp h1
  omega
theorem o_gap (hL : LW b Γ gt M) (hC : RC A M) (hR : RR A M) (hn : AOK A n) {p : Int32} : OH b Γ gt n yL_gap μL_gap hhL_gap [.ref 0, .int p, .ref 500] yX6_gap μX6_gap [.ref 300, .int p] M := by
  refine o_rg hL hC hR hn (d := 3) (by decide) (h_gap hL.1 hL.2.2.2.1 (by decide) (x_gap hL.1 hC.1.1 (hC.tb hn)) (fun E M' h => h.1)) Iff.rfl (fun z M1 h => ⟨h.1 ▸ FC.rf, h.2.1, h.2.2⟩) (fun M1 h => ⟨h.2.1, h.2.2⟩) (d2 := 2) (by decide) (fun M1 h1 => r_gap hL.2.1 hn.1.1 h1.1.1) (qz := fun z => (A.1.1 4 p.toInt.toNat = 0 ∧ z.toInt = -1) ∨ (¬ A.1.1 4 p.toInt.toNat = 0 ∧ ∃ y : Int, nearP (gpP A.1.1 p.toInt.toNat (2 ^ (A.1.1 0 1).toNat * 1000)) (gpPos A.1.1) (gpOff A.1.1 p.toInt.toNat) y ∧ z.toInt = if y = -1 then A.1.1 4 p.toInt.toNat else y)) (fun M1 z M2 hr h => by
    rcases h with ⟨a1, -, a3⟩ | ⟨a1, a2, a3⟩
    · exact Or.inl ⟨a1, a3⟩
    · exact Or.inr ⟨a1, a2 ▸ FR.c, by rw [a2]; exact code_at, a3⟩) (fun z z2 hrg h1 h2 => ?_)
  have hO := hn.1.1
  have b0 := hO.1
  have hp6 : p.toInt.toNat < 6 := by omega
  have hb := hO.2.2.2.2.2.2.1 _ hp6
  have b3 := hO.2.2.2.1
  rcases h1 with ⟨u1, u3⟩ | ⟨u1, y, u2, u3⟩ <;> rcases h2 with ⟨v1, v3⟩ | ⟨v1, y', v2, v3⟩
  · exact i32_eq u3 v3
  · exact absurd u1 v1
  · exact absurd v1 u1
  · refine i32_eq u3 ?_
    rw [v3]
    exact (gap_same (fun u => (wtT_rng hO).1) ⟨hb.2.2.1.1, by omega⟩ (by omega) b3.1 (fun u hu => has_lt hR.1.1.2.2.1 (by omega) hu) u2 v2).symm
theorem FC.sp {M1 : gM} (h : frSp M M1) : FC M M1 := ⟨fun j hj => h.1 j (by unfold cN at hj; omega), fun j hj => ⟨h.1 j (by unfold lG at hj; omega), by rw [h.2]⟩⟩
theorem o_round (hL : LW b Γ gt M) (hC : RC A M) (hR : RR A M) (hn : AOK A n) {p w : Int32} : OH b Γ gt n yL_round μL_round hhL_round [.ref 0, .int p, .int w, .ref 500] yX6_round μX6_round [.ref 300, .int p, .int w] M :=
  o_rg hL hC hR hn (d := 6) (by decide) (h_round hL.1 hL.2.2.2.1 (by decide) (x_round hL.1 hC.1.1 (hC.tb hn) hn.1) (fun E M' h => h.1)) Iff.rfl (fun z M1 h => ⟨FC.sp h.1, h.2.1, h.2.2⟩) (fun M1 h => ⟨h.2.1, h.2.2⟩) (d2 := 4) (by decide) (fun M1 h1 => r_round hL.2.1 hn.1 h1.1.1) (qz := fun z => ∃ (k : Nat) (T' : gTw) (w' : Nat), rdP A.1.1 p.toInt.toNat k T' w' ∧ rdE p.toInt.toNat k T' w' ∧ k ≤ 20 ∧ z.toInt = if w.toInt = 0 then (k : Int) else if w.toInt = 1 then (w' : Int) else woT T' (hasT T' p.toInt.toNat) - woT A.1.1 (hasT A.1.1 p.toInt.toNat)) (fun M1 z M2 hr h => by
    rcases h with ⟨a1, -, a3⟩ | ⟨a1, a2, a3⟩
    · exact Or.inl ⟨a1, a3⟩
    · exact Or.inr ⟨a1, (FR.c (x := 0)).tr ⟨fun j hj => a2.1 j (by unfold rN at hj; omega), fun i hi => by rw [a2.1 409 (by decide)], fun k hk => by rw [a2.1 300 (by decide)], a2.2⟩, by rw [a2.1 300 (by decide)]; exact code_at, a3⟩) (fun z z2 _ h1 h2 => by
    obtain ⟨k, T', w', c1, c2, c3, c4⟩ := h1
    obtain ⟨k2, T2, w2, d1, d2, d3, d4⟩ := h2
    obtain ⟨rfl, rfl, rfl⟩ := rd_uniq c1 c2 c3 d1 d2 d3
    exact i32_eq c4 d4)
end OC
