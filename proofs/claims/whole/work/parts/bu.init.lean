theorem i_HG {Γ Γ' : gW} (hD : gD Γ Γ' ([(500, .inr (2, 1))] ++ lRf ++ lHg)) : g_HG Γ' none := ⟨hD.o 88 rfl, ⟨hD.o 98 rfl, hD.o 99 rfl, hD.o 97 rfl, hD.o 96 rfl, hD.o 95 rfl, hD.o 94 rfl, hD.o 93 rfl, hD.o 92 rfl, hD.o 91 rfl, hD.o 90 rfl, hD.o 89 rfl⟩, ⟨hD.o 86 rfl, hD.o 87 rfl, hD.o 85 rfl, hD.o 84 rfl, hD.o 83 rfl, hD.o 82 rfl, hD.o 81 rfl, hD.o 80 rfl, hD.o 79 rfl, hD.o 78 rfl, hD.o 77 rfl⟩, ⟨hD.o 73 rfl, hD.o 74 rfl, hD.o 72 rfl, hD.o 71 rfl, hD.o 70 rfl, hD.o 69 rfl, hD.o 68 rfl, hD.o 67 rfl, hD.o 66 rfl, hD.o 65 rfl, hD.o 64 rfl⟩, ⟨hD.o 75 rfl, hD.o 76 rfl⟩, ⟨hD.o 62 rfl, hD.o 63 rfl⟩, ⟨hD.o 50 rfl, hD.o 49 rfl, ⟨hD.o 60 rfl, hD.o 61 rfl, hD.o 59 rfl, hD.o 58 rfl, hD.o 57 rfl, hD.o 56 rfl, hD.o 55 rfl, hD.o 54 rfl, hD.o 53 rfl, hD.o 52 rfl, hD.o 51 rfl⟩⟩, ⟨hD.o 37 rfl, hD.o 36 rfl, ⟨hD.o 47 rfl, hD.o 48 rfl, hD.o 46 rfl, hD.o 45 rfl, hD.o 44 rfl, hD.o 43 rfl, hD.o 42 rfl, hD.o 41 rfl, hD.o 40 rfl, hD.o 39 rfl, hD.o 38 rfl⟩⟩, hD.o 35 rfl, hD.o 34 rfl, hD.o 33 rfl, Or.inl rfl⟩
theorem i_Rf {Γ Γ' : gW} (hD : gD Γ Γ' ([(500, .inr (2, 1))] ++ lRf ++ lHg)) : g_Ref Γ' := ⟨hD.o 31 rfl, hD.o 30 rfl, hD.o 29 rfl, hD.o 28 rfl, hD.o 27 rfl, hD.o 26 rfl, hD.o 25 rfl, hD.o 24 rfl, hD.o 23 rfl, hD.o 22 rfl, hD.o 21 rfl, hD.o 20 rfl, hD.o 19 rfl, hD.o 18 rfl, hD.o 17 rfl, hD.o 16 rfl, hD.o 15 rfl, hD.o 14 rfl, hD.o 13 rfl, hD.o 12 rfl, hD.o 11 rfl, hD.o 10 rfl, hD.o 9 rfl, hD.o 8 rfl, hD.o 7 rfl, hD.o 6 rfl, hD.o 5 rfl, hD.o 4 rfl, hD.o 3 rfl, hD.o 2 rfl, hD.o 1 rfl⟩
abbrev T00 : gTw := fun _ _ => 0
abbrev A00 : gAb := ((T00, 0, fun _ _ => 0), (0, 0), -1, (0, fun _ => 0), (0, fun _ => 0), fun _ => 0, none)
theorem M02_n {j : Nat} (h : j ≠ 300) (h4 : j ≠ 400) (h7 : j ≠ 407) : M02.1 j = M01.1 j := by
  unfold M02
  rw [rowI_ne h7, g_u_ne h, g_u_ne h, g_u_ne h4, g_u_ne h4, g_u_ne h4, g_u_ne h4, g_u_ne h4]
theorem M01_n {j k : Nat} (h4 : j ≠ 400) (h0 : j ≠ 0 ∨ k ≠ 11) : M01.1 j k = 0 := by
  unfold M01
  by_cases e : j = 0
  · subst e
    rw [g_u_eq, if_neg (by omega)]; show (if (0 : Nat) = 400 then (-1 : Int32) else 0) = 0; exact if_neg h4
  · rw [g_u_ne e]; exact if_neg h4
theorem M02_0 {j k : Nat} (h : j ≠ 300) (h4 : j ≠ 400) (h7 : j ≠ 407) (h0 : j ≠ 0 ∨ k ≠ 11) : M02.1 j k = 0 := by rw [M02_n h h4 h7, M01_n h4 h0]
theorem M02_011 : M02.1 0 11 = -1 := by
  rw [M02_n (by decide) (by decide) (by decide)]; unfold M01; rw [g_u_eq, if_pos rfl]
theorem M02_300 {k : Nat} (h1 : k ≠ 23) (h2 : k ≠ 32) : M02.1 300 k = 0 := by
  unfold M02
  rw [rowI_ne (by decide), g_u_eq, if_neg h2, g_u_eq, if_neg h1, g_u_ne (by decide), g_u_ne (by decide), g_u_ne (by decide), g_u_ne (by decide), g_u_ne (by decide)]
  exact M01_n (by decide) (Or.inl (by decide))
theorem M02_23 : M02.1 300 23 = -1 := by
  unfold M02
  rw [rowI_ne (by decide), g_u_eq, if_neg (by decide), g_u_eq, if_pos rfl]
theorem M02_32 : M02.1 300 32 = -1 := by
  unfold M02
  rw [rowI_ne (by decide), g_u_eq, if_pos rfl]
theorem M02_400 {j : Nat} (h : j < 5) : (M02.1 400 j).toInt = 615 + (j : Int) := by
  unfold M02
  rw [rowI_ne (by decide), g_u_ne (by decide), g_u_ne (by decide)]
  have : j = 0 ∨ j = 1 ∨ j = 2 ∨ j = 3 ∨ j = 4 := by omega
  rcases this with e | e | e | e | e <;> subst e <;> simp only [g_u_eq] <;> decide
theorem wsum_0 (n s : Nat) : wsum (fun _ => 0) n s = 0 := by
  induction n with
  | zero => rfl
  | succ n ih => unfold wsum; simp [ih]
theorem tv02 {t : Nat} (h : 1 ≤ t) (h2 : t + 8 < 300) : tv M02 t = T00 := by
  funext f i
  show (if f ≤ 8 ∧ i < lenT f then (M02.1 (t + f) i).toInt else 0) = 0
  by_cases q : f ≤ 8 ∧ i < lenT f
  · rw [if_pos q, M02_0 (by omega) (by omega) (by omega) (Or.inl (by omega))]; rfl
  · rw [if_neg q]
theorem TBt02 {t : Nat} (h : 1 ≤ t) (h2 : t + 10 < 300) : TBt M02 t := by
  intro s hs
  have z : ∀ f k, f ≤ 10 → (M02.1 (t + f) k).toInt = 0 := fun f k hf => by rw [M02_0 (by omega) (by omega) (by omega) (Or.inl (by omega))]; rfl
  have w : ∀ k, wtF M02 t k = 0 := fun k => z 7 k (by decide)
  rw [z 9 s (by decide), z 10 s (by decide), wsum_fcongr (v := fun _ => 0) (fun i _ => w i), wsum_fcongr (v := fun _ => 0) (fun i _ => w (6 + i)), wsum_0]
  exact ⟨rfl, rfl⟩
theorem TOK00 : TOK T00 := ⟨by decide, by decide, by decide, by decide, by decide, by decide, fun p _ => ⟨(by decide : (0 : Int) ≤ 0 ∧ (0 : Int) ≤ 4), (by decide : (0 : Int) ≤ 0 ∧ (0 : Int) ≤ 99), (by decide : (0 : Int) ≤ 0 ∧ (0 : Int) ≤ 600), (by decide : (0 : Int) ≤ 0 ∧ (0 : Int) ≤ 2000), (by decide : (-1 : Int) ≤ 0 ∧ (0 : Int) ≤ 5), (by decide : (0 : Int) ≤ 0 ∧ (0 : Int) ≤ 4095), fun h => absurd (show (0 : Int) = 3 from h) (by decide)⟩, fun i _ => ⟨(by decide : (0 : Int) ≤ 0 ∧ (0 : Int) ≤ 99), (by decide : (0 : Int) ≤ 0 ∧ (0 : Int) ≤ 999)⟩⟩
theorem INV00 : INV T00 := by
  have h := (PIV.clr TOK00).inv
  have e : clrT T00 = T00 := by funext f i; show (if f = 0 ∨ f = 7 then (0 : Int) else 0) = 0; exact ite_self _
  rw [e] at h; exact h
theorem RC00 : RC A00 M02 := by
  have z : ∀ j k, j < 300 → (j ≠ 0 ∨ k ≠ 11) → (M02.1 j k).toInt = 0 := fun j k hj hk => by rw [M02_0 (by omega) (by omega) (by omega) hk]; rfl
  refine ⟨⟨tv02 (by decide) (by decide), TBt02 (by decide) (by decide), z 220 0 (by decide) (by decide), Nat.zero_le _, fun i hi => absurd hi (Nat.not_lt_zero _)⟩, ⟨z 0 3 (by decide) (by decide), z 0 4 (by decide) (by decide)⟩, by rw [M02_011]; rfl, ⟨z 230 2 (by decide) (by decide), fun k hk => by rw [z 231 k (by decide) (by left; decide)]; rfl⟩, ⟨z 0 14 (by decide) (by decide), fun i hi => absurd hi (Nat.not_lt_zero _)⟩, fun i hi => z 241 i (by decide) (by left; decide), z 0 5 (by decide) (by decide), ?_, z 169 0 (by decide) (by decide), z 170 0 (by decide) (by decide)⟩
  rw [tv02 (by decide) (by decide)]; exact TOK00
theorem RR00 : RR A00 M02 := by
  have z : ∀ j k, j ≠ 300 → j ≠ 400 → j ≠ 407 → 1 ≤ j → (M02.1 j k).toInt = 0 := fun j k a c d e => by rw [M02_0 a c d (Or.inl (by omega))]; rfl
  have y : ∀ k, k ≠ 23 → k ≠ 32 → (M02.1 300 k).toInt = 0 := fun k a c => by rw [M02_300 a c]; rfl
  have no : ∀ p : Nat, ¬ ((p : Int) < T00 0 0) := fun p h => by have : (p : Int) < 0 := h; omega
  have no1 : ∀ p : Nat, ¬ ((p : Int) < T00 0 1) := fun p h => by have : (p : Int) < 0 := h; omega
  refine ⟨⟨⟨⟨z 402 0 (by decide) (by decide) (by decide) (by decide), z 402 1 (by decide) (by decide) (by decide) (by decide), z 402 2 (by decide) (by decide) (by decide) (by decide), z 402 3 (by decide) (by decide) (by decide) (by decide), fun p hp => absurd hp (no p), fun i hi => absurd hi (no1 i)⟩, fun i hi => absurd hi (no1 i), ⟨fun p hp => absurd hp (no p), fun i hi => absurd hi (no1 i)⟩, y 12 (by decide) (by decide), fun i hi => absurd hi (no1 i)⟩, y 24 (by decide) (by decide), fun i hi => absurd hi (Nat.not_lt_zero _)⟩, ⟨z 406 0 (by decide) (by decide) (by decide) (by decide), z 406 1 (by decide) (by decide) (by decide) (by decide)⟩, by rw [M02_23]; rfl, ⟨y 14 (by decide) (by decide), fun k hk => z 413 k (by decide) (by decide) (by decide) (by decide)⟩, ⟨Or.inr ⟨rfl, by rw [M02_32]; rfl⟩, fun i hi => absurd hi (Nat.not_lt_zero _)⟩, fun i hi => z 430 i (by decide) (by decide) (by decide) (by decide), y 48 (by decide) (by decide), by rw [y 49 (by decide) (by decide)]; decide, fun j hj => M02_400 hj⟩
theorem AOK00 : AOK A00 0 := ⟨INV00, trivial, by decide, by decide, by decide, ⟨Nat.zero_le _, fun k hk => (by decide : (0 : Int) ≤ 0 ∧ (0 : Int) ≤ 255)⟩, Nat.zero_le _, trivial⟩
theorem law_0 {b L : Nat} {xs : Nat → Int32} (hL3 : L ≤ 3072) {Γ : gW} (hl : Γ.2.2.2.1 = []) (hb : Γ.2.2.1 598 = b) : G Γ μL_law room_1 (0, 0) (g_ZL b L xs) 0 [some (.ref 598), none, none, none, none, none, none] [] M00 := by
  refine law_start hl hb (fun Γ' hE hC hD => ?_)
  refine g_iconst (v := 0) dL_law_20 rfl rfl ?_
  refine g_istore4 dL_law_21 rfl rfl ?_
  have hN : gN0 lnG Γ' := gN0.gr (Ns := lnG) (fun j _ => by rw [hl]; exact List.not_mem_nil) hD (by decide +kernel)
  have hz : gZ0 lnG M02 := fun j hj => ⟨fun k => M02_0 (by have := lG_of hj; unfold lG at this; omega) (by have := lG_of hj; unfold lG at this; omega) (by have := lG_of hj; unfold lG at this; omega) (Or.inl (by have := lG_of hj; unfold lG at this; omega)), fun k => rfl⟩
  exact law_loop hL3 600 Γ' none (100, 51387) M02 A00 0 0 none none rfl (by decide) rfl (Or.inl rfl) (Or.inl rfl) ⟨i_HG hD, i_Rf hD, hD.o 32 rfl, hD.o 0 rfl, by rw [hE.2.2 598 (Or.inr (by decide))]; exact hb, hC, fun _ => ⟨hN, hz⟩⟩ RC00 RR00 AOK00 (by decide) (by decide)
