/-! the relation of the two sides -/
/-- what both sides hold: the town and the Book, refused texts and gifts, the fault, the tape, the order kept, the week's row, the image -/
abbrev gAb : Type := gSt × (Int × Int) × Int × (Nat × (Nat → Int)) × (Nat × (Nat → Int)) × (Nat → Int) × Option (gSt × Int × Int)
def RCi (M : gM) : Option (gSt × Int × Int) → Prop
  | none => (M.1 0 5).toInt = 0
  | some (I, i0, i1) => (M.1 0 5).toInt = 1 ∧ CIB I M ∧ (M.1 0 8).toInt = i0 ∧ (M.1 0 9).toInt = i1
/-- the class holds A -/
def RC (A : gAb) (M : gM) : Prop :=
  CSB A.1 M ∧ ((M.1 0 3).toInt = A.2.1.1 ∧ (M.1 0 4).toInt = A.2.1.2) ∧ (M.1 0 11).toInt = A.2.2.1 ∧ ((M.1 230 2).toInt = (A.2.2.2.1.1 : Int) ∧ ∀ k, k < 700 → (M.1 231 k).toInt = sgn8 (A.2.2.2.1.2 k)) ∧
  ((M.1 0 14).toInt = (A.2.2.2.2.1.1 : Int) ∧ ∀ i, i < A.2.2.2.2.1.1 → (M.1 1 i).toInt = A.2.2.2.2.1.2 i) ∧ (∀ i, i < 6 → (M.1 241 i).toInt = A.2.2.2.2.2.1 i) ∧ RCi M A.2.2.2.2.2.2 ∧ TOK (tv M 160) ∧ (M.1 169 0).toInt = 0 ∧ (M.1 170 0).toInt = 0
/-- the reference's image -/
def RIB (I : gSt) (M : gM) : Prop := CR I.1 M ∧ (∀ i : Nat, (i : Int) < I.1 0 1 → (M.1 452 i).toInt = I.1 7 i) ∧ RW I.1 (M.1 451) ∧ (M.1 300 50).toInt = I.1 0 4 ∧ (∀ i : Nat, (i : Int) < I.1 0 1 → (M.1 411 i).toInt = if (I.1 0 5).toNat.testBit i then 1 else 0) ∧ (M.1 300 49).toInt = (I.2.1 : Int) ∧ ∀ i, i < I.2.1 → ∀ j, j < 9 → (M.1 453 (9 * i + j)).toInt = I.2.2 i j
def RRi (M : gM) : Option (gSt × Int × Int) → Prop
  | none => (M.1 300 48).toInt = 0
  | some (I, i0, i1) => (M.1 300 48).toInt = 1 ∧ RIB I M ∧ (M.1 454 0).toInt = i0 ∧ (M.1 454 1).toInt = i1
/-- the reference holds A -/
def RR (A : gAb) (M : gM) : Prop :=
  RSB A.1 M ∧ ((M.1 406 0).toInt = A.2.1.1 ∧ (M.1 406 1).toInt = A.2.1.2) ∧ (M.1 300 23).toInt = A.2.2.1 ∧ ((M.1 300 14).toInt = (A.2.2.2.1.1 : Int) ∧ ∀ k, k < 700 → (M.1 413 k).toInt = A.2.2.2.1.2 k) ∧
  (((M.1 300 32).toInt = (A.2.2.2.2.1.1 : Int) ∨ (A.2.2.2.2.1.1 = 0 ∧ (M.1 300 32).toInt = -1)) ∧ ∀ i, i < A.2.2.2.2.1.1 → (M.1 431 i).toInt = A.2.2.2.2.1.2 i) ∧ (∀ i, i < 6 → (M.1 430 i).toInt = A.2.2.2.2.2.1 i) ∧ RRi M A.2.2.2.2.2.2 ∧ (0 ≤ (M.1 300 49).toInt ∧ (M.1 300 49).toInt ≤ 200) ∧ ∀ j, j < 5 → (M.1 400 j).toInt = 615 + (j : Int)
def AOKi (n : Nat) : Option (gSt × Int × Int) → Prop
  | none => True
  | some (I, i0, i1) => INV I.1 ∧ HIST I.2.1 I.1 I.2.2 ∧ I.1 0 4 ≤ 60 * (n : Int) ∧ (0 ≤ i0 ∧ i0 ≤ (n : Int)) ∧ 0 ≤ i1 ∧ i1 ≤ (n : Int)
/-- bounds, after n calls -/
def AOK (A : gAb) (n : Nat) : Prop :=
  INV A.1.1 ∧ HIST A.1.2.1 A.1.1 A.1.2.2 ∧ A.1.1 0 4 ≤ 60 * (n : Int) ∧ (0 ≤ A.2.1.1 ∧ A.2.1.1 ≤ (n : Int)) ∧ (0 ≤ A.2.1.2 ∧ A.2.1.2 ≤ (n : Int)) ∧ (A.2.2.2.1.1 ≤ 700 ∧ ∀ k, k < 700 → 0 ≤ A.2.2.2.1.2 k ∧ A.2.2.2.1.2 k ≤ 255) ∧ A.2.2.2.2.1.1 ≤ 6 ∧ AOKi n A.2.2.2.2.2.2
theorem AOKi.up {n m : Nat} (hnm : n ≤ m) : ∀ {o : Option (gSt × Int × Int)}, AOKi n o → AOKi m o
  | none, h => h
  | some (I, i0, i1), h => by
    obtain ⟨h1, h2, h3, h4, h5⟩ := h
    exact ⟨h1, h2, by omega, by omega, by omega⟩
theorem AOK.up {A : gAb} {n m : Nat} (h : AOK A n) (hnm : n ≤ m) : AOK A m := by
  obtain ⟨h1, h2, h3, h4, h5, h6, h7, h8⟩ := h
  exact ⟨h1, h2, by omega, by omega, by omega, h6, h7, h8.up hnm⟩
/-- numbers that RC reads -/
def cN (j : Nat) : Prop := j ≤ 1 ∨ (100 ≤ j ∧ j ≤ 110) ∨ (140 ≤ j ∧ j ≤ 150) ∨ (160 ≤ j ∧ j ≤ 170) ∨ (220 ≤ j ∧ j ≤ 223) ∨ j = 230 ∨ j = 231 ∨ j = 241
theorem CSB.fr {S : gSt} {M M' : gM} (h : CSB S M) (hf : ∀ j, (100 ≤ j ∧ j ≤ 110) ∨ j = 220 ∨ j = 221 → M'.1 j = M.1 j) : CSB S M' := by
  obtain ⟨h1, h2, h3, h4, h5⟩ := h
  refine ⟨?_, TBt.moved h2 (hf _ (by omega)) (hf _ (by omega)) (hf _ (by omega)), by rw [hf 220 (by omega)]; exact h3, h4, fun i hi j hj => by rw [hf 221 (by omega)]; exact h5 i hi j hj⟩
  rw [← h1]; exact tv_far (fun j a b => hf j (by omega))
theorem CIB.fr {S : gSt} {M M' : gM} (h : CIB S M) (hf : ∀ j, (140 ≤ j ∧ j ≤ 150) ∨ j = 222 ∨ j = 223 → M'.1 j = M.1 j) : CIB S M' := by
  obtain ⟨h1, h2, h3, h4, h5⟩ := h
  refine ⟨?_, TBt.moved h2 (hf _ (by omega)) (hf _ (by omega)) (hf _ (by omega)), by rw [hf 222 (by omega)]; exact h3, h4, fun i hi j hj => by rw [hf 223 (by omega)]; exact h5 i hi j hj⟩
  rw [← h1]; exact tv_far (fun j a b => hf j (by omega))
theorem RCi.fr {M M' : gM} (h5 : M'.1 0 5 = M.1 0 5) (h8 : M'.1 0 8 = M.1 0 8) (h9 : M'.1 0 9 = M.1 0 9) (hf : ∀ j, (140 ≤ j ∧ j ≤ 150) ∨ j = 222 ∨ j = 223 → M'.1 j = M.1 j) : ∀ {o : Option (gSt × Int × Int)}, RCi M o → RCi M' o
  | none, h => by show (M'.1 0 5).toInt = 0; rw [h5]; exact h
  | some (I, i0, i1), h => by
    obtain ⟨a, b, c, d⟩ := h
    exact ⟨by rw [h5]; exact a, b.fr hf, by rw [h8]; exact c, by rw [h9]; exact d⟩
theorem RC.fr {A : gAb} {M M' : gM} (h : RC A M) (hf : ∀ j, cN j → M'.1 j = M.1 j) : RC A M' := by
  obtain ⟨h1, h2, h3, h4, h5, h6, h7, h8, h9, h10⟩ := h
  have e0 := hf 0 (by unfold cN; omega)
  have hc : ∀ j, (100 ≤ j ∧ j ≤ 110) ∨ j = 220 ∨ j = 221 → M'.1 j = M.1 j := fun j hj => hf j (by unfold cN; omega)
  have hi : ∀ j, (140 ≤ j ∧ j ≤ 150) ∨ j = 222 ∨ j = 223 → M'.1 j = M.1 j := fun j hj => hf j (by unfold cN; omega)
  refine ⟨h1.fr hc, by rw [e0]; exact h2, by rw [e0]; exact h3, by rw [hf 230 (by unfold cN; omega), hf 231 (by unfold cN; omega)]; exact h4, by rw [e0, hf 1 (by unfold cN; omega)]; exact h5, by rw [hf 241 (by unfold cN; omega)]; exact h6, RCi.fr (by rw [e0]) (by rw [e0]) (by rw [e0]) hi h7, ?_, by rw [hf 169 (by unfold cN; omega)]; exact h9, by rw [hf 170 (by unfold cN; omega)]; exact h10⟩
  rw [tv_far (M' := M') (M := M) (t := 160) (fun j a b => hf j (by unfold cN; omega))]; exact h8
/-- numbers that RR reads, but 300 and 409 -/
def rN (j : Nat) : Prop := j = 400 ∨ (402 ≤ j ∧ j ≤ 407) ∨ j = 411 ∨ j = 413 ∨ j = 425 ∨ j = 430 ∨ j = 431 ∨ (451 ≤ j ∧ j ≤ 454)
def rK (k : Nat) : Prop := k = 12 ∨ k = 14 ∨ k = 23 ∨ k = 24 ∨ k = 32 ∨ (48 ≤ k ∧ k ≤ 50)
theorem RS.fr {T : gTw} {M M' : gM} (h : RS T M) (h1 : T 0 1 ≤ 12) (hf : ∀ j, (402 ≤ j ∧ j ≤ 405) ∨ j = 407 ∨ j = 411 → M'.1 j = M.1 j) (h9 : ∀ i, i < 12 → M'.1 409 i = M.1 409 i) (h12 : M'.1 300 12 = M.1 300 12) : RS T M' := by
  obtain ⟨a, b, c, d, e⟩ := h
  refine ⟨?_, fun i hi => by rw [h9 i (by omega)]; exact b i hi, by rw [hf 407 (by omega)]; exact c, by rw [h12]; exact d, fun i hi => by rw [hf 411 (by omega)]; exact e i hi⟩
  unfold CR at a ⊢
  rw [hf 402 (by omega), hf 403 (by omega), hf 404 (by omega), hf 405 (by omega)]; exact a
theorem RIB.fr {I : gSt} {M M' : gM} (h : RIB I M) (hf : ∀ j, rN j → M'.1 j = M.1 j) (hk : ∀ k, rK k → M'.1 300 k = M.1 300 k) : RIB I M' := by
  obtain ⟨a, b, c, d, e, f, g⟩ := h
  refine ⟨?_, by rw [hf 452 (by unfold rN; omega)]; exact b, by rw [hf 451 (by unfold rN; omega)]; exact c, by rw [hk 50 (by unfold rK; omega)]; exact d, by rw [hf 411 (by unfold rN; omega)]; exact e, by rw [hk 49 (by unfold rK; omega)]; exact f, by rw [hf 453 (by unfold rN; omega)]; exact g⟩
  unfold CR at a ⊢
  rw [hf 402 (by unfold rN; omega), hf 403 (by unfold rN; omega), hf 404 (by unfold rN; omega), hf 405 (by unfold rN; omega)]; exact a
theorem RRi.fr {M M' : gM} (hf : ∀ j, rN j → M'.1 j = M.1 j) (hk : ∀ k, rK k → M'.1 300 k = M.1 300 k) : ∀ {o : Option (gSt × Int × Int)}, RRi M o → RRi M' o
  | none, h => by show (M'.1 300 48).toInt = 0; rw [hk 48 (by unfold rK; omega)]; exact h
  | some (I, i0, i1), h => by
    obtain ⟨a, b, c, d⟩ := h
    have e := hf 454 (by unfold rN; omega)
    exact ⟨by rw [hk 48 (by unfold rK; omega)]; exact a, b.fr hf hk, by rw [e]; exact c, by rw [e]; exact d⟩
theorem RR.fr {A : gAb} {M M' : gM} (h : RR A M) (hO : A.1.1 0 1 ≤ 12) (hf : ∀ j, rN j → M'.1 j = M.1 j) (h9 : ∀ i, i < 12 → M'.1 409 i = M.1 409 i) (hk : ∀ k, rK k → M'.1 300 k = M.1 300 k) : RR A M' := by
  obtain ⟨⟨h1, g1, g2⟩, h2, h3, h4, h5, h6, h7, h8, h10⟩ := h
  refine ⟨⟨h1.fr hO (fun j hj => hf j (by unfold rN; omega)) h9 (hk 12 (by unfold rK; omega)), by rw [hk 24 (by unfold rK; omega)]; exact g1, by rw [hf 425 (by unfold rN; omega)]; exact g2⟩, by rw [hf 406 (by unfold rN; omega)]; exact h2, by rw [hk 23 (by unfold rK; omega)]; exact h3, by rw [hk 14 (by unfold rK; omega), hf 413 (by unfold rN; omega)]; exact h4, by rw [hk 32 (by unfold rK; omega), hf 431 (by unfold rN; omega)]; exact h5, by rw [hf 430 (by unfold rN; omega)]; exact h6, RRi.fr hf hk h7, by rw [hk 49 (by unfold rK; omega)]; exact h8, by rw [hf 400 (by unfold rN; omega)]; exact h10⟩
theorem RR.code {A : gAb} {M : gM} {x : Int32} (h : RR A M) (hO : A.1.1 0 1 ≤ 12) : RR A (g_u M 300 1 x) := h.fr hO (fun j hj => g_u_ne (by unfold rN at hj; omega)) (fun i hi => by rw [g_u_ne (by decide)]) (fun k hk => by rw [g_u_eq, if_neg (by unfold rK at hk; omega)])
theorem RC.code {A : gAb} {M : gM} {x : Int32} {k : Nat} (h : RC A M) : RC A (g_u M 300 k x) := h.fr (fun j hj => g_u_ne (by unfold cN at hj; omega))
