/-! a call of the law, both sides -/
abbrev lnG : List Nat := [200, 201, 202, 203, 204, 205, 206, 207, 208, 209, 210, 250, 251, 252, 253]
/-- the law's world -/
def LW (b : Nat) (Γ : gW) (gt : Option Nat) (M : gM) : Prop := g_HG Γ gt ∧ g_Ref Γ ∧ g_o Γ 400 (.inr (5, 5)) ∧ g_o Γ 500 (.inr (2, 1)) ∧ Γ.2.2.1 598 = b ∧ gCl Γ M ∧ (gt = none → gN0 lnG Γ ∧ gZ0 lnG M)
def lG (j : Nat) : Prop := (200 ≤ j ∧ j ≤ 210) ∨ (250 ≤ j ∧ j ≤ 253)
theorem lG_of {j : Nat} (h : j ∈ lnG) : lG j := by
  simp only [lnG, List.mem_cons, List.not_mem_nil, or_false] at h
  unfold lG; omega
theorem LW.m {b : Nat} {Γ : gW} {gt : Option Nat} {M M' : gM} (h : LW b Γ gt M) (h4 : M'.1 400 = M.1 400) (hg : gt = none → ∀ j, lG j → M'.1 j = M.1 j ∧ M'.2 j = M.2 j) : LW b Γ gt M' := by
  obtain ⟨h1, h2, h3, h5, h6, h7, h8⟩ := h
  refine ⟨h1, h2, h3, h5, h6, h7.m h4, fun e => ⟨(h8 e).1, fun j hj => ?_⟩⟩
  have := (h8 e).2 j hj
  obtain ⟨e1, e2⟩ := hg e j (lG_of hj)
  rw [e1, e2]; exact this
/-- the class's side has changed nothing that is told -/
def FC (M M1 : gM) : Prop := (∀ j, cN j ∨ 300 ≤ j → M1.1 j = M.1 j) ∧ ∀ j, lG j → M1.1 j = M.1 j ∧ M1.2 j = M.2 j
def FR (M M1 : gM) : Prop := (∀ j, rN j ∨ j < 300 → M1.1 j = M.1 j) ∧ (∀ i, i < 12 → M1.1 409 i = M.1 409 i) ∧ (∀ k, rK k → M1.1 300 k = M.1 300 k) ∧ M1.2 = M.2
theorem FC.rf {M : gM} : FC M M := ⟨fun _ _ => rfl, fun _ _ => ⟨rfl, rfl⟩⟩
theorem FR.c {M : gM} {x : Int32} : FR M (g_u M 300 1 x) := ⟨fun j hj => g_u_ne (by unfold rN at hj; omega), fun i hi => by rw [g_u_ne (by decide)], fun k hk => by rw [g_u_eq, if_neg (by unfold rK at hk; omega)], rfl⟩
theorem FR.tr {M M1 M2 : gM} (h : FR M M1) (h2 : FR M1 M2) : FR M M2 := ⟨fun j hj => by rw [h2.1 j hj, h.1 j hj], fun i hi => by rw [h2.2.1 i hi, h.2.1 i hi], fun k hk => by rw [h2.2.2.1 k hk, h.2.2.1 k hk], by rw [h2.2.2.2, h.2.2.2]⟩
theorem FR.c2 {M : gM} {x y : Int32} : FR M (g_u (g_u M 300 1 x) 300 1 y) := FR.c.tr FR.c
theorem code_at {M : gM} {x : Int32} : (g_u M 300 1 x).1 300 1 = x := by rw [g_u_eq, if_pos rfl]
theorem RC.fc {A : gAb} {M M1 : gM} (h : RC A M) (hf : FC M M1) : RC A M1 := h.fr (fun j hj => hf.1 j (Or.inl hj))
theorem RC.frr {A : gAb} {M M1 : gM} (h : RC A M) (hf : FR M M1) : RC A M1 := h.fr (fun j hj => hf.1 j (Or.inr (by unfold cN at hj; omega)))
theorem RR.fc {A : gAb} {M M1 : gM} (h : RR A M) (hO : A.1.1 0 1 ≤ 12) (hf : ∀ j, 300 ≤ j → M1.1 j = M.1 j) : RR A M1 := h.fr hO (fun j hj => hf j (by unfold rN at hj; omega)) (fun i hi => by rw [hf 409 (by decide)]) (fun k hk => by rw [hf 300 (by decide)])
theorem RR.frr {A : gAb} {M M1 : gM} (h : RR A M) (hO : A.1.1 0 1 ≤ 12) (hf : FR M M1) : RR A M1 := h.fr hO (fun j hj => hf.1 j (Or.inl hj)) hf.2.1 hf.2.2.1
theorem RC.ul {A : gAb} {M : gM} {x : Int64} {i k : Nat} (h : RC A M) : RC A (g_ul M i k x) := h.fr (fun j hj => rfl)
theorem RR.ul {A : gAb} {M : gM} {x : Int64} {i k : Nat} (h : RR A M) (hO : A.1.1 0 1 ≤ 12) : RR A (g_ul M i k x) := h.fr hO (fun j hj => rfl) (fun i hi => rfl) (fun k hk => rfl)
theorem AOK.o1 {A : gAb} {n : Nat} (h : AOK A n) : A.1.1 0 1 ≤ 12 := h.1.1.2.1.2
theorem RC.tb {A : gAb} {M : gM} (h : RC A M) {n : Nat} (hn : AOK A n) : TB M 100 := TB.of (by rw [h.1.1]; exact hn.1.1) h.1.2.1
/-- a call by a helper: the helper's contract, then the reference's, and what then holds -/
def OH (b : Nat) (Γ : gW) (gt : Option Nat) (n : Nat) (yC : MethodName) (μC : gY) (hh : gHH) (av : List Value) (yR : MethodName) (μR : gY) (av2 : List Value) (M : gM) : Prop :=
  ∃ (d : Nat) (P : gW → Option Value → gM → Prop), d ≤ 20 ∧ CtL Γ yC μC hh d 1 6 av M P ∧ ∀ (Γ1 : gW) (v : Option Value) (M1 : gM), P Γ1 v M1 → Γ1 = Γ ∧ ∃ k : Int32, v = some (.int k) ∧ ∃ (d2 : Nat) (P2 : Int32 → gM → Prop), d2 ≤ 20 ∧ Ct Γ yR μR d2 av2 M1 (g_qi P2) ∧ ∀ (z : Int32) (M2 : gM), P2 z M2 → M2.1 300 1 = k ∧ (k = 0 → M2.2 500 0 = z.toInt64) ∧ ∃ A' : gAb, RC A' M2 ∧ RR A' M2 ∧ AOK A' (n + 1) ∧ LW b Γ gt M2
/-- a call that changes nothing that is told -/
theorem o_ro {b : Nat} {Γ : gW} {gt : Option Nat} {M : gM} {A : gAb} {n : Nat} (hL : LW b Γ gt M) (hC : RC A M) (hR : RR A M) (hn : AOK A n) {yC : MethodName} {μC : gY} {hh : gHH} {av : List Value} {d : Nat} (hd : d ≤ 20) {P : gW → Option Value → gM → Prop} (hc : CtL Γ yC μC hh d 1 6 av M P) {pz pk : Int32 → Prop} (hP : ∀ (Γ1 : gW) (v : Option Value) (M1 : gM), P Γ1 v M1 → Γ1 = Γ ∧ ((∃ (z : Int32) (M0 : gM), v = some (.int 0) ∧ M1 = g_ul M0 500 0 z.toInt64 ∧ FC M M0 ∧ pz z) ∨ ∃ k : Int32, v = some (.int k) ∧ k ≠ 0 ∧ M1 = M ∧ pk k))
    {yR : MethodName} {μR : gY} {av2 : List Value} {d2 : Nat} (hd2 : d2 ≤ 20) {P2 : gM → Int32 → gM → Prop} (hc2 : ∀ M1 : gM, RR A M1 → Ct Γ yR μR d2 av2 M1 (g_qi (P2 M1))) {qz qk : Int32 → Prop} (hP2 : ∀ (M1 : gM) (z : Int32) (M2 : gM), RR A M1 → P2 M1 z M2 → FR M1 M2 ∧ ((M2.1 300 1 = 0 ∧ qz z) ∨ (M2.1 300 1 ≠ 0 ∧ qk (M2.1 300 1)))) (hzz : ∀ z z2, pz z → qz z2 → z = z2) (hzk : ∀ z k, pz z → qk k → False) (hkz : ∀ k z, pk k → qz z → False) (hkk : ∀ k k', k ≠ 0 → k' ≠ 0 → pk k → qk k' → k = k') : OH b Γ gt n yC μC hh av yR μR av2 M := by
  have hO := hn.o1
  refine ⟨d, P, hd, hc, fun Γ1 v M1 hv => ?_⟩
  obtain ⟨eΓ, hv⟩ := hP Γ1 v M1 hv
  refine ⟨eΓ, ?_⟩
  rcases hv with ⟨z, M0, e1, e2, e3, e4⟩ | ⟨k, e1, e2, e3, e4⟩
  · have hC0 : RC A M1 := by rw [e2]; exact (hC.fc e3).ul
    have hR0 : RR A M1 := by rw [e2]; exact (hR.fc hO (fun j hj => e3.1 j (Or.inr hj))).ul hO
    have hL0 : LW b Γ gt M1 := by
      rw [e2]
      refine LW.m hL (e3.1 400 (Or.inr (by decide))) (fun _ j hj => ⟨(e3.2 j hj).1, ?_⟩)
      show (g_ul M0 500 0 z.toInt64).2 j = M.2 j
      rw [g_ul_ne (by unfold lG at hj; omega)]; exact (e3.2 j hj).2
    refine ⟨0, e1, d2, P2 M1, hd2, hc2 M1 hR0, fun z2 M2 h2 => ?_⟩
    obtain ⟨f, g⟩ := hP2 M1 z2 M2 hR0 h2
    have hLL : LW b Γ gt M2 := LW.m hL0 (f.1 400 (Or.inl (by unfold rN; omega))) (fun _ j hj => ⟨f.1 j (Or.inr (by unfold lG at hj; omega)), by rw [f.2.2.2]⟩)
    rcases g with ⟨g1, g2⟩ | ⟨g1, g2⟩
    · refine ⟨g1, fun _ => ?_, A, hC0.frr f, hR0.frr hO f, hn.up (by omega), hLL⟩
      rw [f.2.2.2, e2, g_ul_at, ← hzz z z2 e4 g2]
      exact if_pos rfl
    · exact absurd (hzk z _ e4 g2) id
  · subst e3
    refine ⟨k, e1, d2, P2 M1, hd2, hc2 M1 hR, fun z2 M2 h2 => ?_⟩
    obtain ⟨f, g⟩ := hP2 M1 z2 M2 hR h2
    have hLL : LW b Γ gt M2 := LW.m hL (f.1 400 (Or.inl (by unfold rN; omega))) (fun _ j hj => ⟨f.1 j (Or.inr (by unfold lG at hj; omega)), by rw [f.2.2.2]⟩)
    rcases g with ⟨g1, g2⟩ | ⟨g1, g2⟩
    · exact absurd (hkz k z2 e4 g2) id
    · exact ⟨(hkk k _ e2 g1 e4 g2).symm, fun h => absurd h e2, A, hC.frr f, hR.frr hO f, hn.up (by omega), hLL⟩
/-- the same, where it is one range on both sides, and the class changes nothing at all -/
theorem o_rg {b : Nat} {Γ : gW} {gt : Option Nat} {M : gM} {A : gAb} {n : Nat} (hL : LW b Γ gt M) (hC : RC A M) (hR : RR A M) (hn : AOK A n) {yC : MethodName} {μC : gY} {hh : gHH} {av : List Value} {d : Nat} (hd : d ≤ 20) {Qc : Int32 → gM → Prop} {XPc : String → gM → Prop} {E0 : String} (hc : CtL Γ yC μC hh d 1 6 av M (fun Γ' v M' => Γ' = Γ ∧ ((∃ (z : Int32) (M1 : gM), Qc z M1 ∧ v = some (.int 0) ∧ M' = g_ul M1 500 0 z.toInt64) ∨ (v = some (.int 1) ∧ XPc E0 M'))))
    {rg rg2 : Prop} (hrg : rg ↔ rg2) {pz : Int32 → Prop} (hQ : ∀ z M1, Qc z M1 → FC M M1 ∧ rg ∧ pz z) (hX : ∀ M1, XPc E0 M1 → M1 = M ∧ ¬ rg)
    {yR : MethodName} {μR : gY} {av2 : List Value} {d2 : Nat} (hd2 : d2 ≤ 20) {P2 : gM → Int32 → gM → Prop} (hc2 : ∀ M1 : gM, RR A M1 → Ct Γ yR μR d2 av2 M1 (g_qi (P2 M1))) {qz : Int32 → Prop} (hP2 : ∀ (M1 : gM) (z : Int32) (M2 : gM), RR A M1 → P2 M1 z M2 → (¬ rg2 ∧ M2 = g_u (g_u M1 300 1 0) 300 1 1) ∨ (rg2 ∧ FR M1 M2 ∧ M2.1 300 1 = 0 ∧ qz z)) (hzz : ∀ z z2, rg → pz z → qz z2 → z = z2) : OH b Γ gt n yC μC hh av yR μR av2 M := by
  refine o_ro hL hC hR hn hd hc (pz := fun z => rg ∧ pz z) (pk := fun k => k = 1 ∧ ¬ rg) (fun Γ1 v M1 h => ?_) hd2 hc2 (qz := fun z => rg2 ∧ qz z) (qk := fun k => k = 1 ∧ ¬ rg2) (fun M1 z M2 hr h => ?_) (fun z z2 h1 h2 => hzz z z2 h1.1 h1.2 h2.2) (fun z k h1 h2 => h2.2 (hrg.mp h1.1)) (fun k z h1 h2 => h1.2 (hrg.mpr h2.1)) (fun k k' _ _ h1 h2 => by rw [h1.1, h2.1])
  · obtain ⟨e, h⟩ := h
    refine ⟨e, ?_⟩
    rcases h with ⟨z, M0, q, e1, e2⟩ | ⟨e1, q⟩
    · obtain ⟨a1, a2, a3⟩ := hQ z M0 q
      exact Or.inl ⟨z, M0, e1, e2, a1, a2, a3⟩
    · obtain ⟨a1, a2⟩ := hX M1 q
      exact Or.inr ⟨1, e1, by decide, a1, rfl, a2⟩
  · rcases hP2 M1 z M2 hr h with ⟨a1, a2⟩ | ⟨a1, a2, a3, a4⟩
    · subst a2
      exact ⟨FR.c2, Or.inr ⟨by rw [code_at]; decide, by rw [code_at], a1⟩⟩
    · exact ⟨a2, Or.inl ⟨a3, a1, a4⟩⟩
theorem i32_eq {z z2 : Int32} {x : Int} (h : z.toInt = x) (h2 : z2.toInt = x) : z = z2 := Int32.toInt_inj.mp (h.trans h2.symm)
