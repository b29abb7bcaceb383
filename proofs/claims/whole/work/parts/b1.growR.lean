/-! rows of constructors -/
def g_RN (d mc ms : Nat) : Room := { frames := d + 8, cells := mc, slots := ms, locals := 150 + 50 * d }
theorem g_rmN {d d' mc ms : Nat} (h : d' < d) : d' + 2 ≤ (g_RN d mc ms).frames ∧ 90 + 50 * d' ≤ (g_RN d mc ms).locals := by
  constructor
  · show d' + 2 ≤ d + 8; omega
  · show 90 + 50 * d' ≤ 150 + 50 * d; omega
theorem g_rmM {d d' mc ms : Nat} (h : d' < d) : d' + 9 ≤ (g_RN d mc ms).frames ∧ 200 + 50 * d' ≤ (g_RN d mc ms).locals := by
  constructor
  · show d' + 9 ≤ d + 8; omega
  · show 200 + 50 * d' ≤ 150 + 50 * d; omega
/-- the method that runs is a constructor -/
def zx_I (below : List Frame) (args : Array Value) (s : State) : Prop := ∀ (m : MethodId) (meth : Method), s.frames = .invoking m args :: below → s.vm.method? m = some meth → meth.name = "<init>"
def g_QN (Γ0 : gW) (Q : gW → gM → Prop) (A : Nat → Prop) : Array Value → State → Outcome → State → Prop := fun _ st oc t => (∃ (Γ' : gW) (M' : gM), oc = .returned none ∧ Q Γ' M' ∧ va_P Γ'.1 vwCl (g_ws Γ' M') t.heap ∧ va_D A (g_ws Γ' M')) ∧ va_F A st t
/-- a body's end: with a premise E of the start -/
def g_ZN (E : List Frame → Array Value → State → Prop) (Γ0 : gW) (Q : gW → gM → Prop) (mc ms : Nat) : gZ := fun below args s A t => E below args s → MQ below (g_QN Γ0 Q A) args s mc ms A t
def g_pre (Γ : gW) (M : gM) (sz : Nat) (U : State) : Prop := U.heap.size = sz ∧ va_P Γ.1 vwCl (g_ws Γ M) U.heap ∧ va_K Γ.1 vwCl (g_T Γ) U ∧ va_D (fun _ => True) (g_ws Γ M) ∧ g_KH Γ (va_A (g_ws Γ M) sz) U U.heap
/-- a constructor's contract; PX: what it asks of the tables beside -/
def CtN (PX : State → Prop) (Γ : gW) (y : MethodName) (μ : gY) (d mc ms : Nat) (av : List Value) (M : gM) (Q : gW → gM → Prop) : Prop :=
  ∀ (l : gLn) (sz : Nat), Met l.1 y (.code y μ.1 μ.2.2.1 μ.2.2.2 :: g_UW) (g_RN d mc ms) (va_Pc (av.map (g_v Γ.2.2.1)) (fun U => g_pre Γ M sz U ∧ PX U)) (g_QN Γ Q (va_A (g_ws Γ M) sz)) mc ms (va_A (g_ws Γ M) sz)
theorem g_enterN {PX : State → Prop} {Γ : gW} {y : MethodName} {μ : gY} {d mc ms : Nat} {av : List Value} {M : gM} {Q : gW → gM → Prop} (hy : plainName y.cls = true) (hyi : y.name = "<init>") (ho : μ.2.1 = y.cls) (hav : av.all (fun v => v.category == 1) = true) (hlen : av.length ≤ μ.2.2.1) (h : G Γ μ (g_RN d mc ms) (0, 0) (g_ZN (fun b a s => zx_I b a s ∧ PX s) Γ Q mc ms) 0 (av.map some ++ List.replicate (μ.2.2.1 - av.length) none) [] M) : CtN PX Γ y μ d mc ms av M Q := by
  intro l sz
  have hcat : ∀ v ∈ av.map (g_v Γ.2.2.1), v.category = 1 := by
    intro v hv
    obtain ⟨w, hw, rfl⟩ := List.mem_map.mp hv
    rw [g_cat]
    have := List.all_eq_true.mp hav w hw
    simpa using this
  refine Met.ofW (cc := μ.1) (maxL := μ.2.2.1) (ret := μ.2.2.2) hy rfl ?_
  intro p e s m args below meth c s₁ B hml hv
  obtain ⟨rfl, ⟨hsz, hP, hK, hD0, hKH⟩, hPX⟩ := hv
  have hts := atoms_spec (ws := .code y μ.1 μ.2.2.1 μ.2.2.2 :: g_UW) B.pre
  have hl := lv_entry (av.map (g_v Γ.2.2.1)) (n := μ.2.2.1) (by rw [g_sl_len hcat, List.length_map]; exact hlen)
  rw [lg_entry_eq]
  generalize (lg_sl (av.map (g_v Γ.2.2.1)) ++ List.replicate (μ.2.2.1 - (lg_sl (av.map (g_v Γ.2.2.1))).length) Slot.unset).toArray = ls at hl ⊢
  subst hsz
  intro T hT X
  have hE : zx_I below (av.map (g_v Γ.2.2.1)).toArray s := by
    intro m' meth' h1 h2
    have h4 := h1.symm.trans X.frames
    cases h4
    cases Option.some.inj (h2.symm.trans X.method)
    rw [(name_of_methodNamed B.named B.method).1]; exact hyi
  obtain ⟨t, a1, b1⟩ := h p l e s m _ below meth c s.heap [] (va_A (g_ws Γ M) s.heap.size) ls ⟨B.exec, B.bytes, B.returns, B.notSynchronized, hml, by rw [ho]; exact findClass_of_methodNamed B.named, fun w hw => hts w (List.mem_cons_of_mem _ hw), hK, fun q hq => Or.inr hq, Nat.zero_le _, Nat.zero_le _, hKH⟩ ⟨hP, hD0.self, va_S.rf, hl.1, hl.2.1, by simp; omega, fun k v hk => by
      have hk2 : av[k]? = some v := by
        by_cases hka : k < av.length
        · rw [List.getElem?_append_left (by simpa using hka)] at hk
          simpa using hk
        · rw [List.getElem?_append_right (by simpa using hka)] at hk
          have := List.eq_of_mem_replicate (List.mem_of_getElem? hk)
          cases this
      have := g_lv_args hcat 0 k (g_v Γ.2.2.1 v) (by simp [hk2])
      rw [Nat.zero_add] at this
      exact hl.2.2 _ this⟩ T hT X
  exact ⟨t, a1, b1 ⟨hE, hPX⟩⟩
section GN
variable {Γ : gW} {μ : gY} {R : Room} {kn : Nat × Nat} {Z : gZ} {pc q : Nat} {lv : List (Option Value)} {st : List Value} {M : gM}
/-- what the start says may be taken here -/
theorem g_ask {E : List Frame → Array Value → State → Prop} {Γ0 : gW} {Q : gW → gM → Prop} {mc ms : Nat} (h : ∀ (p : Program) (l : gLn) (e : Env) (s : State) (m : MethodId) (args : Array Value) (below : List Frame) (meth : Method) (c : Code) (H : Heap) (locs : List Loc) (A : Nat → Prop) (ls : Array Slot), E below args s → g_F Γ μ R kn p s m args meth c A → g_X Γ μ s H locs A ls lv M → (∀ T locs cells slots, Stand p l.1 e R s m args below meth c T locs cells slots → s.frames = .invoking m args :: below ∧ s.vm.method? m = some meth) → W p l.1 e R s m args below meth c H locs kn.1 kn.2 (g_ZN E Γ0 Q mc ms below args s A) (F0 m pc ls (st.map (g_v Γ.2.2.1)))) : G Γ μ R kn (g_ZN E Γ0 Q mc ms) pc lv st M := by
  intro p l e s m args below meth c H locs A ls F X T hT X0
  by_cases hE : E below args s
  · exact h p l e s m args below meth c H locs A ls hE F X (fun T locs cells slots Y => ⟨Y.frames, Y.method⟩) T hT X0
  · exact ⟨_, Steps.refl _, fun h => absurd h hE⟩
theorem g_vretN {E : List Frame → Array Value → State → Prop} {Γ0 : gW} {Q : gW → gM → Prop} {mc ms : Nat} (hd : decode μ.1 pc = .ok (.return_, 1)) (hr : μ.2.2.2 = none) (hk : kn.1 ≤ mc ∧ kn.2 ≤ ms) (hQ : Q Γ M) : G Γ μ R kn (g_ZN E Γ0 Q mc ms) pc lv [] M := by
  intro p l e s m args below meth c H locs A ls F X T hT X0
  obtain ⟨t, a, b⟩ := W.widen (k := mc) (n := ms) hk.1 hk.2 (W.vret (Qc := g_QN Γ0 Q A) (free := A) F.1 F.2.1 (by rw [F.2.2.1, hr]) (fun t ht hW => ⟨⟨Γ, M, rfl, hQ, by rw [ht]; exact X.1, X.2.1⟩, X.2.2.1.F ht⟩) X.2.2.1.2.2 hd F.2.2.2.1) T hT X0
  exact ⟨t, a, fun _ => b⟩
theorem g_objInit {idx i : Nat} (hd : decode μ.1 pc = .ok (.invokespecial idx, 3)) (hq : pc + 3 = q) (hl : Cond.methodLink μ.2.1 idx Lib.objectInit ∈ g_UW) (hi : Cond.instanceMethod Lib.objectInit ∈ g_UW) (hc : Cond.code Lib.objectInit ⟨#[0xb1]⟩ 1 none ∈ g_UW) (hR : 1 ≤ R.frames ∧ (st.map fun v => v.category).sum + 12 ≤ R.locals) (k : G Γ μ R kn Z q lv st M) : G Γ μ R kn Z pc lv (.ref i :: st) M := by
  subst hq
  intro p l e s m args below meth c H locs A ls F X
  have hcat : ((st.map (g_v Γ.2.2.1)).map fun v => v.category) = st.map fun v => v.category := by
    rw [List.map_map]; exact List.map_congr_left fun v _ => g_cat v
  have hT := F.2.2.2.2.2.2.1
  exact W.objInit F.1 F.2.1 F.2.2.2.2.2.1 (hT _ hl) (hT _ hi) (hT _ hc) (g := F0 m pc ls ((Value.ref i :: st).map (g_v Γ.2.2.1))) rfl (by rw [F.2.2.2.2.1]; exact X.2.2.2.1) rfl hd hR.1 (by rw [hcat]; show 2 * 0 + _ + 12 ≤ _; omega) (k p l e s m args below meth c H locs A ls F X)
theorem g_newa0 {i n : Nat} {nI : Int32} (hd : decode μ.1 pc = .ok (.newarray .byte, 2)) (hq : pc + 2 = q) (harr : Cond.arrayClass .byte ∈ g_UW) (hn : nI.toInt = (n : Int)) (hb : n ≤ 60000) (hi : i ∉ Γ.2.2.2.1) (h5 : i < 599) (hC : gCl Γ M) (hz : ∀ k, M.1 i k = 0) (hv : g_nrs [i] lv st = true) (hk : kn.1 + 1 ≤ R.cells ∧ kn.2 + n ≤ R.slots) (k : ∀ a : Nat, gCl (gAdd Γ i a (.inr (0, n))) M → G (gAdd Γ i a (.inr (0, n))) μ R (kn.1 + 1, kn.2 + n) Z q lv (.ref i :: st) M) : G Γ μ R kn Z pc lv (.int nI :: st) M := by
  subst hq
  intro p l e s m args below meth c H locs A ls F X
  obtain ⟨hP, hD, hS, hL⟩ := X
  have ef : M.1 i = fun _ => 0 := funext hz
  have h0 : ¬ nI < 0 := fun h => by
    have := Int32.lt_iff_toInt_lt.mp h
    have e0 : (0 : Int32).toInt = 0 := rfl
    omega
  refine va_newa (atype := .byte) (ty := .byte) F.1 F.2.1 (F.2.2.2.2.2.2.1 _ harr) rfl F.2.2.2.2.2.2.2.1 hP hD hS F.2.2.2.2.2.2.2.2.1 (N' := n) (a0 := (n, .inl (M.1 i))) (fun cA => by rw [ef]; rfl) h0 (by show nI.toInt.toNat = n; omega) (by show n * _ ≤ _; simp only [componentBytes]; omega) hk.1 hk.2 hd (fun q9 cA H1 hK1 hP1 hD1 hS1 => ?_)
  have hcA : cA = Γ.2.1 0 := by
    have g1 := (hK1.2 6 (cA, .byte) rfl).2
    have g2 := (F.2.2.2.2.2.2.2.1.2 0 (Γ.2.1 0, .byte) rfl).2
    exact Option.some.inj (g1.symm.trans g2)
  have had : ∀ j, j ∉ [i] → (gAdd Γ i q9 (.inr (0, n))).2.2.1 j = Γ.2.2.1 j := fun j hj => if_neg (by simpa using hj)
  have hE : g_E (gAdd Γ i q9 (.inr (0, n))) M i = .inl (cA, (n, .inl (M.1 i))) := by
    rw [hcA]
    unfold g_E
    rw [show (gAdd Γ i q9 (.inr (0, n))).2.2.2.2 i = .inr (0, n) from if_pos rfl]; rfl
  have hws := g_ws_add (a := q9) (sh := .inr (0, n)) hC hi h5
  rw [hE] at hws
  have := k q9 (hC.add hi (by show 0 = 5 → _; intro h; cases h)) p l e s m args below meth c H1 locs A ls (F.gr rfl rfl (fun j hj => if_neg (by omega)) hk) ⟨by rw [hws]; exact hP1, by rw [hws]; exact hD1, hS1, g_nrs_L had hv hL⟩
  have es : (Value.ref i :: st).map (g_v (gAdd Γ i q9 (.inr (0, n))).2.2.1) = .ref q9 :: st.map (g_v Γ.2.2.1) := by
    rw [List.map_cons, g_nrs_st had hv]
    show Value.ref (if i = i then q9 else _) :: _ = _
    rw [if_pos rfl]
  rw [es] at this
  exact this
theorem g_newa1 {i n : Nat} {nI : Int32} (hd : decode μ.1 pc = .ok (.newarray .int, 2)) (hq : pc + 2 = q) (harr : Cond.arrayClass .int ∈ g_UW) (hn : nI.toInt = (n : Int)) (hb : n ≤ 60000) (hi : i ∉ Γ.2.2.2.1) (h5 : i < 599) (hC : gCl Γ M) (hz : ∀ k, M.1 i k = 0) (hv : g_nrs [i] lv st = true) (hk : kn.1 + 1 ≤ R.cells ∧ kn.2 + n ≤ R.slots) (k : ∀ a : Nat, gCl (gAdd Γ i a (.inr (1, n))) M → G (gAdd Γ i a (.inr (1, n))) μ R (kn.1 + 1, kn.2 + n) Z q lv (.ref i :: st) M) : G Γ μ R kn Z pc lv (.int nI :: st) M := by
  subst hq
  intro p l e s m args below meth c H locs A ls F X
  obtain ⟨hP, hD, hS, hL⟩ := X
  have ef : M.1 i = fun _ => 0 := funext hz
  have h0 : ¬ nI < 0 := fun h => by
    have := Int32.lt_iff_toInt_lt.mp h
    have e0 : (0 : Int32).toInt = 0 := rfl
    omega
  refine va_newa (atype := .int) (ty := .int) F.1 F.2.1 (F.2.2.2.2.2.2.1 _ harr) rfl F.2.2.2.2.2.2.2.1 hP hD hS F.2.2.2.2.2.2.2.2.1 (N' := n) (a0 := (n, .inl (M.1 i))) (fun cA => by rw [ef]; rfl) h0 (by show nI.toInt.toNat = n; omega) (by show n * _ ≤ _; simp only [componentBytes]; omega) hk.1 hk.2 hd (fun q9 cA H1 hK1 hP1 hD1 hS1 => ?_)
  have hcA : cA = Γ.2.1 1 := by
    have g1 := (hK1.2 6 (cA, .int) rfl).2
    have g2 := (F.2.2.2.2.2.2.2.1.2 1 (Γ.2.1 1, .int) rfl).2
    exact Option.some.inj (g1.symm.trans g2)
  have had : ∀ j, j ∉ [i] → (gAdd Γ i q9 (.inr (1, n))).2.2.1 j = Γ.2.2.1 j := fun j hj => if_neg (by simpa using hj)
  have hE : g_E (gAdd Γ i q9 (.inr (1, n))) M i = .inl (cA, (n, .inl (M.1 i))) := by
    rw [hcA]
    unfold g_E
    rw [show (gAdd Γ i q9 (.inr (1, n))).2.2.2.2 i = .inr (1, n) from if_pos rfl]; rfl
  have hws := g_ws_add (a := q9) (sh := .inr (1, n)) hC hi h5
  rw [hE] at hws
  have := k q9 (hC.add hi (by show 1 = 5 → _; intro h; cases h)) p l e s m args below meth c H1 locs A ls (F.gr rfl rfl (fun j hj => if_neg (by omega)) hk) ⟨by rw [hws]; exact hP1, by rw [hws]; exact hD1, hS1, g_nrs_L had hv hL⟩
  have es : (Value.ref i :: st).map (g_v (gAdd Γ i q9 (.inr (1, n))).2.2.1) = .ref q9 :: st.map (g_v Γ.2.2.1) := by
    rw [List.map_cons, g_nrs_st had hv]
    show Value.ref (if i = i then q9 else _) :: _ = _
    rw [if_pos rfl]
  rw [es] at this
  exact this
theorem g_newa2 {i n : Nat} {nI : Int32} (hd : decode μ.1 pc = .ok (.newarray .long, 2)) (hq : pc + 2 = q) (harr : Cond.arrayClass .long ∈ g_UW) (hn : nI.toInt = (n : Int)) (hb : n ≤ 60000) (hi : i ∉ Γ.2.2.2.1) (h5 : i < 599) (hC : gCl Γ M) (hz : ∀ k, M.2 i k = 0) (hv : g_nrs [i] lv st = true) (hk : kn.1 + 1 ≤ R.cells ∧ kn.2 + n ≤ R.slots) (k : ∀ a : Nat, gCl (gAdd Γ i a (.inr (2, n))) M → G (gAdd Γ i a (.inr (2, n))) μ R (kn.1 + 1, kn.2 + n) Z q lv (.ref i :: st) M) : G Γ μ R kn Z pc lv (.int nI :: st) M := by
  subst hq
  intro p l e s m args below meth c H locs A ls F X
  obtain ⟨hP, hD, hS, hL⟩ := X
  have ef : M.2 i = fun _ => 0 := funext hz
  have h0 : ¬ nI < 0 := fun h => by
    have := Int32.lt_iff_toInt_lt.mp h
    have e0 : (0 : Int32).toInt = 0 := rfl
    omega
  refine va_newa (atype := .long) (ty := .long) F.1 F.2.1 (F.2.2.2.2.2.2.1 _ harr) rfl F.2.2.2.2.2.2.2.1 hP hD hS F.2.2.2.2.2.2.2.2.1 (N' := n) (a0 := (n, .inr (.inl (M.2 i)))) (fun cA => by rw [ef]; rfl) h0 (by show nI.toInt.toNat = n; omega) (by show n * _ ≤ _; simp only [componentBytes]; omega) hk.1 hk.2 hd (fun q9 cA H1 hK1 hP1 hD1 hS1 => ?_)
  have hcA : cA = Γ.2.1 2 := by
    have g1 := (hK1.2 6 (cA, .long) rfl).2
    have g2 := (F.2.2.2.2.2.2.2.1.2 2 (Γ.2.1 2, .long) rfl).2
    exact Option.some.inj (g1.symm.trans g2)
  have had : ∀ j, j ∉ [i] → (gAdd Γ i q9 (.inr (2, n))).2.2.1 j = Γ.2.2.1 j := fun j hj => if_neg (by simpa using hj)
  have hE : g_E (gAdd Γ i q9 (.inr (2, n))) M i = .inl (cA, (n, .inr (.inl (M.2 i)))) := by
    rw [hcA]
    unfold g_E
    rw [show (gAdd Γ i q9 (.inr (2, n))).2.2.2.2 i = .inr (2, n) from if_pos rfl]; rfl
  have hws := g_ws_add (a := q9) (sh := .inr (2, n)) hC hi h5
  rw [hE] at hws
  have := k q9 (hC.add hi (by show 2 = 5 → _; intro h; cases h)) p l e s m args below meth c H1 locs A ls (F.gr rfl rfl (fun j hj => if_neg (by omega)) hk) ⟨by rw [hws]; exact hP1, by rw [hws]; exact hD1, hS1, g_nrs_L had hv hL⟩
  have es : (Value.ref i :: st).map (g_v (gAdd Γ i q9 (.inr (2, n))).2.2.1) = .ref q9 :: st.map (g_v Γ.2.2.1) := by
    rw [List.map_cons, g_nrs_st had hv]
    show Value.ref (if i = i then q9 else _) :: _ = _
    rw [if_pos rfl]
  rw [es] at this
  exact this
theorem g_newa3 {i n : Nat} {nI : Int32} (hd : decode μ.1 pc = .ok (.newarray .short, 2)) (hq : pc + 2 = q) (harr : Cond.arrayClass .short ∈ g_UW) (hn : nI.toInt = (n : Int)) (hb : n ≤ 60000) (hi : i ∉ Γ.2.2.2.1) (h5 : i < 599) (hC : gCl Γ M) (hz : ∀ k, M.1 i k = 0) (hv : g_nrs [i] lv st = true) (hk : kn.1 + 1 ≤ R.cells ∧ kn.2 + n ≤ R.slots) (k : ∀ a : Nat, gCl (gAdd Γ i a (.inr (3, n))) M → G (gAdd Γ i a (.inr (3, n))) μ R (kn.1 + 1, kn.2 + n) Z q lv (.ref i :: st) M) : G Γ μ R kn Z pc lv (.int nI :: st) M := by
  subst hq
  intro p l e s m args below meth c H locs A ls F X
  obtain ⟨hP, hD, hS, hL⟩ := X
  have ef : M.1 i = fun _ => 0 := funext hz
  have h0 : ¬ nI < 0 := fun h => by
    have := Int32.lt_iff_toInt_lt.mp h
    have e0 : (0 : Int32).toInt = 0 := rfl
    omega
  refine va_newa (atype := .short) (ty := .short) F.1 F.2.1 (F.2.2.2.2.2.2.1 _ harr) rfl F.2.2.2.2.2.2.2.1 hP hD hS F.2.2.2.2.2.2.2.2.1 (N' := n) (a0 := (n, .inl (M.1 i))) (fun cA => by rw [ef]; rfl) h0 (by show nI.toInt.toNat = n; omega) (by show n * _ ≤ _; simp only [componentBytes]; omega) hk.1 hk.2 hd (fun q9 cA H1 hK1 hP1 hD1 hS1 => ?_)
  have hcA : cA = Γ.2.1 3 := by
    have g1 := (hK1.2 6 (cA, .short) rfl).2
    have g2 := (F.2.2.2.2.2.2.2.1.2 3 (Γ.2.1 3, .short) rfl).2
    exact Option.some.inj (g1.symm.trans g2)
  have had : ∀ j, j ∉ [i] → (gAdd Γ i q9 (.inr (3, n))).2.2.1 j = Γ.2.2.1 j := fun j hj => if_neg (by simpa using hj)
  have hE : g_E (gAdd Γ i q9 (.inr (3, n))) M i = .inl (cA, (n, .inl (M.1 i))) := by
    rw [hcA]
    unfold g_E
    rw [show (gAdd Γ i q9 (.inr (3, n))).2.2.2.2 i = .inr (3, n) from if_pos rfl]; rfl
  have hws := g_ws_add (a := q9) (sh := .inr (3, n)) hC hi h5
  rw [hE] at hws
  have := k q9 (hC.add hi (by show 3 = 5 → _; intro h; cases h)) p l e s m args below meth c H1 locs A ls (F.gr rfl rfl (fun j hj => if_neg (by omega)) hk) ⟨by rw [hws]; exact hP1, by rw [hws]; exact hD1, hS1, g_nrs_L had hv hL⟩
  have es : (Value.ref i :: st).map (g_v (gAdd Γ i q9 (.inr (3, n))).2.2.1) = .ref q9 :: st.map (g_v Γ.2.2.1) := by
    rw [List.map_cons, g_nrs_st had hv]
    show Value.ref (if i = i then q9 else _) :: _ = _
    rw [if_pos rfl]
  rw [es] at this
  exact this
theorem g_newa4 {i n : Nat} {nI : Int32} (hd : decode μ.1 pc = .ok (.newarray .boolean, 2)) (hq : pc + 2 = q) (harr : Cond.arrayClass .boolean ∈ g_UW) (hn : nI.toInt = (n : Int)) (hb : n ≤ 60000) (hi : i ∉ Γ.2.2.2.1) (h5 : i < 599) (hC : gCl Γ M) (hz : ∀ k, M.1 i k = 0) (hv : g_nrs [i] lv st = true) (hk : kn.1 + 1 ≤ R.cells ∧ kn.2 + n ≤ R.slots) (k : ∀ a : Nat, gCl (gAdd Γ i a (.inr (4, n))) M → G (gAdd Γ i a (.inr (4, n))) μ R (kn.1 + 1, kn.2 + n) Z q lv (.ref i :: st) M) : G Γ μ R kn Z pc lv (.int nI :: st) M := by
  subst hq
  intro p l e s m args below meth c H locs A ls F X
  obtain ⟨hP, hD, hS, hL⟩ := X
  have ef : M.1 i = fun _ => 0 := funext hz
  have h0 : ¬ nI < 0 := fun h => by
    have := Int32.lt_iff_toInt_lt.mp h
    have e0 : (0 : Int32).toInt = 0 := rfl
    omega
  refine va_newa (atype := .boolean) (ty := .boolean) F.1 F.2.1 (F.2.2.2.2.2.2.1 _ harr) rfl F.2.2.2.2.2.2.2.1 hP hD hS F.2.2.2.2.2.2.2.2.1 (N' := n) (a0 := (n, .inl (M.1 i))) (fun cA => by rw [ef]; rfl) h0 (by show nI.toInt.toNat = n; omega) (by show n * _ ≤ _; simp only [componentBytes]; omega) hk.1 hk.2 hd (fun q9 cA H1 hK1 hP1 hD1 hS1 => ?_)
  have hcA : cA = Γ.2.1 4 := by
    have g1 := (hK1.2 6 (cA, .boolean) rfl).2
    have g2 := (F.2.2.2.2.2.2.2.1.2 4 (Γ.2.1 4, .boolean) rfl).2
    exact Option.some.inj (g1.symm.trans g2)
  have had : ∀ j, j ∉ [i] → (gAdd Γ i q9 (.inr (4, n))).2.2.1 j = Γ.2.2.1 j := fun j hj => if_neg (by simpa using hj)
  have hE : g_E (gAdd Γ i q9 (.inr (4, n))) M i = .inl (cA, (n, .inl (M.1 i))) := by
    rw [hcA]
    unfold g_E
    rw [show (gAdd Γ i q9 (.inr (4, n))).2.2.2.2 i = .inr (4, n) from if_pos rfl]; rfl
  have hws := g_ws_add (a := q9) (sh := .inr (4, n)) hC hi h5
  rw [hE] at hws
  have := k q9 (hC.add hi (by show 4 = 5 → _; intro h; cases h)) p l e s m args below meth c H1 locs A ls (F.gr rfl rfl (fun j hj => if_neg (by omega)) hk) ⟨by rw [hws]; exact hP1, by rw [hws]; exact hD1, hS1, g_nrs_L had hv hL⟩
  have es : (Value.ref i :: st).map (g_v (gAdd Γ i q9 (.inr (4, n))).2.2.1) = .ref q9 :: st.map (g_v Γ.2.2.1) := by
    rw [List.map_cons, g_nrs_st had hv]
    show Value.ref (if i = i then q9 else _) :: _ = _
    rw [if_pos rfl]
  rw [es] at this
  exact this
theorem g_new {i ci idx N : Nat} {C : String} {T : u_T} {ty : Nat → FieldType} {t : gT} (hd : decode μ.1 pc = .ok (.new idx, 3)) (hq : pc + 3 = q) (hc : vwCl[ci]? = some (C, T, N)) (hin : ∀ w ∈ u_ws C T N, w ∈ g_UW) (hty : ∀ k, k < N → parseFieldDescriptor (T k).2.2.1 = some (ty k)) (hw : Cond.classLink μ.2.1 idx C ∈ g_UW ∧ Cond.instantiable C N ∈ g_UW ∧ Cond.initialized C ∈ g_UW) (hfs : ∀ (ad : Nat → Nat) (j : Nat), j < N → defaultValue (ty j) = vp_V (g_fs ad t (fun _ => 0)) j) (ht : ∀ (k a : Nat), ¬ t[k]? = some (some (some a))) (hi : i ∉ Γ.2.2.2.1) (h5 : i < 599) (hC : gCl Γ M) (hz : ∀ k, M.1 i k = 0) (hv : g_nrs [i] lv st = true) (hk : kn.1 + 1 ≤ R.cells ∧ kn.2 + N ≤ R.slots) (k : ∀ a : Nat, gCl (gAdd Γ i a (.inl (ci, t))) M → G (gAdd Γ i a (.inl (ci, t))) μ R (kn.1 + 1, kn.2 + N) Z q lv (.ref i :: st) M) : G Γ μ R kn Z pc lv st M := by
  subst hq
  intro p l e s m args below meth c H locs A ls F X
  obtain ⟨hP, hD, hS, hL⟩ := X
  have ef : M.1 i = fun _ => 0 := funext hz
  have hts := F.2.2.2.2.2.2.1
  refine va_new F.1 F.2.1 hts hin ty hty F.2.2.2.2.2.1 (hts _ hw.1) (hts _ hw.2.1) (hts _ hw.2.2) F.2.2.2.2.2.2.2.1 hP hD hS F.2.2.2.2.2.2.2.2.1 hc (fs := g_fs Γ.2.2.1 t (M.1 i)) (fun j hj => by rw [ef]; exact hfs _ j hj) hk.1 hk.2 hd (fun q9 H1 hP1 hD1 hS1 => ?_)
  have had : ∀ j, j ∉ [i] → (gAdd Γ i q9 (.inl (ci, t))).2.2.1 j = Γ.2.2.1 j := fun j hj => if_neg (by simpa using hj)
  have hfe : g_fs (gAdd Γ i q9 (.inl (ci, t))).2.2.1 t (M.1 i) = g_fs Γ.2.2.1 t (M.1 i) := by
    unfold g_fs
    refine List.ext_getElem? fun k => ?_
    rw [List.getElem?_mapIdx, List.getElem?_mapIdx]
    cases hk9 : t[k]? with
    | none => rfl
    | some o =>
      cases o with
      | none => rfl
      | some o =>
        cases o with
        | none => rfl
        | some b => exact absurd hk9 (ht k b)
  have hE : g_E (gAdd Γ i q9 (.inl (ci, t))) M i = .inr (ci, g_fs Γ.2.2.1 t (M.1 i)) := by
    rw [← hfe]
    unfold g_E
    rw [show (gAdd Γ i q9 (.inl (ci, t))).2.2.2.2 i = .inl (ci, t) from if_pos rfl]
  have hws := g_ws_add (a := q9) (sh := .inl (ci, t)) hC hi h5
  rw [hE] at hws
  have := k q9 (hC.add hi (fun k a h => absurd h (ht k a))) p l e s m args below meth c H1 locs A ls (F.gr rfl rfl (fun j hj => if_neg (by omega)) hk) ⟨by rw [hws]; exact hP1, by rw [hws]; exact hD1, hS1, g_nrs_L had hv hL⟩
  have es : (Value.ref i :: st).map (g_v (gAdd Γ i q9 (.inl (ci, t))).2.2.1) = .ref q9 :: st.map (g_v Γ.2.2.1) := by
    rw [List.map_cons, g_nrs_st had hv]
    show Value.ref (if i = i then q9 else _) :: _ = _
    rw [if_pos rfl]
  rw [es] at this
  exact this
theorem g_ws_shp {A : Nat → Prop} {i ci q0 k0 b : Nat} {t : gT} (hD : va_D A (g_ws Γ M)) (hq : Γ.2.2.2.1[q0]? = some i) (hs : Γ.2.2.2.2 i = .inl (ci, t)) (hk : k0 < t.length) : (g_ws Γ M).set q0 (Γ.2.2.1 i, .inr (ci, (g_fs Γ.2.2.1 t (M.1 i)).set k0 (.ref (Γ.2.2.1 b)))) = g_ws (gShp Γ i (.inl (ci, t.set k0 (some (some b))))) M := by
  have hat : (g_ws Γ M)[q0]? = some (Γ.2.2.1 i, g_E Γ M i) := by simp [g_ws, hq]
  have hlt : q0 < (g_ws Γ M).length := (List.getElem?_eq_some_iff.mp hat).1
  have hsi : (gShp Γ i (.inl (ci, t.set k0 (some (some b))))).2.2.2.2 i = .inl (ci, t.set k0 (some (some b))) := if_pos rfl
  have hEi : g_E (gShp Γ i (.inl (ci, t.set k0 (some (some b))))) M i = .inr (ci, (g_fs Γ.2.2.1 t (M.1 i)).set k0 (.ref (Γ.2.2.1 b))) := by
    unfold g_E
    rw [hsi]
    show Sum.inr (ci, g_fs Γ.2.2.1 (t.set k0 (some (some b))) (M.1 i)) = _
    congr 2
    unfold g_fs
    refine List.ext_getElem? fun k => ?_
    rw [List.getElem?_mapIdx, List.getElem?_set, List.getElem?_set, List.getElem?_mapIdx]
    by_cases e : k0 = k
    · subst e
      simp [hk, g_fv]
    · simp [e]
  refine List.ext_getElem? fun x => ?_
  by_cases h : q0 = x
  · subst h
    rw [List.getElem?_set_self hlt]
    show _ = (Γ.2.2.2.1.map (fun j => (Γ.2.2.1 j, g_E (gShp Γ i (.inl (ci, t.set k0 (some (some b))))) M j)))[q0]?
    rw [List.getElem?_map, hq, Option.map_some, hEi]
  · rw [List.getElem?_set_ne h]
    show (Γ.2.2.2.1.map _)[x]? = (Γ.2.2.2.1.map (fun j => (Γ.2.2.1 j, g_E (gShp Γ i (.inl (ci, t.set k0 (some (some b))))) M j)))[x]?
    rw [List.getElem?_map, List.getElem?_map]
    cases hj : Γ.2.2.2.1[x]? with
    | none => rfl
    | some j =>
      have hat2 : (g_ws Γ M)[x]? = some (Γ.2.2.1 j, g_E Γ M j) := by simp [g_ws, hj]
      have hji : j ≠ i := fun e => by
        subst e
        exact h (hD.1 q0 x _ _ hat hat2 rfl)
      have : g_E (gShp Γ i (.inl (ci, t.set k0 (some (some b))))) M j = g_E Γ M j := by
        unfold g_E
        rw [show (gShp Γ i (.inl (ci, t.set k0 (some (some b))))).2.2.2.2 j = Γ.2.2.2.2 j from if_neg hji]
        rfl
      simp only [Option.map_some, this]
theorem g_putF {E : List Frame → Array Value → State → Prop} {Γ0 : gW} {Q : gW → gM → Prop} {mc ms i ci idx k0 b : Nat} {t : gT} {ty : FieldType} (hE0 : ∀ x y z, E x y z → zx_I x y z) (hd : decode μ.1 pc = .ok (.putfield idx, 3)) (hq : pc + 3 = q) (hf : g_FL μ.2.1 idx ci k0 ty true) (hdc : ∀ (C : String) (T : u_T) (N : Nat), vwCl[ci]? = some (C, T, N) → (T k0).1 = μ.2.1) (ho : g_o Γ i (.inl (ci, t))) (hkl : k0 < t.length) (hn : ∀ a, narrow ty (.ref a) = .ref a) (hfit : ∀ a, fits ty (.ref a) = true) (hC : gCl Γ M) (hb : b ∈ Γ.2.2.2.1) (k : gCl (gShp Γ i (.inl (ci, t.set k0 (some (some b))))) M → G (gShp Γ i (.inl (ci, t.set k0 (some (some b))))) μ R kn (g_ZN E Γ0 Q mc ms) q lv st M) : G Γ μ R kn (g_ZN E Γ0 Q mc ms) pc lv (.ref b :: .ref i :: st) M := by
  subst hq
  refine g_ask fun p l e s m args below meth c H locs A ls hE F X hY => ?_
  obtain ⟨hP, hD, hS, hL⟩ := X
  obtain ⟨C, T, N, ty0, hc, hk, hlink, hin, hty, hfin, hty0, hnm⟩ := hf
  obtain ⟨q0, h1, h2⟩ := g_ws_at (M := M) ho.1
  rw [g_E_obj ho.2] at h2
  have hlt : k0 < (g_fs Γ.2.2.1 t (M.1 i)).length := by rw [g_fs, List.length_mapIdx]; exact hkl
  have e1 := g_ws_shp (M := M) (b := b) hD h1 ho.2 hkl
  have hC2 : gCl (gShp Γ i (.inl (ci, t.set k0 (some (some b))))) M := hC.shp (fun k a h => by
    rw [List.getElem?_set] at h
    by_cases e : k0 = k
    · rw [if_pos e, if_pos hkl] at h
      simp only [Option.some.injEq] at h; rw [← h]; exact hb
    · rw [if_neg e] at h
      have := hC.1 i ho.1
      rw [ho.2] at this
      exact this k a h)
  intro T9 hT9 X9
  have hin2 : meth.name = "<init>" := hE0 _ _ _ hE m meth X9.frames X9.method
  refine va_putF (v := .ref (Γ.2.2.1 b)) F.1 F.2.1 F.2.2.2.2.2.2.1 hin ty0 hty0 hnm F.2.2.2.2.2.1 F.2.2.2.2.2.2.2.1 hP hD hS q0 h2 hc k0 hk (F.2.2.2.2.2.2.1 _ hlink) (fun _ h => h) hfin hin2 (hdc _ _ _ hc) hty (hn _) (hfit _) hlt hd (fun H1 locs1 hP1 hD1 hS1 => ?_) T9 hT9 X9
  rw [e1] at hP1 hD1
  exact k hC2 p l e s m args below meth c H1 locs1 A ls (F.gr rfl rfl (fun _ _ => rfl) ⟨F.2.2.2.2.2.2.2.2.2.1, F.2.2.2.2.2.2.2.2.2.2.1⟩) ⟨hP1, hD1, hS1, hL⟩
theorem g_putR {i ci idx k0 b : Nat} {t : gT} {ty : FieldType} (hd : decode μ.1 pc = .ok (.putfield idx, 3)) (hq : pc + 3 = q) (hf : g_FL μ.2.1 idx ci k0 ty false) (ho : g_o Γ i (.inl (ci, t))) (hkl : k0 < t.length) (hn : ∀ a, narrow ty (.ref a) = .ref a) (hfit : ∀ a, fits ty (.ref a) = true) (hC : gCl Γ M) (hb : b ∈ Γ.2.2.2.1) (k : gCl (gShp Γ i (.inl (ci, t.set k0 (some (some b))))) M → G (gShp Γ i (.inl (ci, t.set k0 (some (some b))))) μ R kn Z q lv st M) : G Γ μ R kn Z pc lv (.ref b :: .ref i :: st) M := by
  subst hq
  intro p l e s m args below meth c H locs A ls F X
  obtain ⟨hP, hD, hS, hL⟩ := X
  obtain ⟨C, T, N, ty0, hc, hk, hlink, hin, hty, hfin, hty0, hnm⟩ := hf
  obtain ⟨q0, h1, h2⟩ := g_ws_at (M := M) ho.1
  rw [g_E_obj ho.2] at h2
  have hlt : k0 < (g_fs Γ.2.2.1 t (M.1 i)).length := by rw [g_fs, List.length_mapIdx]; exact hkl
  have e1 := g_ws_shp (M := M) (b := b) hD h1 ho.2 hkl
  have hC2 : gCl (gShp Γ i (.inl (ci, t.set k0 (some (some b))))) M := hC.shp (fun k a h => by
    rw [List.getElem?_set] at h
    by_cases e : k0 = k
    · rw [if_pos e, if_pos hkl] at h
      simp only [Option.some.injEq] at h; rw [← h]; exact hb
    · rw [if_neg e] at h
      have := hC.1 i ho.1
      rw [ho.2] at this
      exact this k a h)
  refine va_put (v := .ref (Γ.2.2.1 b)) F.1 F.2.1 F.2.2.2.2.2.2.1 hin ty0 hty0 hnm F.2.2.2.2.2.1 F.2.2.2.2.2.2.2.1 hP hD hS q0 h2 hc k0 hk (F.2.2.2.2.2.2.1 _ hlink) (fun _ h => h) hfin hty (hn _) (hfit _) hlt hd (fun H1 locs1 hP1 hD1 hS1 => ?_)
  rw [e1] at hP1 hD1
  exact k hC2 p l e s m args below meth c H1 locs1 A ls (F.gr rfl rfl (fun _ _ => rfl) ⟨F.2.2.2.2.2.2.2.2.2.1, F.2.2.2.2.2.2.2.2.2.2.1⟩) ⟨hP1, hD1, hS1, hL⟩
theorem g_putNull {i ci idx k0 : Nat} {t : gT} {ty : FieldType} (hd : decode μ.1 pc = .ok (.putfield idx, 3)) (hq : pc + 3 = q) (hf : g_FL μ.2.1 idx ci k0 ty false) (ho : g_o Γ i (.inl (ci, t))) (ht : t[k0]? = some (some none)) (hn : narrow ty .null = .null) (hfit : fits ty .null = true) (k : G Γ μ R kn Z q lv st M) : G Γ μ R kn Z pc lv (.null :: .ref i :: st) M := by
  subst hq
  intro p l e s m args below meth c H locs A ls F X
  obtain ⟨hP, hD, hS, hL⟩ := X
  obtain ⟨C, T, N, ty0, hc, hk, hlink, hin, hty, hfin, hty0, hnm⟩ := hf
  obtain ⟨q0, h1, h2⟩ := g_ws_at (M := M) ho.1
  rw [g_E_obj ho.2] at h2
  have hlt : k0 < (g_fs Γ.2.2.1 t (M.1 i)).length := by rw [g_fs, List.length_mapIdx]; exact (List.getElem?_eq_some_iff.mp ht).1
  have e0 : (g_fs Γ.2.2.1 t (M.1 i)).set k0 .null = g_fs Γ.2.2.1 t (M.1 i) := by
    refine List.ext_getElem? fun x => ?_
    rw [List.getElem?_set]
    by_cases e : k0 = x
    · subst e
      rw [if_pos rfl, if_pos hlt, g_fs_at ht]; rfl
    · rw [if_neg e]
  have e1 : (g_ws Γ M).set q0 (Γ.2.2.1 i, .inr (ci, (g_fs Γ.2.2.1 t (M.1 i)).set k0 .null)) = g_ws Γ M := g_ws_set hD h1 (by rw [g_E_obj ho.2, e0]) (fun j hj => rfl)
  refine va_put (v := .null) F.1 F.2.1 F.2.2.2.2.2.2.1 hin ty0 hty0 hnm F.2.2.2.2.2.1 F.2.2.2.2.2.2.2.1 hP hD hS q0 h2 hc k0 hk (F.2.2.2.2.2.2.1 _ hlink) (fun _ h => h) hfin hty hn hfit hlt hd (fun H1 locs1 hP1 hD1 hS1 => ?_)
  rw [e1] at hP1 hD1
  exact k p l e s m args below meth c H1 locs1 A ls F ⟨hP1, hD1, hS1, hL⟩
theorem g_preB {PX : State → Prop} (hPX : ∀ u U : State, u.vm = U.vm → PX u → PX U) {av : List Value} {sz : Nat} : FrameBlind (va_Pc (av.map (g_v Γ.2.2.1)) (fun U => g_pre Γ M sz U ∧ PX U)) := fun a U g mk q => by
  obtain ⟨q0, ⟨q1, qP, qK, qD, qH⟩, qX⟩ := q
  exact ⟨q0, ⟨q1, qP, va_K.moved (u := U) (U := U.calling g mk a) (Vm.Alike.refl U.vm) qK, qD, g_KH.to (U := U.calling g mk a) qH (fun _ _ _ _ h => vk_R.same (u := U) rfl h) (Vm.Alike.refl U.vm) (fun _ _ _ => rfl) (fun _ h => h)⟩, hPX U _ rfl qX⟩
/-- the words of a constructor's call -/
def g_IL (own : String) (idx : Nat) (y : MethodName) (μ : gY) : Prop := (∀ w ∈ [Cond.code y μ.1 μ.2.2.1 none, Cond.initialized y.cls, Cond.methodLink own idx y, Cond.instanceMethod y], w ∈ g_UW) ∧ y.name = "<init>" ∧ (y.cls ≠ "java/lang/invoke/MethodHandle" ∧ y.cls ≠ "java/lang/invoke/VarHandle" ∧ (parseMethodDescriptor y.desc).map (fun d => d.parameters.length) = some 0) ∧ μ.2.2.1 ≤ 31 ∧ μ.2.2.2 = none
def g_rf (Γ : gW) (L : List (Nat × gSh)) : Value → Prop
  | .ref a => a ∈ Γ.2.2.2.1 ∨ (L.map Prod.fst).contains a = false
  | _ => True
theorem g_rf_v {Γ Γ' : gW} {L : List (Nat × gSh)} (h : gD Γ Γ' L) {v : Value} (hv : g_rf Γ L v) : g_v Γ'.2.2.1 v = g_v Γ.2.2.1 v := by
  cases v with
  | ref a =>
    show Value.ref (Γ'.2.2.1 a) = Value.ref (Γ.2.2.1 a)
    rcases hv with q | q
    · rw [h.2.2.2.1 a (Or.inr q)]
    · rw [h.2.2.2.1 a (Or.inl (fun q2 => by rw [List.contains_iff_mem.mpr q2] at q; cases q))]
  | _ => rfl
theorem g_callI {PX : State → Prop} {E : List Frame → Array Value → State → Prop} {Γ0 : gW} {Q9 : gW → gM → Prop} {mc9 ms9 : Nat} (hPX : ∀ u U : State, u.vm.Alike U.vm → PX u → PX U) (hPE : ∀ b a s, E b a s → PX s) {idx d' i mc ms : Nat} {y : MethodName} {μ' : gY} {L : List (Nat × gSh)} {P : gW → gM → Prop} (hd : decode μ.1 pc = .ok (.invokespecial idx, 3)) (hq : pc + 3 = q) (hv : g_IL μ.2.1 idx y μ') (hc : CtN PX Γ y μ' d' mc ms [.ref i] M (fun Γ' M' => gD Γ Γ' L ∧ P Γ' M')) (hL5 : ∀ x ∈ L, x.1 < 599) (hlv : ∀ (k : Nat) (v : Value), lv[k]? = some (some v) → g_rf Γ L v) (hstv : ∀ v ∈ st, g_rf Γ L v) (hR : d' + 9 ≤ R.frames ∧ 200 + 50 * d' ≤ R.locals) (hk : kn.1 + mc ≤ R.cells ∧ kn.2 + ms ≤ R.slots) (hst : (st.map fun v => v.category).sum ≤ 8)
    (k : ∀ (Γ' : gW) (M' : gM), gD Γ Γ' L → P Γ' M' → G Γ' μ R (kn.1 + mc, kn.2 + ms) (g_ZN E Γ0 Q9 mc9 ms9) q lv st M') : G Γ μ R kn (g_ZN E Γ0 Q9 mc9 ms9) pc lv (.ref i :: st) M := by
  subst hq
  refine g_ask fun p l e s m args below meth c H locs A ls hE F X hY => ?_
  have hcat : ((st.map (g_v Γ.2.2.1)).map fun v => v.category) = st.map fun v => v.category := by
    rw [List.map_map]; exact List.map_congr_left fun v _ => g_cat v
  have hts := F.2.2.2.2.2.2.1
  have hw := hv.1
  have hgood : GoodIn g_UW (.code y μ'.1 μ'.2.2.1 μ'.2.2.2 :: g_UW) := g_uw_good (fun w h => by
    rcases List.mem_cons.mp h with q | q
    · rw [q, hv.2.2.2.2]; exact hw _ (by simp)
    · exact q)
  have hr := va_runI (locs := locs) (cells := kn.1) (slots := kn.2) (below := below) (e := e) (meth := meth) (n := 0) (bytes := μ'.1) (maxL := μ'.2.2.1) (As := []) (rest := st.map (g_v Γ.2.2.1)) (b := Γ.2.2.1 i) (index := idx) (g := F0 m pc ls ((Value.ref i :: st).map (g_v Γ.2.2.1))) ⟨F.1, F.2.1, F.2.2.2.2.1, F.2.2.2.2.2.1, hts⟩ (hc l H.size) (cwI (ws' := g_UW) 0 hts hgood (by rw [hv.2.2.2.2]) rfl rfl (hts _ (hw _ (by simp))) (hts _ (hw _ (by simp))) (hts _ (hw _ (by simp))) hv.2.1 hv.2.2.1 ⟨by show d' + 8 + 1 ≤ _; exact hR.1, by show _ + (150 + 50 * d') ≤ _; have := hv.2.2.2.1; have := hR.2; omega⟩)
    ⟨g_preB (fun u U h => hPX u U (by rw [h]; exact Vm.Alike.refl _)), fun U hU hW => ⟨rfl, ⟨by rw [hU], by rw [hU]; exact X.1, va_K.moved hW.alike F.2.2.2.2.2.2.2.1, X.2.1.weaken (fun _ _ _ _ => trivial), g_KHc F X hU hW⟩, hPX s U hW.alike (hPE _ _ _ hE)⟩⟩
    rfl rfl X.2.2.2.1 rfl (lv_room (by rw [hcat]; exact hst)) hd hk
  intro T hT X0
  obtain ⟨hP, hD, hS, hL⟩ := X
  have hA := F.2.2.2.2.2.2.2.2.1
  obtain ⟨v, st₀, t, T', L', h0, X', hL', e1, e2, ⟨⟨Γ', M', hv9, ⟨hgd, hp9⟩, hb, hdd⟩, hz, hk9⟩, sg⟩ := hr T hT X0
  rw [h0] at hz hk9
  have hfree : ∀ q, va_A (g_ws Γ M) H.size q → A q := fun q hq => by
    rcases hq with ⟨k0, e0, h⟩ | h
    · exact hD.2 k0 _ h
    · exact hA q (Nat.le_trans hS.1 h)
  have hv2 : v = none := by simpa using hv9
  have hS' : va_S A s.heap T'.heap (locs ++ L') := ⟨Nat.le_trans hS.1 (by rw [e1]; exact hz), fun q h1 h2 => by rw [e1, hk9 q (Nat.lt_of_lt_of_le h1 hS.1) (fun z => h2 (hfree q z))]; exact hS.2.1 q h1 h2, fun q hq => by
      rcases List.mem_append.mp hq with h | h
      · exact hS.2.2 q h
      · exact hfree _ (hL' q h)⟩
  have had : ∀ j, 599 ≤ j → Γ'.2.2.1 j = Γ.2.2.1 j := fun j hj => hgd.2.2.2.1 j (Or.inl (fun q => by
    obtain ⟨x, hx, rfl⟩ := List.mem_map.mp q
    have := hL5 x hx
    omega))
  have hLg : g_L Γ' ls μ.2.2.1 lv := ⟨hL.1, hL.2.1, hL.2.2.1, fun k v hk => by rw [g_rf_v hgd (hlv k v hk)]; exact hL.2.2.2 k v hk⟩
  obtain ⟨t2, a1, b1⟩ := k Γ' M' hgd hp9 p l e s m args below meth c T'.heap (locs ++ L') A ls (F.gr hgd.1 hgd.2.1 had hk) ⟨by rw [e1]; exact hb, hdd.weaken (fun _ _ _ h => hfree _ h), hS', hLg⟩ T' rfl X'
  refine ⟨t2, sg t2 ?_, b1⟩
  have hst2 : st.map (g_v Γ'.2.2.1) = v.toList ++ st.map (g_v Γ.2.2.1) := by
    rw [hv2]
    exact List.map_congr_left fun v hm => g_rf_v hgd (hstv v hm)
  rw [hst2] at a1
  exact a1
end GN
