/-! calls of constructors of nest mates; null; arrays of Strings -/
section GN2
variable {Γ : gW} {μ : gY} {R : Room} {kn : Nat × Nat} {Z : gZ} {pc q : Nat} {lv : List (Option Value)} {st : List Value} {M : gM}
theorem g_askZ {PX : State → Prop} (hZ : ∀ b a s A t, ¬ PX s → Z b a s A t) (h : ∀ (p : Program) (l : gLn) (e : Env) (s : State) (m : MethodId) (args : Array Value) (below : List Frame) (meth : Method) (c : Code) (H : Heap) (locs : List Loc) (A : Nat → Prop) (ls : Array Slot), PX s → g_F Γ μ R kn p s m args meth c A → g_X Γ μ s H locs A ls lv M → W p l.1 e R s m args below meth c H locs kn.1 kn.2 (Z below args s A) (F0 m pc ls (st.map (g_v Γ.2.2.1)))) : G Γ μ R kn Z pc lv st M := by
  intro p l e s m args below meth c H locs A ls F X T hT X0
  by_cases hE : PX s
  · exact h p l e s m args below meth c H locs A ls hE F X T hT X0
  · exact ⟨_, Steps.refl _, hZ _ _ _ _ _ hE⟩
def g_IN (own : String) (idx : Nat) (y : MethodName) (μ : gY) : Prop := (∀ w ∈ [Cond.code y μ.1 μ.2.2.1 none, Cond.initialized y.cls, Cond.instanceMethod y], w ∈ g_UW) ∧ y.name = "<init>" ∧ (y.cls ≠ "java/lang/invoke/MethodHandle" ∧ y.cls ≠ "java/lang/invoke/VarHandle" ∧ (parseMethodDescriptor y.desc).map (fun d => d.parameters.length) = some 0) ∧ μ.2.2.1 ≤ 31 ∧ μ.2.2.2 = none
theorem g_callIN {PX : State → Prop} (hPX : ∀ u U : State, u.WarmedH U.vm → PX u → PX U) (hPb : ∀ u U : State, u.vm = U.vm → PX u → PX U) (hZ : ∀ b a s A t, ¬ PX s → Z b a s A t) {idx d' i mc ms : Nat} {y : MethodName} {μ' : gY} {L : List (Nat × gSh)} {P : gW → gM → Prop} (hd : decode μ.1 pc = .ok (.invokespecial idx, 3)) (hq : pc + 3 = q) (hv : g_IN μ.2.1 idx y μ') (hPN : ∀ s, PX s → va_Nw (.methodLinkNest μ.2.1 idx y "HeavyGifts") s) (hc : CtN PX Γ y μ' d' mc ms [.ref i] M (fun Γ' M' => gD Γ Γ' L ∧ P Γ' M')) (hL5 : ∀ x ∈ L, x.1 < 599) (hlv : ∀ (k : Nat) (v : Value), lv[k]? = some (some v) → g_rf Γ L v) (hstv : ∀ v ∈ st, g_rf Γ L v) (hR : d' + 9 ≤ R.frames ∧ 200 + 50 * d' ≤ R.locals) (hk : kn.1 + mc ≤ R.cells ∧ kn.2 + ms ≤ R.slots) (hst : (st.map fun v => v.category).sum ≤ 8)
    (k : ∀ (Γ' : gW) (M' : gM), gD Γ Γ' L → P Γ' M' → G Γ' μ R (kn.1 + mc, kn.2 + ms) Z q lv st M') : G Γ μ R kn Z pc lv (.ref i :: st) M := by
  subst hq
  refine g_askZ hZ fun p l e s m args below meth c H locs A ls hE F X => ?_
  have hcat : ((st.map (g_v Γ.2.2.1)).map fun v => v.category) = st.map fun v => v.category := by
    rw [List.map_map]; exact List.map_congr_left fun v _ => g_cat v
  have hts := F.2.2.2.2.2.2.1
  have hw := hv.1
  have hgood : GoodIn g_UW (.code y μ'.1 μ'.2.2.1 μ'.2.2.2 :: g_UW) := g_uw_good (fun w h => by
    rcases List.mem_cons.mp h with q | q
    · rw [q, hv.2.2.2.2]; exact hw _ (by simp)
    · exact q)
  have hr := va_runIN (host := "HeavyGifts") (locs := locs) (cells := kn.1) (slots := kn.2) (below := below) (e := e) (meth := meth) (n := 0) (bytes := μ'.1) (maxL := μ'.2.2.1) (As := []) (rest := st.map (g_v Γ.2.2.1)) (b := Γ.2.2.1 i) (index := idx) (g := F0 m pc ls ((Value.ref i :: st).map (g_v Γ.2.2.1))) ⟨F.1, F.2.1, F.2.2.2.2.1, F.2.2.2.2.2.1, hts⟩ (hc l H.size) ⟨va_cnB (ws' := g_UW) 0 hts hgood (by rw [hv.2.2.2.2]) rfl rfl (hPN _ hE) (hts _ (hw _ (by simp))) hv.2.2.1 ⟨by show d' + 8 + 1 ≤ _; exact hR.1, by show _ + (150 + 50 * d') ≤ _; have := hv.2.2.2.1; have := hR.2; omega⟩, hv.2.1, hts _ (hw _ (by simp))⟩
    ⟨g_preB (hPb), fun U hU hW => ⟨rfl, ⟨by rw [hU], by rw [hU]; exact X.1, va_K.moved hW.alike F.2.2.2.2.2.2.2.1, X.2.1.weaken (fun _ _ _ _ => trivial), g_KHc F X hU hW⟩, hPX s U hW hE⟩⟩
    rfl rfl X.2.2.2.1 rfl (lv_room (by rw [hcat]; exact hst)) hd hk
  intro T hT X0
  obtain ⟨hP, hD, hS, hL⟩ := X
  have hA := F.2.2.2.2.2.2.2.2.1
  obtain ⟨v, st₀, t, T', L', h0, X', hL', e1, e2, ⟨⟨Γ', M', hv9, ⟨hgd, hp9⟩, hb, hdd⟩, hz, hk9⟩, sg⟩ := hr T hT X0
  rw [h0] at hz hk9
  have hfree : ∀ q, va_A (g_ws Γ M) H.size q → A q := fun q hq => by
    rcases hq with ⟨k0, e0, h⟩ | h
    · exact hD.2 k0 _ h
    · exact hA q (Nat.le_trans hS.1 h)
  have hv2 : v = none := by simpa using hv9
  have hS' : va_S A s.heap T'.heap (locs ++ L') := ⟨Nat.le_trans hS.1 (by rw [e1]; exact hz), fun q h1 h2 => by rw [e1, hk9 q (Nat.lt_of_lt_of_le h1 hS.1) (fun z => h2 (hfree q z))]; exact hS.2.1 q h1 h2, fun q hq => by
      rcases List.mem_append.mp hq with h | h
      · exact hS.2.2 q h
      · exact hfree _ (hL' q h)⟩
  have had : ∀ j, 599 ≤ j → Γ'.2.2.1 j = Γ.2.2.1 j := fun j hj => hgd.2.2.2.1 j (Or.inl (fun q => by
    obtain ⟨x, hx, rfl⟩ := List.mem_map.mp q
    have := hL5 x hx
    omega))
  have hLg : g_L Γ' ls μ.2.2.1 lv := ⟨hL.1, hL.2.1, hL.2.2.1, fun k v hk => by rw [g_rf_v hgd (hlv k v hk)]; exact hL.2.2.2 k v hk⟩
  obtain ⟨t2, a1, b1⟩ := k Γ' M' hgd hp9 p l e s m args below meth c T'.heap (locs ++ L') A ls (F.gr hgd.1 hgd.2.1 had hk) ⟨by rw [e1]; exact hb, hdd.weaken (fun _ _ _ h => hfree _ h), hS', hLg⟩ T' rfl X'
  refine ⟨t2, sg t2 ?_, b1⟩
  have hst2 : st.map (g_v Γ'.2.2.1) = v.toList ++ st.map (g_v Γ.2.2.1) := by
    rw [hv2]
    exact List.map_congr_left fun v hm => g_rf_v hgd (hstv v hm)
  rw [hst2] at a1
  exact a1
theorem g_callIP {PX : State → Prop} (hPX : ∀ u U : State, u.WarmedH U.vm → PX u → PX U) (hPb : ∀ u U : State, u.vm = U.vm → PX u → PX U) (hZ : ∀ b a s A t, ¬ PX s → Z b a s A t) {idx d' i mc ms : Nat} {y : MethodName} {μ' : gY} {L : List (Nat × gSh)} {P : gW → gM → Prop} (hd : decode μ.1 pc = .ok (.invokespecial idx, 3)) (hq : pc + 3 = q) (hv : g_IL μ.2.1 idx y μ') (hc : CtN PX Γ y μ' d' mc ms [.ref i] M (fun Γ' M' => gD Γ Γ' L ∧ P Γ' M')) (hL5 : ∀ x ∈ L, x.1 < 599) (hlv : ∀ (k : Nat) (v : Value), lv[k]? = some (some v) → g_rf Γ L v) (hstv : ∀ v ∈ st, g_rf Γ L v) (hR : d' + 9 ≤ R.frames ∧ 200 + 50 * d' ≤ R.locals) (hk : kn.1 + mc ≤ R.cells ∧ kn.2 + ms ≤ R.slots) (hst : (st.map fun v => v.category).sum ≤ 8)
    (k : ∀ (Γ' : gW) (M' : gM), gD Γ Γ' L → P Γ' M' → G Γ' μ R (kn.1 + mc, kn.2 + ms) Z q lv st M') : G Γ μ R kn Z pc lv (.ref i :: st) M := by
  subst hq
  refine g_askZ hZ fun p l e s m args below meth c H locs A ls hE F X => ?_
  have hcat : ((st.map (g_v Γ.2.2.1)).map fun v => v.category) = st.map fun v => v.category := by
    rw [List.map_map]; exact List.map_congr_left fun v _ => g_cat v
  have hts := F.2.2.2.2.2.2.1
  have hw := hv.1
  have hgood : GoodIn g_UW (.code y μ'.1 μ'.2.2.1 μ'.2.2.2 :: g_UW) := g_uw_good (fun w h => by
    rcases List.mem_cons.mp h with q | q
    · rw [q, hv.2.2.2.2]; exact hw _ (by simp)
    · exact q)
  have hr := va_runI (locs := locs) (cells := kn.1) (slots := kn.2) (below := below) (e := e) (meth := meth) (n := 0) (bytes := μ'.1) (maxL := μ'.2.2.1) (As := []) (rest := st.map (g_v Γ.2.2.1)) (b := Γ.2.2.1 i) (index := idx) (g := F0 m pc ls ((Value.ref i :: st).map (g_v Γ.2.2.1))) ⟨F.1, F.2.1, F.2.2.2.2.1, F.2.2.2.2.2.1, hts⟩ (hc l H.size) (cwI (ws' := g_UW) 0 hts hgood (by rw [hv.2.2.2.2]) rfl rfl (hts _ (hw _ (by simp))) (hts _ (hw _ (by simp))) (hts _ (hw _ (by simp))) hv.2.1 hv.2.2.1 ⟨by show d' + 8 + 1 ≤ _; exact hR.1, by show _ + (150 + 50 * d') ≤ _; have := hv.2.2.2.1; have := hR.2; omega⟩)
    ⟨g_preB (hPb), fun U hU hW => ⟨rfl, ⟨by rw [hU], by rw [hU]; exact X.1, va_K.moved hW.alike F.2.2.2.2.2.2.2.1, X.2.1.weaken (fun _ _ _ _ => trivial), g_KHc F X hU hW⟩, hPX s U hW hE⟩⟩
    rfl rfl X.2.2.2.1 rfl (lv_room (by rw [hcat]; exact hst)) hd hk
  intro T hT X0
  obtain ⟨hP, hD, hS, hL⟩ := X
  have hA := F.2.2.2.2.2.2.2.2.1
  obtain ⟨v, st₀, t, T', L', h0, X', hL', e1, e2, ⟨⟨Γ', M', hv9, ⟨hgd, hp9⟩, hb, hdd⟩, hz, hk9⟩, sg⟩ := hr T hT X0
  rw [h0] at hz hk9
  have hfree : ∀ q, va_A (g_ws Γ M) H.size q → A q := fun q hq => by
    rcases hq with ⟨k0, e0, h⟩ | h
    · exact hD.2 k0 _ h
    · exact hA q (Nat.le_trans hS.1 h)
  have hv2 : v = none := by simpa using hv9
  have hS' : va_S A s.heap T'.heap (locs ++ L') := ⟨Nat.le_trans hS.1 (by rw [e1]; exact hz), fun q h1 h2 => by rw [e1, hk9 q (Nat.lt_of_lt_of_le h1 hS.1) (fun z => h2 (hfree q z))]; exact hS.2.1 q h1 h2, fun q hq => by
      rcases List.mem_append.mp hq with h | h
      · exact hS.2.2 q h
      · exact hfree _ (hL' q h)⟩
  have had : ∀ j, 599 ≤ j → Γ'.2.2.1 j = Γ.2.2.1 j := fun j hj => hgd.2.2.2.1 j (Or.inl (fun q => by
    obtain ⟨x, hx, rfl⟩ := List.mem_map.mp q
    have := hL5 x hx
    omega))
  have hLg : g_L Γ' ls μ.2.2.1 lv := ⟨hL.1, hL.2.1, hL.2.2.1, fun k v hk => by rw [g_rf_v hgd (hlv k v hk)]; exact hL.2.2.2 k v hk⟩
  obtain ⟨t2, a1, b1⟩ := k Γ' M' hgd hp9 p l e s m args below meth c T'.heap (locs ++ L') A ls (F.gr hgd.1 hgd.2.1 had hk) ⟨by rw [e1]; exact hb, hdd.weaken (fun _ _ _ h => hfree _ h), hS', hLg⟩ T' rfl X'
  refine ⟨t2, sg t2 ?_, b1⟩
  have hst2 : st.map (g_v Γ'.2.2.1) = v.toList ++ st.map (g_v Γ.2.2.1) := by
    rw [hv2]
    exact List.map_congr_left fun v hm => g_rf_v hgd (hstv v hm)
  rw [hst2] at a1
  exact a1
theorem g_null (hd : decode μ.1 pc = .ok (.aconst_null, 1)) (hq : pc + 1 = q) (k : G Γ μ R kn Z q lv (.null :: st) M) : G Γ μ R kn Z pc lv st M := by
  subst hq
  intro p l e s m args below meth c H locs A ls F X
  exact lv_null F.1 F.2.1 hd (k p l e s m args below meth c H locs A ls F X)
theorem g_nonnull {x : Nat} {off : Int} (hd : decode μ.1 pc = .ok (.ifnonnull off, 3)) (ht : (pc : Int) + off = (q : Int)) (k : G Γ μ R kn Z q lv st M) : G Γ μ R kn Z pc lv (.ref x :: st) M := by
  intro p l e s m args below meth c H locs A ls F X
  exact lv_ifnonnull F.1 F.2.1 hd ht (k p l e s m args below meth c H locs A ls F X)
theorem g_nonnullN {off : Int} (hd : decode μ.1 pc = .ok (.ifnonnull off, 3)) (hq : pc + 3 = q) (k : G Γ μ R kn Z q lv st M) : G Γ μ R kn Z pc lv (.null :: st) M := by
  subst hq
  intro p l e s m args below meth c H locs A ls F X
  exact lv_ifnonnullN F.1 F.2.1 hd (k p l e s m args below meth c H locs A ls F X)
theorem g_newaS {PX : State → Prop} (hZ : ∀ b a s A t, ¬ PX s → Z b a s A t) (hPA : ∀ s, PX s → va_AO "java/lang/String" s) {n idx : Nat} {nI : Int32} (hd : decode μ.1 pc = .ok (.anewarray idx, 3)) (hq : pc + 3 = q) (hcl : Cond.classLink μ.2.1 idx "java/lang/String" ∈ g_UW) (hn : nI.toInt = (n : Int)) (hb : n ≤ 60000) (hi : 400 ∉ Γ.2.2.2.1) (hC : gCl Γ M) (hz : ∀ k, (M.1 400 k).toInt < 0) (hv : g_nrs [400] lv st = true) (hk : kn.1 + 1 ≤ R.cells ∧ kn.2 + n ≤ R.slots) (k : ∀ a : Nat, gCl (gAdd Γ 400 a (.inr (5, n))) M → G (gAdd Γ 400 a (.inr (5, n))) μ R (kn.1 + 1, kn.2 + n) Z q lv (.ref 400 :: st) M) : G Γ μ R kn Z pc lv (.int nI :: st) M := by
  subst hq
  refine g_askZ hZ fun p l e s m args below meth c H locs A ls hE F X => ?_
  obtain ⟨hP, hD, hS, hL⟩ := X
  have h0 : ¬ nI < 0 := fun h => by
    have := Int32.lt_iff_toInt_lt.mp h
    have e0 : (0 : Int32).toInt = 0 := rfl
    omega
  refine va_newq F.1 F.2.1 F.2.2.2.2.2.1 (F.2.2.2.2.2.2.1 _ hcl) (hPA _ hE) F.2.2.2.2.2.2.2.1 hP hD hS F.2.2.2.2.2.2.2.2.1 (N' := n) h0 (by show nI.toInt.toNat = n; omega) (by omega) hk.1 hk.2 hd (fun q9 cA H1 hK1 hP1 hD1 hS1 => ?_)
  have hcA : cA = Γ.2.1 5 := by
    obtain ⟨-, -, -, -, -, g1⟩ := (hK1.2 6 (cA, .object "java/lang/String") rfl).2
    obtain ⟨-, -, -, -, -, g2⟩ := (F.2.2.2.2.2.2.2.1.2 5 (Γ.2.1 5, .object "java/lang/String") rfl).2
    exact Option.some.inj (g1.symm.trans g2)
  have had : ∀ j, j ∉ [400] → (gAdd Γ 400 q9 (.inr (5, n))).2.2.1 j = Γ.2.2.1 j := fun j hj => if_neg (by simpa using hj)
  have hE2 : g_E (gAdd Γ 400 q9 (.inr (5, n))) M 400 = .inl (cA, (n, .inr (.inr (.inr (.inr (fun _ => none)))))) := by
    rw [hcA]
    unfold g_E
    rw [show (gAdd Γ 400 q9 (.inr (5, n))).2.2.2.2 400 = .inr (5, n) by simp [gAdd]]
    have : (fun k => if (M.1 400 k).toInt < 0 then none else some ((gAdd Γ 400 q9 (.inr (5, n))).2.2.1 (M.1 400 k).toInt.toNat)) = fun _ => (none : Option Nat) := funext fun k => if_pos (hz k)
    show (Sum.inl (Γ.2.1 5, n, if (5 : Nat) = 2 then _ else if (5 : Nat) = 5 then _ else _) : va_E) = _
    rw [if_neg (by decide), if_pos rfl, this]
  have hws := g_ws_add (a := q9) (sh := .inr (5, n)) hC hi (by decide)
  rw [hE2] at hws
  have := k q9 (hC.add hi (by show 5 = 5 → _; intro _; rfl)) p l e s m args below meth c H1 locs A ls (F.gr rfl rfl (fun j hj => if_neg (by omega)) hk) ⟨by rw [hws]; exact hP1, by rw [hws]; exact hD1, hS1, g_nrs_L had hv hL⟩
  have es : (Value.ref 400 :: st).map (g_v (gAdd Γ 400 q9 (.inr (5, n))).2.2.1) = .ref q9 :: st.map (g_v Γ.2.2.1) := by
    rw [List.map_cons, g_nrs_st had hv]
    simp [g_v, gAdd]
  rw [es] at this
  exact this
theorem g_aastS {c0 n : Nat} {q1 : String × Nat × String × List Int32} {x : Int32} {y : Int32} (hd : decode μ.1 pc = .ok (.aastore, 1)) (hq : pc + 1 = q) (ho : g_o Γ 400 (.inr (5, n))) (hin : vp_in x n) (hc0 : gCs[c0]? = some q1) (hy : y.toInt = 600 + (c0 : Int)) (hC : gCl Γ M) (k : gCl Γ (g_u M 400 x.toNatClampNeg y) → G Γ μ R kn Z q lv st (g_u M 400 x.toNatClampNeg y)) : G Γ μ R kn Z pc lv (.ref (600 + c0) :: .int x :: .ref 400 :: st) M := by
  subst hq
  intro p l e s m args below meth c H locs A ls F X
  obtain ⟨hP, hD, hS, hL⟩ := X
  obtain ⟨q0, h1, h2⟩ := g_ws_at (M := M) ho.1
  have hE : ∀ M : gM, g_E Γ M 400 = .inl (Γ.2.1 5, n, .inr (.inr (.inr (.inr (fun k => if (M.1 400 k).toInt < 0 then none else some (Γ.2.2.1 (M.1 400 k).toInt.toNat)))))) := fun M => by
    unfold g_E
    rw [ho.2]
    show (Sum.inl (Γ.2.1 5, n, if (5 : Nat) = 2 then _ else if (5 : Nat) = 5 then _ else _) : va_E) = _
    rw [if_neg (by decide), if_pos rfl]
  rw [hE M] at h2
  have hO := (F.2.2.2.2.2.2.2.2.2.2.2.1 c0 _ hc0).2.1
  have hany : va_Any "java/lang/String" s H (Γ.2.2.1 (600 + c0)) := by
    obtain ⟨cell, o1, o2, o3, o4⟩ := hO
    obtain ⟨kC, hkC, -⟩ := Vm.findClass_spec o3
    have hlt : Γ.2.2.1 (600 + c0) < s.heap.size := by
      have := Array.getElem?_eq_some_iff.mp o1
      exact this.1
    refine ⟨cell, by rw [hS.2.1 _ hlt o4]; exact o1, o2, ⟨kC, hkC⟩, fun comp hcm => ?_⟩
    rw [o3] at hcm
    cases hcm
    rw [Vm.assignable, show (256 : Nat) = 255 + 1 from rfl, Vm.assignableAux, beq_self_eq_true, Bool.true_or]
  have hC2 : gCl Γ (g_u M 400 x.toNatClampNeg y) := ⟨hC.1, fun k => by
    show ((g_u M 400 x.toNatClampNeg y).1 400 k).toInt < 0 ∨ _
    rw [g_u_at]
    show (if k = x.toNatClampNeg then y else M.1 400 k).toInt < 0 ∨ 600 ≤ (if k = x.toNatClampNeg then y else M.1 400 k).toInt
    by_cases e : k = x.toNatClampNeg
    · rw [if_pos e]; right; omega
    · rw [if_neg e]; exact hC.2 k⟩
  refine va_astqM F.1 F.2.1 F.2.2.2.2.2.2.2.1 hP hD hS q0 5 h2 rfl hany hin hd (fun H1 locs1 hP1 hD1 hS1 => ?_)
  have e1 := g_ws_set (M' := g_u M 400 x.toNatClampNeg y) (x := .inl (Γ.2.1 5, n, .inr (.inr (.inr (.inr (va_up (fun k => if (M.1 400 k).toInt < 0 then none else some (Γ.2.2.1 (M.1 400 k).toInt.toNat)) x.toNatClampNeg (some (Γ.2.2.1 (600 + c0))))))))) hD h1 (by
      rw [hE, g_u_at]
      congr 7
      funext k
      show (if (if k = x.toNatClampNeg then y else M.1 400 k).toInt < 0 then none else some (Γ.2.2.1 (if k = x.toNatClampNeg then y else M.1 400 k).toInt.toNat)) = va_up _ _ _ k
      unfold va_up
      by_cases e : k = x.toNatClampNeg
      · rw [if_pos e, if_neg (by omega), if_pos e]
        rw [show y.toInt.toNat = 600 + c0 from by omega]
      · rw [if_neg e, if_neg e]) (fun j hj => g_E_u hj)
  rw [e1] at hP1 hD1
  exact k hC2 p l e s m args below meth c H1 locs1 A ls F ⟨hP1, hD1, hS1, hL⟩
end GN2
def nwL : List (String × Nat × MethodName) := [(RX5, 9, yX3_init), (RX5, 21, yX0_init), (RX5, 51, yX2_init), (RX5, 61, yX4_init), (RX5, 246, yX1_init), (RX2, 11, yX3_init), (RX4, 11, yX3_init), (RX1, 24, yX3_init)]
/-- what the constructors ask of the tables beside the good words -/
def PXN (U : State) : Prop := (∀ x ∈ nwL, va_Nw (.methodLinkNest x.1 x.2.1 x.2.2 "HeavyGifts") U) ∧ va_AO "java/lang/String" U
theorem PXN.w {u U : State} (hW : u.WarmedH U.vm) (h : PXN u) : PXN U := ⟨fun x hx => va_Nw.warmM hW (h.1 x hx), va_AO.moved hW.alike h.2⟩
theorem PXN.b {u U : State} (hW : u.vm = U.vm) (h : PXN u) : PXN U := ⟨fun x hx => va_Nw.same rfl hW (h.1 x hx), va_AO.moved (by rw [hW]; exact Vm.Alike.refl _) h.2⟩
theorem PXN.n {u : State} {x : String × Nat × MethodName} (k : Nat) (hk : nwL[k]? = some x) (h : PXN u) : va_Nw (.methodLinkNest x.1 x.2.1 x.2.2 "HeavyGifts") u := h.1 x (List.mem_of_getElem? hk)
theorem zN_PX {E : List Frame → Array Value → State → Prop} {Γ0 : gW} {Q : gW → gM → Prop} {mc ms : Nat} (hE : ∀ b a s, E b a s → PXN s) (b : List Frame) (a : Array Value) (s : State) (A : Nat → Prop) (t : State) (h : ¬ PXN s) : g_ZN E Γ0 Q mc ms b a s A t := fun hx => absurd (hE _ _ _ hx) h
