def g_qi (P : Int32 → gM → Prop) : Option Value → gM → Prop := fun v M' => ∃ z, v = some (.int z) ∧ P z M'
def g_qv (P : gM → Prop) : Option Value → gM → Prop := fun v M' => v = none ∧ P M'
/-- entry idx of own's pool is the instance method y of class C, with code and all; n arguments -/
def g_VL (own : String) (idx : Nat) (C : String) (y : MethodName) (μ : gY) (n : Nat) : Prop := (∀ w ∈ wsV own idx C y [.code y μ.1 μ.2.2.1 μ.2.2.2], w ∈ g_UW) ∧ (y.cls = C ∧ y.cls ≠ "java/lang/invoke/MethodHandle" ∧ y.cls ≠ "java/lang/invoke/VarHandle" ∧ (parseMethodDescriptor y.desc).map (fun d => d.parameters.length) = some n) ∧ μ.2.2.1 ≤ 31
def g_SL (own : String) (idx : Nat) (y : MethodName) (μ : gY) (n : Nat) : Prop := (∀ w ∈ wsS own idx y [.code y μ.1 μ.2.2.1 μ.2.2.2], w ∈ g_UW) ∧ (y.cls = own ∧ y.cls ≠ "java/lang/invoke/MethodHandle" ∧ y.cls ≠ "java/lang/invoke/VarHandle" ∧ (parseMethodDescriptor y.desc).map (fun d => d.parameters.length) = some n) ∧ μ.2.2.1 ≤ 31
theorem g_goodV {own : String} {idx : Nat} {C : String} {y : MethodName} {x : Cond} (h : ∀ w ∈ wsV own idx C y [x], w ∈ g_UW) : GoodIn g_UW (wsV own idx C y (x :: g_UW)) := by
  refine g_uw_good fun w hw => ?_
  simp only [wsV, List.mem_append, List.mem_cons] at hw h
  rcases hw with hw | rfl | hw
  · exact h w (Or.inl hw)
  · exact h w (Or.inr (Or.inl rfl))
  · exact hw
theorem g_goodS {own : String} {idx : Nat} {y : MethodName} {x : Cond} (h : ∀ w ∈ wsS own idx y [x], w ∈ g_UW) : GoodIn g_UW (wsS own idx y (x :: g_UW)) := by
  refine g_uw_good fun w hw => ?_
  simp only [wsS, List.mem_append, List.mem_cons] at hw h
  rcases hw with hw | rfl | hw
  · exact h w (Or.inl hw)
  · exact h w (Or.inr (Or.inl rfl))
  · exact hw
theorem g_rm {d d' : Nat} (h : d' < d) : d' + 2 ≤ (g_R d).frames ∧ 90 + 50 * d' ≤ (g_R d).locals := by
  constructor
  · show d' + 2 ≤ d + 1; omega
  · show 90 + 50 * d' ≤ 40 + 50 * d; omega
theorem g_lv_args {vs : List Value} (h : ∀ v ∈ vs, v.category = 1) : ∀ (i k : Nat) (v : Value), vs[k]? = some v → (i + k, v) ∈ lv_args i vs := by
  induction vs with
  | nil => intro i k v hk; simp at hk
  | cons a vs ih =>
    intro i k v hk
    have ha : ¬ a.category = 2 := by rw [h a List.mem_cons_self]; decide
    rw [lv_args, if_neg ha]
    cases k with
    | zero => simp at hk; subst hk; exact List.mem_cons_self
    | succ k =>
      simp at hk
      have := ih (fun v hv => h v (List.mem_cons_of_mem _ hv)) (i + 1) k v hk
      rw [show i + (k + 1) = i + 1 + k by omega]
      exact List.mem_cons_of_mem _ this
theorem g_sl_len {vs : List Value} (h : ∀ v ∈ vs, v.category = 1) : (lg_sl vs).length = vs.length := by
  induction vs with
  | nil => rfl
  | cons a vs ih =>
    have ha : ¬ a.category = 2 := by rw [h a List.mem_cons_self]; decide
    have := ih (fun v hv => h v (List.mem_cons_of_mem _ hv))
    simp only [lg_sl, List.flatMap_cons, if_neg ha, List.length_append, List.length_cons, List.length_nil] at this ⊢
    omega
theorem g_enter {Γ : gW} {y : MethodName} {μ : gY} {d : Nat} {av : List Value} {M : gM} {Q : Option Value → gM → Prop} (hy : plainName y.cls = true) (ho : μ.2.1 = y.cls) (hav : av.all (fun v => v.category == 1) = true) (hlen : av.length ≤ μ.2.2.1) (h : G Γ μ (g_R d) (0, 0) (g_Z Γ Q) 0 (av.map some ++ List.replicate (μ.2.2.1 - av.length) none) [] M) : Ct Γ y μ d av M Q := by
  intro l sz
  have hcat : ∀ v ∈ av.map (g_v Γ.2.2.1), v.category = 1 := by
    intro v hv
    obtain ⟨w, hw, rfl⟩ := List.mem_map.mp hv
    rw [g_cat]
    have := List.all_eq_true.mp hav w hw
    simpa using this
  refine Met.ofW (cc := μ.1) (maxL := μ.2.2.1) (ret := μ.2.2.2) hy rfl ?_
  intro p e s m args below meth c s₁ B hml hv
  obtain ⟨rfl, hsz, hP, hK, hD0, hKH⟩ := hv
  have hts := atoms_spec (ws := .code y μ.1 μ.2.2.1 μ.2.2.2 :: g_UW) B.pre
  have hl := lv_entry (av.map (g_v Γ.2.2.1)) (n := μ.2.2.1) (by rw [g_sl_len hcat, List.length_map]; exact hlen)
  rw [lg_entry_eq]
  generalize (lg_sl (av.map (g_v Γ.2.2.1)) ++ List.replicate (μ.2.2.1 - (lg_sl (av.map (g_v Γ.2.2.1))).length) Slot.unset).toArray = ls at hl ⊢
  subst hsz
  refine h p l e s m _ below meth c s.heap [] (va_A (g_ws Γ M) s.heap.size) ls ⟨B.exec, B.bytes, B.returns, B.notSynchronized, hml, ?_, fun w hw => hts w (List.mem_cons_of_mem _ hw), hK, fun q hq => Or.inr hq, Nat.zero_le _, Nat.zero_le _, hKH⟩ ⟨hP, hD0.self, va_S.rf, hl.1, hl.2.1, ?_, fun k v hk => ?_⟩
  · rw [ho]; exact findClass_of_methodNamed B.named
  · simp; omega
  · have hk2 : av[k]? = some v := by
      by_cases hka : k < av.length
      · rw [List.getElem?_append_left (by simpa using hka)] at hk
        simpa using hk
      · rw [List.getElem?_append_right (by simpa using hka)] at hk
        have := List.eq_of_mem_replicate (List.mem_of_getElem? hk)
        cases this
    have := g_lv_args hcat 0 k (g_v Γ.2.2.1 v) (by simp [hk2])
    rw [Nat.zero_add] at this
    exact hl.2.2 _ this
section GCalls
variable {Γ : gW} {μ : gY} {R : Room} {kn : Nat × Nat} {Z : gZ} {pc q : Nat} {lv : List (Option Value)} {st : List Value} {M : gM}
theorem g_blind {Γ : gW} {av : List Value} {M : gM} {sz : Nat} : FrameBlind (va_Pc (av.map (g_v Γ.2.2.1)) (fun U => U.heap.size = sz ∧ va_P Γ.1 vwCl (g_ws Γ M) U.heap ∧ va_K Γ.1 vwCl (g_T Γ) U ∧ va_D (fun _ => True) (g_ws Γ M) ∧ g_KH Γ (va_A (g_ws Γ M) sz) U U.heap)) := fun a U g mk q => by
  obtain ⟨q0, q1, qP, qK, qD, qH⟩ := q
  exact ⟨q0, q1, qP, va_K.moved (u := U) (U := U.calling g mk a) (Vm.Alike.refl U.vm) qK, qD, g_KH.to (U := U.calling g mk a) qH (fun _ _ _ _ h => vk_R.same (u := U) rfl h) (Vm.Alike.refl U.vm) (fun _ _ _ => rfl) (fun _ h => h)⟩
theorem g_KHc {p : Program} {s : State} {m : MethodId} {args : Array Value} {meth : Method} {c : Code} {H : Heap} {locs : List Loc} {A : Nat → Prop} {ls : Array Slot} (F : g_F Γ μ R kn p s m args meth c A) (X : g_X Γ μ s H locs A ls lv M) {U : State} (hU : U.heap = H) (hW : s.WarmedH U.vm) : g_KH Γ (va_A (g_ws Γ M) H.size) U U.heap := by
  have hK := F.2.2.2.2.2.2.2.2.2.2.2
  have hA := F.2.2.2.2.2.2.2.2.1
  obtain ⟨hP, hD, hS, hL⟩ := X
  rw [hU]
  refine hK.to (fun _ _ _ _ h => vk_R.warm hW h) hW.alike hS.2.1 (fun q hq => ?_)
  rcases hq with ⟨k0, e0, h⟩ | h
  · exact hD.2 k0 _ h
  · exact hA q (Nat.le_trans hS.1 h)
theorem g_after {p : Program} {l : gLn} {e : Env} {s : State} {m : MethodId} {args : Array Value} {below : List Frame} {meth : Method} {c : Code} {H : Heap} {locs : List Loc} {A : Nat → Prop} {ls : Array Slot} {st0 : List Value} {a : Array Value} {Q : Option Value → gM → Prop}
    (hr : va_Run p l.1 e R s m args below meth c H locs kn.1 kn.2 0 0 (F0 m pc ls st0) (st.map (g_v Γ.2.2.1)) (g_Q Γ Q (va_A (g_ws Γ M) H.size) a) (va_A (g_ws Γ M) H.size)) (F : g_F Γ μ R kn p s m args meth c A) (X : g_X Γ μ s H locs A ls lv M)
    (k : ∀ (v : Option Value) (M' : gM), Q v M' → G Γ μ R kn Z (pc + 3) lv (v.toList ++ st) M') : W p l.1 e R s m args below meth c H locs kn.1 kn.2 (Z below args s A) (F0 m pc ls st0) := by
  intro T hT X0
  obtain ⟨hP, hD, hS, hL⟩ := X
  have hA := F.2.2.2.2.2.2.2.2.1
  obtain ⟨v, st₀, t, T', L, h0, X', hL', e1, e2, ⟨⟨w, M', hv, hq, hb⟩, hz, hk⟩, sg⟩ := hr T hT X0
  rw [h0] at hz hk
  have hfree : ∀ q, va_A (g_ws Γ M) H.size q → A q := fun q hq => by
    rcases hq with ⟨k0, e0, h⟩ | h
    · exact hD.2 k0 _ h
    · exact hA q (Nat.le_trans hS.1 h)
  have hv2 : v = w.map (g_v Γ.2.2.1) := by simpa using hv
  have hS' : va_S A s.heap T'.heap (locs ++ L) := ⟨Nat.le_trans hS.1 (by rw [e1]; exact hz), fun q h1 h2 => by rw [e1, hk q (Nat.lt_of_lt_of_le h1 hS.1) (fun z => h2 (hfree q z))]; exact hS.2.1 q h1 h2, fun q hq => by
      rcases List.mem_append.mp hq with h | h
      · exact hS.2.2 q h
      · exact hfree _ (hL' q h)⟩
  obtain ⟨t2, a1, b1⟩ := k w M' hq p l e s m args below meth c T'.heap (locs ++ L) A ls F ⟨by rw [e1]; exact hb, g_D_any hD, hS', hL⟩ T' rfl X'
  refine ⟨t2, sg t2 ?_, b1⟩
  have hst : (w.toList ++ st).map (g_v Γ.2.2.1) = v.toList ++ st.map (g_v Γ.2.2.1) := by
    rw [List.map_append, hv2]
    cases w <;> rfl
  rw [hst] at a1
  exact a1
theorem g_callV {idx n d' i ci : Nat} {C : String} {y : MethodName} {μ' : gY} {As : List Value} {t : gT} {Q : Option Value → gM → Prop} (hd : decode μ.1 pc = .ok (.invokevirtual idx, 3)) (hv : g_VL μ.2.1 idx C y μ' n) (hn : As.length = n) (ho : g_o Γ i (.inl (ci, t))) (hci : (vwCl[ci]?).map (fun r => r.1) = some C)
    (hc : Ct Γ y μ' d' (.ref i :: As) M Q) (hR : d' + 2 ≤ R.frames ∧ 90 + 50 * d' ≤ R.locals) (hst : (st.map fun v => v.category).sum ≤ 8)
    (k : ∀ (v : Option Value) (M' : gM), Q v M' → G Γ μ R kn Z (pc + 3) lv (v.toList ++ st) M') : G Γ μ R kn Z pc lv (As.reverse ++ .ref i :: st) M := by
  intro p l e s m args below meth c H locs A ls F X
  have hcat : ((st.map (g_v Γ.2.2.1)).map fun v => v.category) = st.map fun v => v.category := by
    rw [List.map_map]; exact List.map_congr_left fun v _ => g_cat v
  obtain ⟨q0, h1, h2⟩ := g_ws_at (M := M) ho.1
  rw [g_E_obj ho.2] at h2
  cases hcl : vwCl[ci]? with
  | none => rw [hcl] at hci; cases hci
  | some r =>
    rw [hcl] at hci
    simp only [Option.map_some, Option.some.injEq] at hci
    subst hci
    refine g_after (Q := Q) (a := (Value.ref (Γ.2.2.1 i) :: As.map (g_v Γ.2.2.1)).toArray) ?_ F X k
    exact va_runV (As := As.map (g_v Γ.2.2.1)) (rest := st.map (g_v Γ.2.2.1)) ⟨F.1, F.2.1, F.2.2.2.2.1, F.2.2.2.2.2.1, F.2.2.2.2.2.2.1⟩ (hc l H.size) (cwV n F.2.2.2.2.2.2.1 (g_goodV hv.1) rfl rfl rfl hv.2.1 ⟨by show d' + 1 + 1 ≤ _; exact hR.1, by show _ + (40 + 50 * d') ≤ _; have := hv.2.2; have := hR.2; omega⟩)
      ⟨g_blind, va_recv F.2.2.2.2.2.2.2.1 X.1 hcl h2, fun U hU hW => ⟨rfl, by rw [hU], by rw [hU]; exact X.1, va_K.moved hW.alike F.2.2.2.2.2.2.2.1, X.2.1.weaken (fun _ _ _ _ => trivial), g_KHc F X hU hW⟩⟩
      rfl (by rw [List.length_map]; exact hn) X.2.2.2.1 (by show List.map _ _ = _; rw [List.map_append, List.map_cons, List.map_reverse]; rfl) (lv_room (by rw [hcat]; exact hst)) hd ⟨F.2.2.2.2.2.2.2.2.2.1, F.2.2.2.2.2.2.2.2.2.2.1⟩
theorem g_callS {idx n d' : Nat} {y : MethodName} {μ' : gY} {As : List Value} {Q : Option Value → gM → Prop} (hd : decode μ.1 pc = .ok (.invokestatic idx, 3)) (hv : g_SL μ.2.1 idx y μ' n) (hn : As.length = n)
    (hc : Ct Γ y μ' d' As M Q) (hR : d' + 2 ≤ R.frames ∧ 90 + 50 * d' ≤ R.locals) (hst : (st.map fun v => v.category).sum ≤ 8)
    (k : ∀ (v : Option Value) (M' : gM), Q v M' → G Γ μ R kn Z (pc + 3) lv (v.toList ++ st) M') : G Γ μ R kn Z pc lv (As.reverse ++ st) M := by
  intro p l e s m args below meth c H locs A ls F X
  have hcat : ((st.map (g_v Γ.2.2.1)).map fun v => v.category) = st.map fun v => v.category := by
    rw [List.map_map]; exact List.map_congr_left fun v _ => g_cat v
  refine g_after (Q := Q) (a := (As.map (g_v Γ.2.2.1)).toArray) ?_ F X k
  exact va_runS (As := As.map (g_v Γ.2.2.1)) (rest := st.map (g_v Γ.2.2.1)) ⟨F.1, F.2.1, F.2.2.2.2.1, F.2.2.2.2.2.1, F.2.2.2.2.2.2.1⟩ (hc l H.size) (cwS n F.2.2.2.2.2.2.1 (g_goodS hv.1) rfl rfl rfl hv.2.1 ⟨by show d' + 1 + 1 ≤ _; exact hR.1, by show _ + (40 + 50 * d') ≤ _; have := hv.2.2; have := hR.2; omega⟩)
      ⟨g_blind, fun U hU hW => ⟨rfl, by rw [hU], by rw [hU]; exact X.1, va_K.moved hW.alike F.2.2.2.2.2.2.2.1, X.2.1.weaken (fun _ _ _ _ => trivial), g_KHc F X hU hW⟩⟩
      rfl (by rw [List.length_map]; exact hn) X.2.2.2.1 (by show List.map _ _ = _; rw [List.map_append, List.map_reverse]) (lv_room (by rw [hcat]; exact hst)) hd ⟨F.2.2.2.2.2.2.2.2.2.1, F.2.2.2.2.2.2.2.2.2.2.1⟩
theorem g_callVi0 {idx d' i ci : Nat} {C : String} {y : MethodName} {μ' : gY} {t : gT} {P : Int32 → gM → Prop} (hd : decode μ.1 pc = .ok (.invokevirtual idx, 3)) (hq : pc + 3 = q) (hv : g_VL μ.2.1 idx C y μ' 0) (ho : g_o Γ i (.inl (ci, t))) (hci : (vwCl[ci]?).map (fun r => r.1) = some C) (hc : Ct Γ y μ' d' [.ref i] M (g_qi P)) (hR : d' + 2 ≤ R.frames ∧ 90 + 50 * d' ≤ R.locals) (hst : (st.map fun v => v.category).sum ≤ 8) (k : ∀ (z : Int32) (M' : gM), P z M' → G Γ μ R kn Z q lv (.int z :: st) M') : G Γ μ R kn Z pc lv (.ref i :: st) M := by
  subst hq
  exact g_callV (As := []) hd hv rfl ho hci hc hR hst (fun v M' h => by obtain ⟨z, rfl, h⟩ := h; exact k z M' h)
theorem g_callVv0 {idx d' i ci : Nat} {C : String} {y : MethodName} {μ' : gY} {t : gT} {P : gM → Prop} (hd : decode μ.1 pc = .ok (.invokevirtual idx, 3)) (hq : pc + 3 = q) (hv : g_VL μ.2.1 idx C y μ' 0) (ho : g_o Γ i (.inl (ci, t))) (hci : (vwCl[ci]?).map (fun r => r.1) = some C) (hc : Ct Γ y μ' d' [.ref i] M (g_qv P)) (hR : d' + 2 ≤ R.frames ∧ 90 + 50 * d' ≤ R.locals) (hst : (st.map fun v => v.category).sum ≤ 8) (k : ∀ (M' : gM), P M' → G Γ μ R kn Z q lv st M') : G Γ μ R kn Z pc lv (.ref i :: st) M := by
  subst hq
  exact g_callV (As := []) hd hv rfl ho hci hc hR hst (fun v M' h => by obtain ⟨rfl, h⟩ := h; exact k M' h)
theorem g_callVi1 {idx d' i ci : Nat} {C : String} {y : MethodName} {μ' : gY} {v1 : Value} {t : gT} {P : Int32 → gM → Prop} (hd : decode μ.1 pc = .ok (.invokevirtual idx, 3)) (hq : pc + 3 = q) (hv : g_VL μ.2.1 idx C y μ' 1) (ho : g_o Γ i (.inl (ci, t))) (hci : (vwCl[ci]?).map (fun r => r.1) = some C) (hc : Ct Γ y μ' d' [.ref i, v1] M (g_qi P)) (hR : d' + 2 ≤ R.frames ∧ 90 + 50 * d' ≤ R.locals) (hst : (st.map fun v => v.category).sum ≤ 8) (k : ∀ (z : Int32) (M' : gM), P z M' → G Γ μ R kn Z q lv (.int z :: st) M') : G Γ μ R kn Z pc lv (v1 :: .ref i :: st) M := by
  subst hq
  exact g_callV (As := [v1]) hd hv rfl ho hci hc hR hst (fun v M' h => by obtain ⟨z, rfl, h⟩ := h; exact k z M' h)
theorem g_callSi1 {idx d' : Nat} {y : MethodName} {μ' : gY} {v1 : Value} {P : Int32 → gM → Prop} (hd : decode μ.1 pc = .ok (.invokestatic idx, 3)) (hq : pc + 3 = q) (hv : g_SL μ.2.1 idx y μ' 1) (hc : Ct Γ y μ' d' [v1] M (g_qi P)) (hR : d' + 2 ≤ R.frames ∧ 90 + 50 * d' ≤ R.locals) (hst : (st.map fun v => v.category).sum ≤ 8) (k : ∀ (z : Int32) (M' : gM), P z M' → G Γ μ R kn Z q lv (.int z :: st) M') : G Γ μ R kn Z pc lv (v1 :: st) M := by
  subst hq
  exact g_callS (As := [v1]) hd hv rfl hc hR hst (fun v M' h => by obtain ⟨z, rfl, h⟩ := h; exact k z M' h)
theorem g_callVv1 {idx d' i ci : Nat} {C : String} {y : MethodName} {μ' : gY} {v1 : Value} {t : gT} {P : gM → Prop} (hd : decode μ.1 pc = .ok (.invokevirtual idx, 3)) (hq : pc + 3 = q) (hv : g_VL μ.2.1 idx C y μ' 1) (ho : g_o Γ i (.inl (ci, t))) (hci : (vwCl[ci]?).map (fun r => r.1) = some C) (hc : Ct Γ y μ' d' [.ref i, v1] M (g_qv P)) (hR : d' + 2 ≤ R.frames ∧ 90 + 50 * d' ≤ R.locals) (hst : (st.map fun v => v.category).sum ≤ 8) (k : ∀ (M' : gM), P M' → G Γ μ R kn Z q lv st M') : G Γ μ R kn Z pc lv (v1 :: .ref i :: st) M := by
  subst hq
  exact g_callV (As := [v1]) hd hv rfl ho hci hc hR hst (fun v M' h => by obtain ⟨rfl, h⟩ := h; exact k M' h)
theorem g_callSv1 {idx d' : Nat} {y : MethodName} {μ' : gY} {v1 : Value} {P : gM → Prop} (hd : decode μ.1 pc = .ok (.invokestatic idx, 3)) (hq : pc + 3 = q) (hv : g_SL μ.2.1 idx y μ' 1) (hc : Ct Γ y μ' d' [v1] M (g_qv P)) (hR : d' + 2 ≤ R.frames ∧ 90 + 50 * d' ≤ R.locals) (hst : (st.map fun v => v.category).sum ≤ 8) (k : ∀ (M' : gM), P M' → G Γ μ R kn Z q lv st M') : G Γ μ R kn Z pc lv (v1 :: st) M := by
  subst hq
  exact g_callS (As := [v1]) hd hv rfl hc hR hst (fun v M' h => by obtain ⟨rfl, h⟩ := h; exact k M' h)
theorem g_callVi2 {idx d' i ci : Nat} {C : String} {y : MethodName} {μ' : gY} {v1 v2 : Value} {t : gT} {P : Int32 → gM → Prop} (hd : decode μ.1 pc = .ok (.invokevirtual idx, 3)) (hq : pc + 3 = q) (hv : g_VL μ.2.1 idx C y μ' 2) (ho : g_o Γ i (.inl (ci, t))) (hci : (vwCl[ci]?).map (fun r => r.1) = some C) (hc : Ct Γ y μ' d' [.ref i, v1, v2] M (g_qi P)) (hR : d' + 2 ≤ R.frames ∧ 90 + 50 * d' ≤ R.locals) (hst : (st.map fun v => v.category).sum ≤ 8) (k : ∀ (z : Int32) (M' : gM), P z M' → G Γ μ R kn Z q lv (.int z :: st) M') : G Γ μ R kn Z pc lv (v2 :: v1 :: .ref i :: st) M := by
  subst hq
  exact g_callV (As := [v1, v2]) hd hv rfl ho hci hc hR hst (fun v M' h => by obtain ⟨z, rfl, h⟩ := h; exact k z M' h)
theorem g_callSi2 {idx d' : Nat} {y : MethodName} {μ' : gY} {v1 v2 : Value} {P : Int32 → gM → Prop} (hd : decode μ.1 pc = .ok (.invokestatic idx, 3)) (hq : pc + 3 = q) (hv : g_SL μ.2.1 idx y μ' 2) (hc : Ct Γ y μ' d' [v1, v2] M (g_qi P)) (hR : d' + 2 ≤ R.frames ∧ 90 + 50 * d' ≤ R.locals) (hst : (st.map fun v => v.category).sum ≤ 8) (k : ∀ (z : Int32) (M' : gM), P z M' → G Γ μ R kn Z q lv (.int z :: st) M') : G Γ μ R kn Z pc lv (v2 :: v1 :: st) M := by
  subst hq
  exact g_callS (As := [v1, v2]) hd hv rfl hc hR hst (fun v M' h => by obtain ⟨z, rfl, h⟩ := h; exact k z M' h)
theorem g_callVv2 {idx d' i ci : Nat} {C : String} {y : MethodName} {μ' : gY} {v1 v2 : Value} {t : gT} {P : gM → Prop} (hd : decode μ.1 pc = .ok (.invokevirtual idx, 3)) (hq : pc + 3 = q) (hv : g_VL μ.2.1 idx C y μ' 2) (ho : g_o Γ i (.inl (ci, t))) (hci : (vwCl[ci]?).map (fun r => r.1) = some C) (hc : Ct Γ y μ' d' [.ref i, v1, v2] M (g_qv P)) (hR : d' + 2 ≤ R.frames ∧ 90 + 50 * d' ≤ R.locals) (hst : (st.map fun v => v.category).sum ≤ 8) (k : ∀ (M' : gM), P M' → G Γ μ R kn Z q lv st M') : G Γ μ R kn Z pc lv (v2 :: v1 :: .ref i :: st) M := by
  subst hq
  exact g_callV (As := [v1, v2]) hd hv rfl ho hci hc hR hst (fun v M' h => by obtain ⟨rfl, h⟩ := h; exact k M' h)
theorem g_callSv2 {idx d' : Nat} {y : MethodName} {μ' : gY} {v1 v2 : Value} {P : gM → Prop} (hd : decode μ.1 pc = .ok (.invokestatic idx, 3)) (hq : pc + 3 = q) (hv : g_SL μ.2.1 idx y μ' 2) (hc : Ct Γ y μ' d' [v1, v2] M (g_qv P)) (hR : d' + 2 ≤ R.frames ∧ 90 + 50 * d' ≤ R.locals) (hst : (st.map fun v => v.category).sum ≤ 8) (k : ∀ (M' : gM), P M' → G Γ μ R kn Z q lv st M') : G Γ μ R kn Z pc lv (v2 :: v1 :: st) M := by
  subst hq
  exact g_callS (As := [v1, v2]) hd hv rfl hc hR hst (fun v M' h => by obtain ⟨rfl, h⟩ := h; exact k M' h)
theorem g_callVi3 {idx d' i ci : Nat} {C : String} {y : MethodName} {μ' : gY} {v1 v2 v3 : Value} {t : gT} {P : Int32 → gM → Prop} (hd : decode μ.1 pc = .ok (.invokevirtual idx, 3)) (hq : pc + 3 = q) (hv : g_VL μ.2.1 idx C y μ' 3) (ho : g_o Γ i (.inl (ci, t))) (hci : (vwCl[ci]?).map (fun r => r.1) = some C) (hc : Ct Γ y μ' d' [.ref i, v1, v2, v3] M (g_qi P)) (hR : d' + 2 ≤ R.frames ∧ 90 + 50 * d' ≤ R.locals) (hst : (st.map fun v => v.category).sum ≤ 8) (k : ∀ (z : Int32) (M' : gM), P z M' → G Γ μ R kn Z q lv (.int z :: st) M') : G Γ μ R kn Z pc lv (v3 :: v2 :: v1 :: .ref i :: st) M := by
  subst hq
  exact g_callV (As := [v1, v2, v3]) hd hv rfl ho hci hc hR hst (fun v M' h => by obtain ⟨z, rfl, h⟩ := h; exact k z M' h)
theorem g_callSi3 {idx d' : Nat} {y : MethodName} {μ' : gY} {v1 v2 v3 : Value} {P : Int32 → gM → Prop} (hd : decode μ.1 pc = .ok (.invokestatic idx, 3)) (hq : pc + 3 = q) (hv : g_SL μ.2.1 idx y μ' 3) (hc : Ct Γ y μ' d' [v1, v2, v3] M (g_qi P)) (hR : d' + 2 ≤ R.frames ∧ 90 + 50 * d' ≤ R.locals) (hst : (st.map fun v => v.category).sum ≤ 8) (k : ∀ (z : Int32) (M' : gM), P z M' → G Γ μ R kn Z q lv (.int z :: st) M') : G Γ μ R kn Z pc lv (v3 :: v2 :: v1 :: st) M := by
  subst hq
  exact g_callS (As := [v1, v2, v3]) hd hv rfl hc hR hst (fun v M' h => by obtain ⟨z, rfl, h⟩ := h; exact k z M' h)
theorem g_callVv3 {idx d' i ci : Nat} {C : String} {y : MethodName} {μ' : gY} {v1 v2 v3 : Value} {t : gT} {P : gM → Prop} (hd : decode μ.1 pc = .ok (.invokevirtual idx, 3)) (hq : pc + 3 = q) (hv : g_VL μ.2.1 idx C y μ' 3) (ho : g_o Γ i (.inl (ci, t))) (hci : (vwCl[ci]?).map (fun r => r.1) = some C) (hc : Ct Γ y μ' d' [.ref i, v1, v2, v3] M (g_qv P)) (hR : d' + 2 ≤ R.frames ∧ 90 + 50 * d' ≤ R.locals) (hst : (st.map fun v => v.category).sum ≤ 8) (k : ∀ (M' : gM), P M' → G Γ μ R kn Z q lv st M') : G Γ μ R kn Z pc lv (v3 :: v2 :: v1 :: .ref i :: st) M := by
  subst hq
  exact g_callV (As := [v1, v2, v3]) hd hv rfl ho hci hc hR hst (fun v M' h => by obtain ⟨rfl, h⟩ := h; exact k M' h)
theorem g_callSv3 {idx d' : Nat} {y : MethodName} {μ' : gY} {v1 v2 v3 : Value} {P : gM → Prop} (hd : decode μ.1 pc = .ok (.invokestatic idx, 3)) (hq : pc + 3 = q) (hv : g_SL μ.2.1 idx y μ' 3) (hc : Ct Γ y μ' d' [v1, v2, v3] M (g_qv P)) (hR : d' + 2 ≤ R.frames ∧ 90 + 50 * d' ≤ R.locals) (hst : (st.map fun v => v.category).sum ≤ 8) (k : ∀ (M' : gM), P M' → G Γ μ R kn Z q lv st M') : G Γ μ R kn Z pc lv (v3 :: v2 :: v1 :: st) M := by
  subst hq
  exact g_callS (As := [v1, v2, v3]) hd hv rfl hc hR hst (fun v M' h => by obtain ⟨rfl, h⟩ := h; exact k M' h)
theorem g_callVi4 {idx d' i ci : Nat} {C : String} {y : MethodName} {μ' : gY} {v1 v2 v3 v4 : Value} {t : gT} {P : Int32 → gM → Prop} (hd : decode μ.1 pc = .ok (.invokevirtual idx, 3)) (hq : pc + 3 = q) (hv : g_VL μ.2.1 idx C y μ' 4) (ho : g_o Γ i (.inl (ci, t))) (hci : (vwCl[ci]?).map (fun r => r.1) = some C) (hc : Ct Γ y μ' d' [.ref i, v1, v2, v3, v4] M (g_qi P)) (hR : d' + 2 ≤ R.frames ∧ 90 + 50 * d' ≤ R.locals) (hst : (st.map fun v => v.category).sum ≤ 8) (k : ∀ (z : Int32) (M' : gM), P z M' → G Γ μ R kn Z q lv (.int z :: st) M') : G Γ μ R kn Z pc lv (v4 :: v3 :: v2 :: v1 :: .ref i :: st) M := by
  subst hq
  exact g_callV (As := [v1, v2, v3, v4]) hd hv rfl ho hci hc hR hst (fun v M' h => by obtain ⟨z, rfl, h⟩ := h; exact k z M' h)
theorem g_callSi4 {idx d' : Nat} {y : MethodName} {μ' : gY} {v1 v2 v3 v4 : Value} {P : Int32 → gM → Prop} (hd : decode μ.1 pc = .ok (.invokestatic idx, 3)) (hq : pc + 3 = q) (hv : g_SL μ.2.1 idx y μ' 4) (hc : Ct Γ y μ' d' [v1, v2, v3, v4] M (g_qi P)) (hR : d' + 2 ≤ R.frames ∧ 90 + 50 * d' ≤ R.locals) (hst : (st.map fun v => v.category).sum ≤ 8) (k : ∀ (z : Int32) (M' : gM), P z M' → G Γ μ R kn Z q lv (.int z :: st) M') : G Γ μ R kn Z pc lv (v4 :: v3 :: v2 :: v1 :: st) M := by
  subst hq
  exact g_callS (As := [v1, v2, v3, v4]) hd hv rfl hc hR hst (fun v M' h => by obtain ⟨z, rfl, h⟩ := h; exact k z M' h)
theorem g_callVv4 {idx d' i ci : Nat} {C : String} {y : MethodName} {μ' : gY} {v1 v2 v3 v4 : Value} {t : gT} {P : gM → Prop} (hd : decode μ.1 pc = .ok (.invokevirtual idx, 3)) (hq : pc + 3 = q) (hv : g_VL μ.2.1 idx C y μ' 4) (ho : g_o Γ i (.inl (ci, t))) (hci : (vwCl[ci]?).map (fun r => r.1) = some C) (hc : Ct Γ y μ' d' [.ref i, v1, v2, v3, v4] M (g_qv P)) (hR : d' + 2 ≤ R.frames ∧ 90 + 50 * d' ≤ R.locals) (hst : (st.map fun v => v.category).sum ≤ 8) (k : ∀ (M' : gM), P M' → G Γ μ R kn Z q lv st M') : G Γ μ R kn Z pc lv (v4 :: v3 :: v2 :: v1 :: .ref i :: st) M := by
  subst hq
  exact g_callV (As := [v1, v2, v3, v4]) hd hv rfl ho hci hc hR hst (fun v M' h => by obtain ⟨rfl, h⟩ := h; exact k M' h)
theorem g_callSv4 {idx d' : Nat} {y : MethodName} {μ' : gY} {v1 v2 v3 v4 : Value} {P : gM → Prop} (hd : decode μ.1 pc = .ok (.invokestatic idx, 3)) (hq : pc + 3 = q) (hv : g_SL μ.2.1 idx y μ' 4) (hc : Ct Γ y μ' d' [v1, v2, v3, v4] M (g_qv P)) (hR : d' + 2 ≤ R.frames ∧ 90 + 50 * d' ≤ R.locals) (hst : (st.map fun v => v.category).sum ≤ 8) (k : ∀ (M' : gM), P M' → G Γ μ R kn Z q lv st M') : G Γ μ R kn Z pc lv (v4 :: v3 :: v2 :: v1 :: st) M := by
  subst hq
  exact g_callS (As := [v1, v2, v3, v4]) hd hv rfl hc hR hst (fun v M' h => by obtain ⟨rfl, h⟩ := h; exact k M' h)
theorem g_callVi5 {idx d' i ci : Nat} {C : String} {y : MethodName} {μ' : gY} {v1 v2 v3 v4 v5 : Value} {t : gT} {P : Int32 → gM → Prop} (hd : decode μ.1 pc = .ok (.invokevirtual idx, 3)) (hq : pc + 3 = q) (hv : g_VL μ.2.1 idx C y μ' 5) (ho : g_o Γ i (.inl (ci, t))) (hci : (vwCl[ci]?).map (fun r => r.1) = some C) (hc : Ct Γ y μ' d' [.ref i, v1, v2, v3, v4, v5] M (g_qi P)) (hR : d' + 2 ≤ R.frames ∧ 90 + 50 * d' ≤ R.locals) (hst : (st.map fun v => v.category).sum ≤ 8) (k : ∀ (z : Int32) (M' : gM), P z M' → G Γ μ R kn Z q lv (.int z :: st) M') : G Γ μ R kn Z pc lv (v5 :: v4 :: v3 :: v2 :: v1 :: .ref i :: st) M := by
  subst hq
  exact g_callV (As := [v1, v2, v3, v4, v5]) hd hv rfl ho hci hc hR hst (fun v M' h => by obtain ⟨z, rfl, h⟩ := h; exact k z M' h)
theorem g_callSi5 {idx d' : Nat} {y : MethodName} {μ' : gY} {v1 v2 v3 v4 v5 : Value} {P : Int32 → gM → Prop} (hd : decode μ.1 pc = .ok (.invokestatic idx, 3)) (hq : pc + 3 = q) (hv : g_SL μ.2.1 idx y μ' 5) (hc : Ct Γ y μ' d' [v1, v2, v3, v4, v5] M (g_qi P)) (hR : d' + 2 ≤ R.frames ∧ 90 + 50 * d' ≤ R.locals) (hst : (st.map fun v => v.category).sum ≤ 8) (k : ∀ (z : Int32) (M' : gM), P z M' → G Γ μ R kn Z q lv (.int z :: st) M') : G Γ μ R kn Z pc lv (v5 :: v4 :: v3 :: v2 :: v1 :: st) M := by
  subst hq
  exact g_callS (As := [v1, v2, v3, v4, v5]) hd hv rfl hc hR hst (fun v M' h => by obtain ⟨z, rfl, h⟩ := h; exact k z M' h)
theorem g_callVv5 {idx d' i ci : Nat} {C : String} {y : MethodName} {μ' : gY} {v1 v2 v3 v4 v5 : Value} {t : gT} {P : gM → Prop} (hd : decode μ.1 pc = .ok (.invokevirtual idx, 3)) (hq : pc + 3 = q) (hv : g_VL μ.2.1 idx C y μ' 5) (ho : g_o Γ i (.inl (ci, t))) (hci : (vwCl[ci]?).map (fun r => r.1) = some C) (hc : Ct Γ y μ' d' [.ref i, v1, v2, v3, v4, v5] M (g_qv P)) (hR : d' + 2 ≤ R.frames ∧ 90 + 50 * d' ≤ R.locals) (hst : (st.map fun v => v.category).sum ≤ 8) (k : ∀ (M' : gM), P M' → G Γ μ R kn Z q lv st M') : G Γ μ R kn Z pc lv (v5 :: v4 :: v3 :: v2 :: v1 :: .ref i :: st) M := by
  subst hq
  exact g_callV (As := [v1, v2, v3, v4, v5]) hd hv rfl ho hci hc hR hst (fun v M' h => by obtain ⟨rfl, h⟩ := h; exact k M' h)
theorem g_callSv5 {idx d' : Nat} {y : MethodName} {μ' : gY} {v1 v2 v3 v4 v5 : Value} {P : gM → Prop} (hd : decode μ.1 pc = .ok (.invokestatic idx, 3)) (hq : pc + 3 = q) (hv : g_SL μ.2.1 idx y μ' 5) (hc : Ct Γ y μ' d' [v1, v2, v3, v4, v5] M (g_qv P)) (hR : d' + 2 ≤ R.frames ∧ 90 + 50 * d' ≤ R.locals) (hst : (st.map fun v => v.category).sum ≤ 8) (k : ∀ (M' : gM), P M' → G Γ μ R kn Z q lv st M') : G Γ μ R kn Z pc lv (v5 :: v4 :: v3 :: v2 :: v1 :: st) M := by
  subst hq
  exact g_callS (As := [v1, v2, v3, v4, v5]) hd hv rfl hc hR hst (fun v M' h => by obtain ⟨rfl, h⟩ := h; exact k M' h)
end GCalls
