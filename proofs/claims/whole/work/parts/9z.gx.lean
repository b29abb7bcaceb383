/-! methods that return or throw, in the judgement G -/
def g_RX (d : Nat) : Room := { frames := d + 8, cells := 1, slots := 6, locals := 150 + 50 * d }
theorem g_rmX {d d' : Nat} (h : d' < d) : d' + 2 ≤ (g_RX d).frames ∧ 90 + 50 * d' ≤ (g_RX d).locals := by
  constructor
  · show d' + 2 ≤ d + 8; omega
  · show 90 + 50 * d' ≤ 150 + 50 * d; omega
theorem g_rmY {d d' : Nat} (h : d' < d) : d' + 9 ≤ (g_RX d).frames ∧ 200 + 50 * d' ≤ (g_RX d).locals ∧ 1 ≤ (g_RX d).cells ∧ 6 ≤ (g_RX d).slots := by
  refine ⟨?_, ?_, Nat.le_refl _, Nat.le_refl _⟩
  · show d' + 9 ≤ d + 8; omega
  · show 200 + 50 * d' ≤ 150 + 50 * d; omega
def g_XC (Γ : gW) (XP : String → gM → Prop) (A : Nat → Prop) : String → State → State → Prop := fun E st t => (∃ M' : gM, XP E M' ∧ va_P Γ.1 vwCl (g_ws Γ M') t.heap) ∧ va_F A st t
/-- the method that runs has no table of handlers -/
def zx_E (below : List Frame) (args : Array Value) (s : State) : Prop := ∀ (m : MethodId) (meth : Method) (c : Code), s.frames = .invoking m args :: below → s.vm.method? m = some meth → meth.code = some c → c.exceptionTable.toList = []
def g_ZX (Γ : gW) (Q : Option Value → gM → Prop) (XP : String → gM → Prop) : gZ := fun below args s A t => zx_E below args s → vx_MQ below (g_Q Γ Q A) (g_XC Γ XP A) args s 0 0 1 6 A t
def CtX (Γ : gW) (y : MethodName) (μ : gY) (d : Nat) (av : List Value) (M : gM) (Q : Option Value → gM → Prop) (XP : String → gM → Prop) : Prop :=
  ∀ (l : gLn) (sz : Nat), vx_Met l.1 y (.code y μ.1 μ.2.2.1 μ.2.2.2 :: g_UW) (g_RX d) (va_Pc (av.map (g_v Γ.2.2.1)) (fun U => U.heap.size = sz ∧ va_P Γ.1 vwCl (g_ws Γ M) U.heap ∧ va_K Γ.1 vwCl (g_T Γ) U ∧ va_D (fun _ => True) (g_ws Γ M) ∧ g_KH Γ (va_A (g_ws Γ M) sz) U U.heap)) (g_Q Γ Q (va_A (g_ws Γ M) sz)) (g_XC Γ XP (va_A (g_ws Γ M) sz)) 0 0 1 6 (va_A (g_ws Γ M) sz)
theorem g_toX {Γ : gW} {μ : gY} {R : Room} {Q : Option Value → gM → Prop} {XP : String → gM → Prop} {pc : Nat} {lv : List (Option Value)} {st : List Value} {M : gM} (h : G Γ μ R (0, 0) (g_Z Γ Q) pc lv st M) : G Γ μ R (0, 0) (g_ZX Γ Q XP) pc lv st M := by
  intro p l e s m args below meth c H locs A ls F X T hT X0
  obtain ⟨t, a1, o, b1, b2, b3, b4⟩ := h p l e s m args below meth c H locs A ls F X T hT X0
  exact ⟨t, a1, fun _ => ⟨o, b1, b2, Or.inl ⟨b3, b4⟩⟩⟩
theorem g_enterX {Γ : gW} {y : MethodName} {μ : gY} {d : Nat} {av : List Value} {M : gM} {Q : Option Value → gM → Prop} {XP : String → gM → Prop} (hy : plainName y.cls = true) (ho : μ.2.1 = y.cls) (hav : av.all (fun v => v.category == 1) = true) (hlen : av.length ≤ μ.2.2.1) (h : G Γ μ (g_RX d) (0, 0) (g_ZX Γ Q XP) 0 (av.map some ++ List.replicate (μ.2.2.1 - av.length) none) [] M) : CtX Γ y μ d av M Q XP := by
  intro l sz
  have hcat : ∀ v ∈ av.map (g_v Γ.2.2.1), v.category = 1 := by
    intro v hv
    obtain ⟨w, hw, rfl⟩ := List.mem_map.mp hv
    rw [g_cat]
    have := List.all_eq_true.mp hav w hw
    simpa using this
  refine vx_ofW (cc := μ.1) (maxL := μ.2.2.1) (ret := μ.2.2.2) hy rfl ?_
  intro p e s m args below meth c s₁ B hml ht hv
  obtain ⟨rfl, hsz, hP, hK, hD0, hKH⟩ := hv
  have hts := atoms_spec (ws := .code y μ.1 μ.2.2.1 μ.2.2.2 :: g_UW) B.pre
  have hl := lv_entry (av.map (g_v Γ.2.2.1)) (n := μ.2.2.1) (by rw [g_sl_len hcat, List.length_map]; exact hlen)
  rw [lg_entry_eq]
  generalize (lg_sl (av.map (g_v Γ.2.2.1)) ++ List.replicate (μ.2.2.1 - (lg_sl (av.map (g_v Γ.2.2.1))).length) Slot.unset).toArray = ls at hl ⊢
  subst hsz
  intro T hT X
  have hE : zx_E below (av.map (g_v Γ.2.2.1)).toArray s := by
    intro m' meth' c' h1 h2 h3
    have h4 := h1.symm.trans X.frames
    cases h4
    cases Option.some.inj (h2.symm.trans X.method)
    cases Option.some.inj (h3.symm.trans X.code)
    exact List.eq_nil_iff_forall_not_mem.mpr (fun x hx => ht x hx)
  obtain ⟨t, a1, b1⟩ := h p l e s m _ below meth c s.heap [] (va_A (g_ws Γ M) s.heap.size) ls ⟨B.exec, B.bytes, B.returns, B.notSynchronized, hml, by rw [ho]; exact findClass_of_methodNamed B.named, fun w hw => hts w (List.mem_cons_of_mem _ hw), hK, fun q hq => Or.inr hq, Nat.zero_le _, Nat.zero_le _, hKH⟩ ⟨hP, hD0.self, va_S.rf, hl.1, hl.2.1, by simp; omega, fun k v hk => by
      have hk2 : av[k]? = some v := by
        by_cases hka : k < av.length
        · rw [List.getElem?_append_left (by simpa using hka)] at hk
          simpa using hk
        · rw [List.getElem?_append_right (by simpa using hka)] at hk
          have := List.eq_of_mem_replicate (List.mem_of_getElem? hk)
          cases this
      have := g_lv_args hcat 0 k (g_v Γ.2.2.1 v) (by simp [hk2])
      rw [Nat.zero_add] at this
      exact hl.2.2 _ this⟩ T hT X
  exact ⟨t, a1, b1 hE⟩
section GX
variable {Γ : gW} {μ : gY} {R : Room} {pc q : Nat} {lv : List (Option Value)} {st : List Value} {M : gM} {Q9 : Option Value → gM → Prop} {XP : String → gM → Prop}
theorem g_callX {idx n d' i ci : Nat} {C : String} {y : MethodName} {μ' : gY} {As : List Value} {t : gT} {Q : Option Value → gM → Prop} {XPc : String → gM → Prop} (hd : decode μ.1 pc = .ok (.invokevirtual idx, 3)) (hv : g_VL μ.2.1 idx C y μ' n) (hn : As.length = n) (ho : g_o Γ i (.inl (ci, t))) (hci : (vwCl[ci]?).map (fun r => r.1) = some C)
    (hc : CtX Γ y μ' d' (.ref i :: As) M Q XPc) (hR : d' + 9 ≤ R.frames ∧ 200 + 50 * d' ≤ R.locals ∧ 1 ≤ R.cells ∧ 6 ≤ R.slots) (hst : (st.map fun v => v.category).sum ≤ 8) (kx : ∀ (E : String) (M' : gM), XPc E M' → XP E M')
    (k : ∀ (v : Option Value) (M' : gM), Q v M' → G Γ μ R (0, 0) (g_ZX Γ Q9 XP) (pc + 3) lv (v.toList ++ st) M') : G Γ μ R (0, 0) (g_ZX Γ Q9 XP) pc lv (As.reverse ++ .ref i :: st) M := by
  intro p l e s m args below meth c H locs A ls F X
  have hcat : ((st.map (g_v Γ.2.2.1)).map fun v => v.category) = st.map fun v => v.category := by
    rw [List.map_map]; exact List.map_congr_left fun v _ => g_cat v
  obtain ⟨q0, h1, h2⟩ := g_ws_at (M := M) ho.1
  rw [g_E_obj ho.2] at h2
  cases hcl : vwCl[ci]? with
  | none => rw [hcl] at hci; cases hci
  | some r =>
    rw [hcl] at hci
    simp only [Option.map_some, Option.some.injEq] at hci
    subst hci
    have hr := vx_runV (locs := locs) (cells := 0) (slots := 0) (below := below) (e := e) (meth := meth) (As := As.map (g_v Γ.2.2.1)) (rest := st.map (g_v Γ.2.2.1)) (g := F0 m pc ls ((As.reverse ++ .ref i :: st).map (g_v Γ.2.2.1))) ⟨F.1, F.2.1, F.2.2.2.2.1, F.2.2.2.2.2.1, F.2.2.2.2.2.2.1⟩ (hc l H.size) (cwV n F.2.2.2.2.2.2.1 (g_goodV hv.1) rfl rfl rfl hv.2.1 ⟨by show d' + 8 + 1 ≤ _; exact hR.1, by show _ + (150 + 50 * d') ≤ _; have := hv.2.2; have := hR.2.1; omega⟩)
      ⟨g_blind, va_recv F.2.2.2.2.2.2.2.1 X.1 hcl h2, fun U hU hW => ⟨rfl, by rw [hU], by rw [hU]; exact X.1, va_K.moved hW.alike F.2.2.2.2.2.2.2.1, X.2.1.weaken (fun _ _ _ _ => trivial), g_KHc F X hU hW⟩⟩
      rfl (by rw [List.length_map]; exact hn) X.2.2.2.1 (by show List.map _ _ = _; rw [List.map_append, List.map_cons, List.map_reverse]; rfl) (lv_room (by rw [hcat]; exact hst)) hd ⟨by have := hR.2.2.1; omega, by have := hR.2.2.2; omega⟩
    intro T hT X0
    obtain ⟨hP, hD, hS, hL⟩ := X
    have hA := F.2.2.2.2.2.2.2.2.1
    have hfree : ∀ q, va_A (g_ws Γ M) H.size q → A q := fun q hq => by
      rcases hq with ⟨k0, e0, h⟩ | h
      · exact hD.2 k0 _ h
      · exact hA q (Nat.le_trans hS.1 h)
    rcases hr T hT X0 with ⟨v, st₀, t, T', L, h0, X', hL', e1, e2, ⟨⟨w, M', hv, hq, hb⟩, hz, hk⟩, sg⟩ | ⟨q9, st₀, t, T', L, E, ce, h0, X', hL', e1, e2, ⟨⟨M', hx, hb⟩, hz, hk⟩, hce, hcv, hcl9, sg⟩
    · rw [h0] at hz hk
      have hv2 : v = w.map (g_v Γ.2.2.1) := by simpa using hv
      have hS' : va_S A s.heap T'.heap (locs ++ L) := ⟨Nat.le_trans hS.1 (by rw [e1]; exact hz), fun q h1 h2 => by rw [e1, hk q (Nat.lt_of_lt_of_le h1 hS.1) (fun z => h2 (hfree q z))]; exact hS.2.1 q h1 h2, fun q hq => by
          rcases List.mem_append.mp hq with h | h
          · exact hS.2.2 q h
          · exact hfree _ (hL' q h)⟩
      obtain ⟨t2, a1, b1⟩ := k w M' hq p l e s m args below meth c T'.heap (locs ++ L) A ls F ⟨by rw [e1]; exact hb, g_D_any hD, hS', hL⟩ T' rfl X'
      refine ⟨t2, sg t2 ?_, b1⟩
      have hst : (w.toList ++ st).map (g_v Γ.2.2.1) = v.toList ++ st.map (g_v Γ.2.2.1) := by
        rw [List.map_append, hv2]
        cases w <;> rfl
      rw [hst] at a1
      exact a1
    · rw [h0] at hz hk
      have hS' : va_S A s.heap T'.heap (locs ++ L) := ⟨Nat.le_trans hS.1 (by rw [e1]; exact hz), fun q h1 h2 => by rw [e1, hk q (Nat.lt_of_lt_of_le h1 hS.1) (fun z => h2 (hfree q z))]; exact hS.2.1 q h1 h2, fun q hq => by
          rcases List.mem_append.mp hq with h | h
          · exact hS.2.2 q h
          · exact hfree _ (hL' q h)⟩
      by_cases hE : zx_E below args s
      · have htab := hE m meth c X0.frames X0.method X0.code
        obtain ⟨t2, a1, b1⟩ := vx_out (nc := 0) (ns := 0) (Qc := g_Q Γ Q9 A) (XC := g_XC Γ XP A) (mc := 1) (ms := 6) (free := A) (pc := pc) (ls := ls) (rest := st.map (g_v Γ.2.2.1)) (by rw [htab]; intro x hx; cases hx) F.2.2.2.1 (show T'.heap[q9]? = some ce by rw [e1]; exact hce) hcv hcl9 (fun t3 ht3 _ => ⟨⟨M', kx E M' hx, by rw [ht3, e1]; exact hb⟩, hS'.F ht3⟩) hS'.2.2 (Nat.le_refl _) (Nat.le_refl _) T' rfl X'
        exact ⟨t2, sg.trans a1, fun _ => b1⟩
      · exact ⟨_, Steps.refl _, fun h => absurd h hE⟩
theorem g_callXv0 {idx d' i ci : Nat} {C : String} {y : MethodName} {μ' : gY} {t : gT} {P : gM → Prop} {XPc : String → gM → Prop} (hd : decode μ.1 pc = .ok (.invokevirtual idx, 3)) (hq : pc + 3 = q) (hv : g_VL μ.2.1 idx C y μ' 0) (ho : g_o Γ i (.inl (ci, t))) (hci : (vwCl[ci]?).map (fun r => r.1) = some C) (hc : CtX Γ y μ' d' [.ref i] M (g_qv P) XPc) (hR : d' + 9 ≤ R.frames ∧ 200 + 50 * d' ≤ R.locals ∧ 1 ≤ R.cells ∧ 6 ≤ R.slots) (hst : (st.map fun v => v.category).sum ≤ 8) (kx : ∀ (E : String) (M' : gM), XPc E M' → XP E M') (k : ∀ (M' : gM), P M' → G Γ μ R (0, 0) (g_ZX Γ Q9 XP) q lv st M') : G Γ μ R (0, 0) (g_ZX Γ Q9 XP) pc lv (.ref i :: st) M := by
  subst hq
  exact g_callX (As := []) hd hv rfl ho hci hc hR hst kx (fun v M' h => by obtain ⟨rfl, h⟩ := h; exact k M' h)
theorem g_callXv1 {idx d' i ci : Nat} {C : String} {y : MethodName} {μ' : gY} {v1 : Value} {t : gT} {P : gM → Prop} {XPc : String → gM → Prop} (hd : decode μ.1 pc = .ok (.invokevirtual idx, 3)) (hq : pc + 3 = q) (hv : g_VL μ.2.1 idx C y μ' 1) (ho : g_o Γ i (.inl (ci, t))) (hci : (vwCl[ci]?).map (fun r => r.1) = some C) (hc : CtX Γ y μ' d' [.ref i, v1] M (g_qv P) XPc) (hR : d' + 9 ≤ R.frames ∧ 200 + 50 * d' ≤ R.locals ∧ 1 ≤ R.cells ∧ 6 ≤ R.slots) (hst : (st.map fun v => v.category).sum ≤ 8) (kx : ∀ (E : String) (M' : gM), XPc E M' → XP E M') (k : ∀ (M' : gM), P M' → G Γ μ R (0, 0) (g_ZX Γ Q9 XP) q lv st M') : G Γ μ R (0, 0) (g_ZX Γ Q9 XP) pc lv (v1 :: .ref i :: st) M := by
  subst hq
  exact g_callX (As := [v1]) hd hv rfl ho hci hc hR hst kx (fun v M' h => by obtain ⟨rfl, h⟩ := h; exact k M' h)
theorem g_callXv2 {idx d' i ci : Nat} {C : String} {y : MethodName} {μ' : gY} {v1 v2 : Value} {t : gT} {P : gM → Prop} {XPc : String → gM → Prop} (hd : decode μ.1 pc = .ok (.invokevirtual idx, 3)) (hq : pc + 3 = q) (hv : g_VL μ.2.1 idx C y μ' 2) (ho : g_o Γ i (.inl (ci, t))) (hci : (vwCl[ci]?).map (fun r => r.1) = some C) (hc : CtX Γ y μ' d' [.ref i, v1, v2] M (g_qv P) XPc) (hR : d' + 9 ≤ R.frames ∧ 200 + 50 * d' ≤ R.locals ∧ 1 ≤ R.cells ∧ 6 ≤ R.slots) (hst : (st.map fun v => v.category).sum ≤ 8) (kx : ∀ (E : String) (M' : gM), XPc E M' → XP E M') (k : ∀ (M' : gM), P M' → G Γ μ R (0, 0) (g_ZX Γ Q9 XP) q lv st M') : G Γ μ R (0, 0) (g_ZX Γ Q9 XP) pc lv (v2 :: v1 :: .ref i :: st) M := by
  subst hq
  exact g_callX (As := [v1, v2]) hd hv rfl ho hci hc hR hst kx (fun v M' h => by obtain ⟨rfl, h⟩ := h; exact k M' h)
theorem zx_decl {args : Array Value} {s : State} {x : MethodName} {b : ByteArray} {m : Nat} {ret : Option FieldType} (hi : (Cond.instanceMethod x).before args s = true) (hc : (Cond.code x b m ret).before args s = true) : (Cond.declares x).before args s = true := by
  obtain ⟨r0, r, hn, hrm, hst, hsig⟩ := va_Decl.of hi hc
  simp [Cond.before, Cond.holds, Cond.value, hn, hrm, hst, hsig]
theorem zx_self {args : Array Value} {s : State} {cls : String} {n : Nat} (h : (Cond.instantiable cls n).before args s = true) : (Cond.castable cls cls).before args s = true := by
  obtain ⟨c, k, h1, -⟩ := Cond.instantiable_spec h
  have h2 : s.vm.assignable c c = true := by rw [Vm.assignable, show (256 : Nat) = 255 + 1 from rfl, Vm.assignableAux, beq_self_eq_true, Bool.true_or]
  simp [Cond.before, Cond.holds, Cond.value, h1, h2]
/-- the words of 'throw new cls()' in own, by its pool's entries -/
def g_THl (own : String) (ik ic : Nat) (cls : String) : List Cond := Cond.classLink own ik cls :: Cond.initialized cls :: vx_at0 own ic cls ["java/lang/RuntimeException", "java/lang/Exception"]
def g_THb (cls : String) : List Cond := [.declares (Bundle.init0 "java/lang/RuntimeException"), .declares (Bundle.init0 "java/lang/Exception"), .declares (Bundle.init0 Bundle.tN), .castable cls cls]
def g_THc : List Cond := [.instanceMethod (Bundle.init0 "java/lang/RuntimeException"), .code (Bundle.init0 "java/lang/RuntimeException") Bundle.five 1 none, .instanceMethod (Bundle.init0 "java/lang/Exception"), .code (Bundle.init0 "java/lang/Exception") Bundle.five 1 none, .instanceMethod (Bundle.init0 Bundle.tN), .code (Bundle.init0 Bundle.tN) LibCode.Throwable.Init0.code 1 none]
def g_TH (own : String) (ik ic : Nat) (cls : String) : Prop := Bundle.fit cls = true ∧ (∀ w ∈ (g_THl own ik ic cls).filter goodWord, w ∈ g_UW) ∧ (∀ w ∈ (g_THl own ik ic cls).filter (fun w => !goodWord w), w ∈ g_THb cls) ∧ (∀ w ∈ g_THl own ik ic cls, vx_ot w = true) ∧ (∀ w ∈ g_THc, w ∈ g_UW) ∧ Cond.instantiable cls 6 ∈ g_UW
theorem g_TH.at {own : String} {ik ic : Nat} {cls : String} {args : Array Value} {s : State} (h : g_TH own ik ic cls) (hts : ∀ w ∈ g_UW, w.before args s = true) : ∀ w ∈ g_THl own ik ic cls, w.before args s = true := by
  obtain ⟨-, h1, h2, -, h3, h4⟩ := h
  have q : ∀ w ∈ g_THc, w.before args s = true := fun w hw => hts w (h3 w hw)
  refine vx_hat (fun w hw => hts w (h1 w hw)) h2 (vx_c ?_ (vx_c ?_ (vx_c ?_ (vx_c (zx_self (hts _ h4)) vx_n))))
  · exact zx_decl (q _ (by simp [g_THc])) (q (.code (Bundle.init0 "java/lang/RuntimeException") Bundle.five 1 none) (by simp [g_THc]))
  · exact zx_decl (q _ (by simp [g_THc])) (q (.code (Bundle.init0 "java/lang/Exception") Bundle.five 1 none) (by simp [g_THc]))
  · exact zx_decl (q _ (by simp [g_THc])) (q (.code (Bundle.init0 Bundle.tN) LibCode.Throwable.Init0.code 1 none) (by simp [g_THc]))
theorem g_fitN : ∀ n ∈ ["java/lang/RuntimeException", "java/lang/Exception"], Bundle.fit n = true := by decide +kernel
theorem g_throw {ik ic p3 p4 p7 : Nat} {cls : String} (hw : g_TH μ.2.1 ik ic cls) (d0 : decode μ.1 pc = .ok (.new ik, 3)) (d3 : decode μ.1 p3 = .ok (.dup, 1)) (d4 : decode μ.1 p4 = .ok (.invokespecial ic, 3)) (d7 : decode μ.1 p7 = .ok (.athrow, 1)) (e3 : p3 = pc + 3) (e4 : p4 = pc + 4) (e7 : p7 = pc + 7)
    (hR : 7 ≤ R.frames ∧ 100 ≤ R.locals ∧ 1 ≤ R.cells ∧ 6 ≤ R.slots) (hst : (st.map fun v => v.category).sum ≤ 8) (hx : XP cls M) : G Γ μ R (0, 0) (g_ZX Γ Q9 XP) pc lv st M := by
  subst e3; subst e4; subst e7
  intro p l e s m args below meth c H locs A ls F X
  have hcat : ((st.map (g_v Γ.2.2.1)).map fun v => v.category) = st.map fun v => v.category := by
    rw [List.map_map]; exact List.map_congr_left fun v _ => g_cat v
  have hat := hw.at F.2.2.2.2.2.2.1
  have hKH := F.2.2.2.2.2.2.2.2.2.2.2
  obtain ⟨hP, hD, hS, hL⟩ := X
  intro T hT X0
  by_cases hE : zx_E below args s
  · have htab := hE m meth c X0.frames X0.method X0.code
    obtain ⟨t2, a1, b1⟩ := vx_throw0 (nc := 0) (ns := 0) (Qc := g_Q Γ Q9 A) (XC := g_XC Γ XP A) (mc := 1) (ms := 6) (free := A) (A := A) (names := ["java/lang/RuntimeException", "java/lang/Exception"]) (rest := st.map (g_v Γ.2.2.1)) (below := below) (meth := meth) F.1 F.2.1 l.2 F.2.2.2.2.2.1 hw.1 g_fitN (hat _ List.mem_cons_self) (hat _ (List.mem_cons_of_mem _ List.mem_cons_self)) (fun w h => hat w (List.mem_cons_of_mem _ (List.mem_cons_of_mem _ h))) hw.2.2.2.1 ⟨hKH.2.2.1.1, hKH.2.2.1.2⟩ ⟨hKH.2.2.2.1, hKH.2.2.2.2⟩ hS (by rw [F.2.2.2.2.1]; exact hL.1) d0 d3 d4 d7 (by rw [htab]; intro x hx; cases hx) (by show 2 + 3 < _; have := hR.1; omega) (by rw [hcat]; show _ + (13 * (2 + 1) + 42) ≤ _; have := hR.2.1; omega) (by have := hR.2.2.1; omega) (by have := hR.2.2.2; omega) F.2.2.2.1
      (fun t3 _ hz hk => ⟨⟨M, hx, hP.kept (fun k q hq => hk q.1 (hP k q hq).lt)⟩, Nat.le_trans hS.1 hz, fun q h1 h2 => by rw [hk q (Nat.lt_of_lt_of_le h1 hS.1)]; exact hS.2.1 q h1 h2⟩) hS.2.2 (Nat.le_refl _) (Nat.le_refl _) T hT X0
    exact ⟨t2, a1, fun _ => b1⟩
  · exact ⟨_, Steps.refl _, fun h => absurd h hE⟩
end GX
