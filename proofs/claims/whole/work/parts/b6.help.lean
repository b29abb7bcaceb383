/-! methods with a table of handlers -/
abbrev nIAE : String := "java/lang/IllegalArgumentException"
abbrev nNSE : String := "java/util/NoSuchElementException"
def PXL (U : State) : Prop := PXN U ∧ va_Nc nIAE nNSE U
theorem PXL.w {u U : State} (hW : u.WarmedH U.vm) (h : PXL u) : PXL U := ⟨h.1.w hW, va_Nc.moved hW.alike h.2⟩
theorem PXL.b {u U : State} (hW : u.vm = U.vm) (h : PXL u) : PXL U := ⟨h.1.b hW, va_Nc.moved (by rw [hW]; exact Vm.Alike.refl _) h.2⟩
def g_QG (Q : gW → Option Value → gM → Prop) (A : Nat → Prop) : Array Value → State → Outcome → State → Prop := fun _ st oc t => (∃ (Γ' : gW) (v : Option Value) (M' : gM), oc = .returned (v.map (g_v Γ'.2.2.1)) ∧ Q Γ' v M' ∧ va_P Γ'.1 vwCl (g_ws Γ' M') t.heap ∧ va_D A (g_ws Γ' M')) ∧ va_F A st t
abbrev gHH : Type := List (Nat × Nat × Nat × Nat)
def zx_T (hh : gHH) (below : List Frame) (args : Array Value) (s : State) : Prop := ∀ (m : MethodId) (meth : Method) (c : Code), s.frames = .invoking m args :: below → s.vm.method? m = some meth → meth.code = some c → c.exceptionTable.toList = tableOf hh
def g_ZW (hh : gHH) (Q : gW → Option Value → gM → Prop) (mc ms : Nat) : gZ := fun below args s A t => zx_T hh below args s ∧ PXL s → MQ below (g_QG Q A) args s mc ms A t
def CtL (Γ : gW) (y : MethodName) (μ : gY) (hh : gHH) (d mc ms : Nat) (av : List Value) (M : gM) (Q : gW → Option Value → gM → Prop) : Prop :=
  ∀ (l : gLn) (sz : Nat), Met l.1 y (.codeWith y μ.1 μ.2.2.1 μ.2.2.2 hh :: g_UW) (g_RN d mc ms) (va_Pc (av.map (g_v Γ.2.2.1)) (fun U => g_pre Γ M sz U ∧ PXL U)) (g_QG Q (va_A (g_ws Γ M) sz)) mc ms (va_A (g_ws Γ M) sz)
theorem g_enterL {Γ : gW} {y : MethodName} {μ : gY} {hh : gHH} {d mc ms : Nat} {av : List Value} {M : gM} {Q : gW → Option Value → gM → Prop} (hy : plainName y.cls = true) (ho : μ.2.1 = y.cls) (hav : av.all (fun v => v.category == 1) = true) (hlen : av.length ≤ μ.2.2.1) (h : G Γ μ (g_RN d mc ms) (0, 0) (g_ZW hh Q mc ms) 0 (av.map some ++ List.replicate (μ.2.2.1 - av.length) none) [] M) : CtL Γ y μ hh d mc ms av M Q := by
  intro l sz
  have hcat : ∀ v ∈ av.map (g_v Γ.2.2.1), v.category = 1 := by
    intro v hv
    obtain ⟨w, hw, rfl⟩ := List.mem_map.mp hv
    rw [g_cat]
    have := List.all_eq_true.mp hav w hw
    simpa using this
  refine va_MetW (cc := μ.1) (maxL := μ.2.2.1) (ret := μ.2.2.2) (hh := hh) hy rfl ?_
  intro p e s m args below meth c s₁ B hml hv
  obtain ⟨rfl, ⟨hsz, hP, hK, hD0, hKH⟩, hPX⟩ := hv
  have hts := atoms_spec (ws := .codeWith y μ.1 μ.2.2.1 μ.2.2.2 hh :: g_UW) B.pre
  have htab := vx_table (x := y) B (hts _ List.mem_cons_self)
  have hl := lv_entry (av.map (g_v Γ.2.2.1)) (n := μ.2.2.1) (by rw [g_sl_len hcat, List.length_map]; exact hlen)
  rw [lg_entry_eq]
  generalize (lg_sl (av.map (g_v Γ.2.2.1)) ++ List.replicate (μ.2.2.1 - (lg_sl (av.map (g_v Γ.2.2.1))).length) Slot.unset).toArray = ls at hl ⊢
  subst hsz
  intro T hT X
  have hE : zx_T hh below (av.map (g_v Γ.2.2.1)).toArray s := by
    intro m' meth' c' h1 h2 h3
    have h4 := h1.symm.trans X.frames
    cases h4
    cases Option.some.inj (h2.symm.trans X.method)
    cases Option.some.inj (h3.symm.trans X.code)
    exact htab
  obtain ⟨t, a1, b1⟩ := h p l e s m _ below meth c s.heap [] (va_A (g_ws Γ M) s.heap.size) ls ⟨B.exec, B.bytes, B.returns, B.notSynchronized, hml, by rw [ho]; exact findClass_of_methodNamed B.named, fun w hw => hts w (List.mem_cons_of_mem _ hw), hK, fun q hq => Or.inr hq, Nat.zero_le _, Nat.zero_le _, hKH⟩ ⟨hP, hD0.self, va_S.rf, hl.1, hl.2.1, by simp; omega, fun k v hk => by
      have hk2 : av[k]? = some v := by
        by_cases hka : k < av.length
        · rw [List.getElem?_append_left (by simpa using hka)] at hk
          simpa using hk
        · rw [List.getElem?_append_right (by simpa using hka)] at hk
          have := List.eq_of_mem_replicate (List.mem_of_getElem? hk)
          cases this
      have := g_lv_args hcat 0 k (g_v Γ.2.2.1 v) (by simp [hk2])
      rw [Nat.zero_add] at this
      exact hl.2.2 _ this⟩ T hT X
  exact ⟨t, a1, b1 ⟨hE, hPX⟩⟩
/-- a throw of E at pc is caught by a handler that answers k -/
def g_CA (μ : gY) (hh : gHH) (pc : Nat) (E : String) (k : Int32) : Prop := ∃ (pre suf : List ExceptionTableEntry) (x : ExceptionTableEntry) (kI : Int), tableOf hh = pre ++ x :: suf ∧ (∀ z ∈ pre, covers z pc = false ∨ (z.catchType ≠ 0 ∧ Cond.classLink μ.2.1 z.catchType nNSE ∈ g_UW ∧ E = nIAE)) ∧ covers x pc = true ∧ x.catchType ≠ 0 ∧ Cond.classLink μ.2.1 x.catchType E ∈ g_UW ∧ Cond.instantiable E 6 ∈ g_UW ∧ Int32.ofInt kI = k ∧ μ.2.2.2 = some .int ∧
  ((∃ j : Fin 4, (j : Nat) < μ.2.2.1 ∧ decode μ.1 x.handlerPc = .ok (.astore_n j, 1) ∧ decode μ.1 (x.handlerPc + 1) = .ok (.iconst kI, 1) ∧ decode μ.1 (x.handlerPc + 1 + 1) = .ok (.ireturn, 1)) ∨
   (∃ j : Nat, j < μ.2.2.1 ∧ decode μ.1 x.handlerPc = .ok (.astore j, 2) ∧ decode μ.1 (x.handlerPc + 2) = .ok (.iconst kI, 1) ∧ decode μ.1 (x.handlerPc + 2 + 1) = .ok (.ireturn, 1)))
section GW2
variable {Γ : gW} {μ : gY} {R : Room} {kn : Nat × Nat} {pc q : Nat} {lv : List (Option Value)} {st : List Value} {M : gM} {hh : gHH} {Q9 : gW → Option Value → gM → Prop} {mc ms : Nat}
theorem g_iretG {x : Int32} (hd : decode μ.1 pc = .ok (.ireturn, 1)) (hr : μ.2.2.2 = some .int) (hk : kn.1 ≤ mc ∧ kn.2 ≤ ms) (hQ : Q9 Γ (some (.int x)) M) : G Γ μ R kn (g_ZW hh Q9 mc ms) pc lv [.int x] M := by
  intro p l e s m args below meth c H locs A ls F X T hT X0
  obtain ⟨t, a, b⟩ := W.widen (k := mc) (n := ms) hk.1 hk.2 (W.iret (Qc := g_QG Q9 A) (free := A) F.1 F.2.1 (by rw [F.2.2.1, hr]) (fun t ht hW => ⟨⟨Γ, some (.int x), M, rfl, hQ, by rw [ht]; exact X.1, X.2.1⟩, X.2.2.1.F ht⟩) X.2.2.1.2.2 hd F.2.2.2.1) T hT X0
  exact ⟨t, a, fun _ => b⟩
/-- the handler's three instructions, from the exception on the stack -/
theorem g_hand {p : Program} {l : gLn} {e : Env} {s : State} {m : MethodId} {args : Array Value} {below : List Frame} {meth : Method} {c : Code} {H : Heap} {locs : List Loc} {A : Nat → Prop} {ls : Array Slot} {E : String} {k : Int32} {qa : Nat} {ce : Cell} {cs sl : Nat} {rest : List Value} (F : g_F Γ μ R kn p s m args meth c A) (X : g_X Γ μ s H locs A ls lv M) (htab : c.exceptionTable.toList = tableOf hh) (hPX : PXL s) (hca : g_CA μ hh pc E k) (hce : H[qa]? = some ce) (hcv : ce.vm = .none) (hcl : s.vm.findClass E = some ce.cls) (hk : cs ≤ mc ∧ sl ≤ ms) (hQ : Q9 Γ (some (.int k)) M) : vx_W p l.1 e R s m args below meth c H locs cs sl (MQ below (g_QG Q9 A) args s mc ms A) (F0 m pc ls rest) qa := by
  obtain ⟨pre, suf, x, kI, h1, h2, h3, h4, h5, h6, h7, h8, h9⟩ := hca
  have hts := F.2.2.2.2.2.2.1
  refine vx_catch (own := μ.2.1) (name := E) (E := E) F.2.2.2.2.2.1 pre x suf (htab.trans h1) (fun z hz => ?_) h3 h4 (hts _ h5) (zx_self (hts _ h6)) hce hcv hcl ?_
  · rcases h2 z hz with g | ⟨g1, g2, g3⟩
    · exact Or.inl g
    · exact Or.inr ⟨g1, nNSE, hts _ g2, g3 ▸ hPX.2⟩
  · have fin : ∀ (ls' : Array Slot) (pc9 : Nat), decode μ.1 pc9 = .ok (.iconst kI, 1) → decode μ.1 (pc9 + 1) = .ok (.ireturn, 1) → W p l.1 e R s m args below meth c H locs cs sl (MQ below (g_QG Q9 A) args s mc ms A) (F0 m pc9 ls' []) := fun ls' pc9 d1 d2 => by
      refine W.widen (k := mc) (n := ms) hk.1 hk.2 (lv_iconst F.1 F.2.1 d1 h7 ?_)
      exact W.iret F.1 F.2.1 (by rw [F.2.2.1, h8]) (fun t ht hW => ⟨⟨Γ, some (.int k), M, rfl, hQ, by rw [ht]; exact X.1, X.2.1⟩, X.2.2.1.F ht⟩) X.2.2.1.2.2 d2 F.2.2.2.1
    rcases h9 with ⟨j, j1, j2, j3, j4⟩ | ⟨j, j1, j2, j3, j4⟩
    · exact lv_astore_n F.1 F.2.1 j2 rfl (g_L_has X.2.2.2) j1 rfl (fun ls' hl => fin ls' _ j3 j4)
    · exact lv_astore F.1 F.2.1 j2 (g_L_has X.2.2.2) j1 rfl (fun ls' hl => fin ls' _ j3 j4)
theorem g_callWX {idx n d' i ci : Nat} {C : String} {y : MethodName} {μ' : gY} {As : List Value} {t : gT} {Q : Option Value → gM → Prop} {XPc : String → gM → Prop} (hd : decode μ.1 pc = .ok (.invokevirtual idx, 3)) (hv : g_VL μ.2.1 idx C y μ' n) (hn : As.length = n) (ho : g_o Γ i (.inl (ci, t))) (hci : (vwCl[ci]?).map (fun r => r.1) = some C)
    (hc : CtX Γ y μ' d' (.ref i :: As) M Q XPc) (hR : d' + 9 ≤ R.frames ∧ 200 + 50 * d' ≤ R.locals ∧ 1 ≤ R.cells ∧ 6 ≤ R.slots) (hst : (st.map fun v => v.category).sum ≤ 8) (hms : 1 ≤ mc ∧ 6 ≤ ms) (kx : ∀ (E : String) (M' : gM), XPc E M' → ∃ k : Int32, g_CA μ hh pc E k ∧ Q9 Γ (some (.int k)) M')
    (k : ∀ (v : Option Value) (M' : gM), Q v M' → G Γ μ R (0, 0) (g_ZW hh Q9 mc ms) (pc + 3) lv (v.toList ++ st) M') : G Γ μ R (0, 0) (g_ZW hh Q9 mc ms) pc lv (As.reverse ++ .ref i :: st) M := by
  intro p l e s m args below meth c H locs A ls F X
  have hcat : ((st.map (g_v Γ.2.2.1)).map fun v => v.category) = st.map fun v => v.category := by
    rw [List.map_map]; exact List.map_congr_left fun v _ => g_cat v
  obtain ⟨q0, h1, h2⟩ := g_ws_at (M := M) ho.1
  rw [g_E_obj ho.2] at h2
  cases hcl : vwCl[ci]? with
  | none => rw [hcl] at hci; cases hci
  | some r =>
    rw [hcl] at hci
    simp only [Option.map_some, Option.some.injEq] at hci
    subst hci
    have hr := vx_runV (locs := locs) (cells := 0) (slots := 0) (below := below) (e := e) (meth := meth) (As := As.map (g_v Γ.2.2.1)) (rest := st.map (g_v Γ.2.2.1)) (g := F0 m pc ls ((As.reverse ++ .ref i :: st).map (g_v Γ.2.2.1))) ⟨F.1, F.2.1, F.2.2.2.2.1, F.2.2.2.2.2.1, F.2.2.2.2.2.2.1⟩ (hc l H.size) (cwV n F.2.2.2.2.2.2.1 (g_goodV hv.1) rfl rfl rfl hv.2.1 ⟨by show d' + 8 + 1 ≤ _; exact hR.1, by show _ + (150 + 50 * d') ≤ _; have := hv.2.2; have := hR.2.1; omega⟩)
      ⟨g_blind, va_recv F.2.2.2.2.2.2.2.1 X.1 hcl h2, fun U hU hW => ⟨rfl, by rw [hU], by rw [hU]; exact X.1, va_K.moved hW.alike F.2.2.2.2.2.2.2.1, X.2.1.weaken (fun _ _ _ _ => trivial), g_KHc F X hU hW⟩⟩
      rfl (by rw [List.length_map]; exact hn) X.2.2.2.1 (by show List.map _ _ = _; rw [List.map_append, List.map_cons, List.map_reverse]; rfl) (lv_room (by rw [hcat]; exact hst)) hd ⟨by have := hR.2.2.1; omega, by have := hR.2.2.2; omega⟩
    intro T hT X0
    obtain ⟨hP, hD, hS, hL⟩ := X
    have hA := F.2.2.2.2.2.2.2.2.1
    have hfree : ∀ q, va_A (g_ws Γ M) H.size q → A q := fun q hq => by
      rcases hq with ⟨k0, e0, h⟩ | h
      · exact hD.2 k0 _ h
      · exact hA q (Nat.le_trans hS.1 h)
    rcases hr T hT X0 with ⟨v, st₀, t, T', L, h0, X', hL', e1, e2, ⟨⟨w, M', hv, hq, hb⟩, hz, hk⟩, sg⟩ | ⟨q9, st₀, t, T', L, E, ce, h0, X', hL', e1, e2, ⟨⟨M', hx, hb⟩, hz, hk⟩, hce, hcv, hcl9, sg⟩
    · rw [h0] at hz hk
      have hv2 : v = w.map (g_v Γ.2.2.1) := by simpa using hv
      have hS' : va_S A s.heap T'.heap (locs ++ L) := ⟨Nat.le_trans hS.1 (by rw [e1]; exact hz), fun q h1 h2 => by rw [e1, hk q (Nat.lt_of_lt_of_le h1 hS.1) (fun z => h2 (hfree q z))]; exact hS.2.1 q h1 h2, fun q hq => by
          rcases List.mem_append.mp hq with h | h
          · exact hS.2.2 q h
          · exact hfree _ (hL' q h)⟩
      obtain ⟨t2, a1, b1⟩ := k w M' hq p l e s m args below meth c T'.heap (locs ++ L) A ls F ⟨by rw [e1]; exact hb, g_D_any hD, hS', hL⟩ T' rfl X'
      refine ⟨t2, sg t2 ?_, b1⟩
      have hst : (w.toList ++ st).map (g_v Γ.2.2.1) = v.toList ++ st.map (g_v Γ.2.2.1) := by
        rw [List.map_append, hv2]
        cases w <;> rfl
      rw [hst] at a1
      exact a1
    · rw [h0] at hz hk
      have hS' : va_S A s.heap T'.heap (locs ++ L) := ⟨Nat.le_trans hS.1 (by rw [e1]; exact hz), fun q h1 h2 => by rw [e1, hk q (Nat.lt_of_lt_of_le h1 hS.1) (fun z => h2 (hfree q z))]; exact hS.2.1 q h1 h2, fun q hq => by
          rcases List.mem_append.mp hq with h | h
          · exact hS.2.2 q h
          · exact hfree _ (hL' q h)⟩
      by_cases hE : zx_T hh below args s ∧ PXL s
      · obtain ⟨k9, c1, c2⟩ := kx E M' hx
        obtain ⟨t2, a1, b1⟩ := g_hand (M := M') (kn := (0, 0)) (mc := mc) (ms := ms) (Q9 := Q9) (l := l) (below := below) (e := e) (cs := 0 + 1) (sl := 0 + 6) (rest := st.map (g_v Γ.2.2.1)) F ⟨by rw [e1]; exact hb, g_D_any hD, hS', hL⟩ (hE.1 m meth c X0.frames X0.method X0.code) hE.2 c1 (show T'.heap[q9]? = some ce by rw [e1]; exact hce) hcv hcl9 ⟨by omega, by omega⟩ c2 T' rfl X'
        exact ⟨t2, sg.trans a1, fun _ => b1⟩
      · exact ⟨_, Steps.refl _, fun h => absurd h hE⟩
end GW2
