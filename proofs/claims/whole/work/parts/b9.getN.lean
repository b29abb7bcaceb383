/-! a method that returns, throws, or makes objects -/
def g_ZY (Γ : gW) (Q : gW → Option Value → gM → Prop) (XP : String → gM → Prop) (mc ms : Nat) : gZ := fun below args s A t => zx_E below args s ∧ PXN s → vx_MQ below (g_QG Q A) (g_XC Γ XP A) args s mc ms mc ms A t
def CtY (Γ : gW) (y : MethodName) (μ : gY) (d mc ms : Nat) (av : List Value) (M : gM) (Q : gW → Option Value → gM → Prop) (XP : String → gM → Prop) : Prop :=
  ∀ (l : gLn) (sz : Nat), vx_Met l.1 y (.code y μ.1 μ.2.2.1 μ.2.2.2 :: g_UW) (g_RN d mc ms) (va_Pc (av.map (g_v Γ.2.2.1)) (fun U => g_pre Γ M sz U ∧ PXN U)) (g_QG Q (va_A (g_ws Γ M) sz)) (g_XC Γ XP (va_A (g_ws Γ M) sz)) mc ms mc ms (va_A (g_ws Γ M) sz)
theorem g_enterY {Γ : gW} {y : MethodName} {μ : gY} {d mc ms : Nat} {av : List Value} {M : gM} {Q : gW → Option Value → gM → Prop} {XP : String → gM → Prop} (hy : plainName y.cls = true) (ho : μ.2.1 = y.cls) (hav : av.all (fun v => v.category == 1) = true) (hlen : av.length ≤ μ.2.2.1) (h : G Γ μ (g_RN d mc ms) (0, 0) (g_ZY Γ Q XP mc ms) 0 (av.map some ++ List.replicate (μ.2.2.1 - av.length) none) [] M) : CtY Γ y μ d mc ms av M Q XP := by
  intro l sz
  have hcat : ∀ v ∈ av.map (g_v Γ.2.2.1), v.category = 1 := by
    intro v hv
    obtain ⟨w, hw, rfl⟩ := List.mem_map.mp hv
    rw [g_cat]
    have := List.all_eq_true.mp hav w hw
    simpa using this
  refine vx_ofW (cc := μ.1) (maxL := μ.2.2.1) (ret := μ.2.2.2) hy rfl ?_
  intro p e s m args below meth c s₁ B hml ht hv
  obtain ⟨rfl, ⟨hsz, hP, hK, hD0, hKH⟩, hPX⟩ := hv
  have hts := atoms_spec (ws := .code y μ.1 μ.2.2.1 μ.2.2.2 :: g_UW) B.pre
  have hl := lv_entry (av.map (g_v Γ.2.2.1)) (n := μ.2.2.1) (by rw [g_sl_len hcat, List.length_map]; exact hlen)
  rw [lg_entry_eq]
  generalize (lg_sl (av.map (g_v Γ.2.2.1)) ++ List.replicate (μ.2.2.1 - (lg_sl (av.map (g_v Γ.2.2.1))).length) Slot.unset).toArray = ls at hl ⊢
  subst hsz
  intro T hT X
  have hE : zx_E below (av.map (g_v Γ.2.2.1)).toArray s := by
    intro m' meth' c' h1 h2 h3
    have h4 := h1.symm.trans X.frames
    cases h4
    cases Option.some.inj (h2.symm.trans X.method)
    cases Option.some.inj (h3.symm.trans X.code)
    exact List.eq_nil_iff_forall_not_mem.mpr (fun x hx => ht x hx)
  obtain ⟨t, a1, b1⟩ := h p l e s m _ below meth c s.heap [] (va_A (g_ws Γ M) s.heap.size) ls ⟨B.exec, B.bytes, B.returns, B.notSynchronized, hml, by rw [ho]; exact findClass_of_methodNamed B.named, fun w hw => hts w (List.mem_cons_of_mem _ hw), hK, fun q hq => Or.inr hq, Nat.zero_le _, Nat.zero_le _, hKH⟩ ⟨hP, hD0.self, va_S.rf, hl.1, hl.2.1, by simp; omega, fun k v hk => by
      have hk2 : av[k]? = some v := by
        by_cases hka : k < av.length
        · rw [List.getElem?_append_left (by simpa using hka)] at hk
          simpa using hk
        · rw [List.getElem?_append_right (by simpa using hka)] at hk
          have := List.eq_of_mem_replicate (List.mem_of_getElem? hk)
          cases this
      have := g_lv_args hcat 0 k (g_v Γ.2.2.1 v) (by simp [hk2])
      rw [Nat.zero_add] at this
      exact hl.2.2 _ this⟩ T hT X
  exact ⟨t, a1, b1 ⟨hE, hPX⟩⟩
section GY
variable {Γ Γ9 : gW} {μ : gY} {R : Room} {kn : Nat × Nat} {pc q : Nat} {lv : List (Option Value)} {st : List Value} {M : gM} {hh : gHH} {Q9 : gW → Option Value → gM → Prop} {XP : String → gM → Prop} {mc ms : Nat}
theorem g_iretY {x : Int32} (hd : decode μ.1 pc = .ok (.ireturn, 1)) (hr : μ.2.2.2 = some .int) (hk : kn.1 ≤ mc ∧ kn.2 ≤ ms) (hQ : Q9 Γ (some (.int x)) M) : G Γ μ R kn (g_ZY Γ9 Q9 XP mc ms) pc lv [.int x] M := by
  intro p l e s m args below meth c H locs A ls F X T hT X0
  obtain ⟨t, a, b⟩ := W.widen (k := mc) (n := ms) hk.1 hk.2 (vx_ret (XC := g_XC Γ9 XP A) (mc := mc) (ms := ms) (W.iret (Qc := g_QG Q9 A) (free := A) F.1 F.2.1 (by rw [F.2.2.1, hr]) (fun t ht hW => ⟨⟨Γ, some (.int x), M, rfl, hQ, by rw [ht]; exact X.1, X.2.1⟩, X.2.2.1.F ht⟩) X.2.2.1.2.2 hd F.2.2.2.1)) T hT X0
  exact ⟨t, a, fun _ => b⟩
theorem g_callYX {idx n d' i ci : Nat} {C : String} {y : MethodName} {μ' : gY} {As : List Value} {t : gT} {Q : Option Value → gM → Prop} {XPc : String → gM → Prop} (hd : decode μ.1 pc = .ok (.invokevirtual idx, 3)) (hv : g_VL μ.2.1 idx C y μ' n) (hn : As.length = n) (ho : g_o Γ i (.inl (ci, t))) (hci : (vwCl[ci]?).map (fun r => r.1) = some C)
    (hc : CtX Γ y μ' d' (.ref i :: As) M Q XPc) (hR : d' + 9 ≤ R.frames ∧ 200 + 50 * d' ≤ R.locals ∧ 1 ≤ R.cells ∧ 6 ≤ R.slots) (hst : (st.map fun v => v.category).sum ≤ 8) (hms : 1 ≤ mc ∧ 6 ≤ ms) (kx : ∀ (E : String) (M' : gM), XPc E M' → XP E M')
    (k : ∀ (v : Option Value) (M' : gM), Q v M' → G Γ μ R (0, 0) (g_ZY Γ Q9 XP mc ms) (pc + 3) lv (v.toList ++ st) M') : G Γ μ R (0, 0) (g_ZY Γ Q9 XP mc ms) pc lv (As.reverse ++ .ref i :: st) M := by
  intro p l e s m args below meth c H locs A ls F X
  have hcat : ((st.map (g_v Γ.2.2.1)).map fun v => v.category) = st.map fun v => v.category := by
    rw [List.map_map]; exact List.map_congr_left fun v _ => g_cat v
  obtain ⟨q0, h1, h2⟩ := g_ws_at (M := M) ho.1
  rw [g_E_obj ho.2] at h2
  cases hcl : vwCl[ci]? with
  | none => rw [hcl] at hci; cases hci
  | some r =>
    rw [hcl] at hci
    simp only [Option.map_some, Option.some.injEq] at hci
    subst hci
    have hr := vx_runV (locs := locs) (cells := 0) (slots := 0) (below := below) (e := e) (meth := meth) (As := As.map (g_v Γ.2.2.1)) (rest := st.map (g_v Γ.2.2.1)) (g := F0 m pc ls ((As.reverse ++ .ref i :: st).map (g_v Γ.2.2.1))) ⟨F.1, F.2.1, F.2.2.2.2.1, F.2.2.2.2.2.1, F.2.2.2.2.2.2.1⟩ (hc l H.size) (cwV n F.2.2.2.2.2.2.1 (g_goodV hv.1) rfl rfl rfl hv.2.1 ⟨by show d' + 8 + 1 ≤ _; exact hR.1, by show _ + (150 + 50 * d') ≤ _; have := hv.2.2; have := hR.2.1; omega⟩)
      ⟨g_blind, va_recv F.2.2.2.2.2.2.2.1 X.1 hcl h2, fun U hU hW => ⟨rfl, by rw [hU], by rw [hU]; exact X.1, va_K.moved hW.alike F.2.2.2.2.2.2.2.1, X.2.1.weaken (fun _ _ _ _ => trivial), g_KHc F X hU hW⟩⟩
      rfl (by rw [List.length_map]; exact hn) X.2.2.2.1 (by show List.map _ _ = _; rw [List.map_append, List.map_cons, List.map_reverse]; rfl) (lv_room (by rw [hcat]; exact hst)) hd ⟨by have := hR.2.2.1; omega, by have := hR.2.2.2; omega⟩
    intro T hT X0
    obtain ⟨hP, hD, hS, hL⟩ := X
    have hA := F.2.2.2.2.2.2.2.2.1
    have hfree : ∀ q, va_A (g_ws Γ M) H.size q → A q := fun q hq => by
      rcases hq with ⟨k0, e0, h⟩ | h
      · exact hD.2 k0 _ h
      · exact hA q (Nat.le_trans hS.1 h)
    rcases hr T hT X0 with ⟨v, st₀, t, T', L, h0, X', hL', e1, e2, ⟨⟨w, M', hv, hq, hb⟩, hz, hk⟩, sg⟩ | ⟨q9, st₀, t, T', L, E, ce, h0, X', hL', e1, e2, ⟨⟨M', hx, hb⟩, hz, hk⟩, hce, hcv, hcl9, sg⟩
    · rw [h0] at hz hk
      have hv2 : v = w.map (g_v Γ.2.2.1) := by simpa using hv
      have hS' : va_S A s.heap T'.heap (locs ++ L) := ⟨Nat.le_trans hS.1 (by rw [e1]; exact hz), fun q h1 h2 => by rw [e1, hk q (Nat.lt_of_lt_of_le h1 hS.1) (fun z => h2 (hfree q z))]; exact hS.2.1 q h1 h2, fun q hq => by
          rcases List.mem_append.mp hq with h | h
          · exact hS.2.2 q h
          · exact hfree _ (hL' q h)⟩
      obtain ⟨t2, a1, b1⟩ := k w M' hq p l e s m args below meth c T'.heap (locs ++ L) A ls F ⟨by rw [e1]; exact hb, g_D_any hD, hS', hL⟩ T' rfl X'
      refine ⟨t2, sg t2 ?_, b1⟩
      have hst : (w.toList ++ st).map (g_v Γ.2.2.1) = v.toList ++ st.map (g_v Γ.2.2.1) := by
        rw [List.map_append, hv2]
        cases w <;> rfl
      rw [hst] at a1
      exact a1
    · rw [h0] at hz hk
      have hS' : va_S A s.heap T'.heap (locs ++ L) := ⟨Nat.le_trans hS.1 (by rw [e1]; exact hz), fun q h1 h2 => by rw [e1, hk q (Nat.lt_of_lt_of_le h1 hS.1) (fun z => h2 (hfree q z))]; exact hS.2.1 q h1 h2, fun q hq => by
          rcases List.mem_append.mp hq with h | h
          · exact hS.2.2 q h
          · exact hfree _ (hL' q h)⟩
      by_cases hE : zx_E below args s ∧ PXN s
      · have htab := hE.1 m meth c X0.frames X0.method X0.code
        obtain ⟨t2, a1, b1⟩ := vx_out (nc := mc) (ns := ms) (Qc := g_QG Q9 A) (XC := g_XC Γ XP A) (mc := mc) (ms := ms) (free := A) (pc := pc) (ls := ls) (rest := st.map (g_v Γ.2.2.1)) (by rw [htab]; intro x hx; cases hx) F.2.2.2.1 (show T'.heap[q9]? = some ce by rw [e1]; exact hce) hcv hcl9 (fun t3 ht3 _ => ⟨⟨M', kx E M' hx, by rw [ht3, e1]; exact hb⟩, hS'.F ht3⟩) hS'.2.2 (by omega) (by omega) T' rfl X'
        exact ⟨t2, sg.trans a1, fun _ => b1⟩
      · exact ⟨_, Steps.refl _, fun h => absurd h hE⟩
theorem g_callWY {idx n d' i ci : Nat} {C : String} {y : MethodName} {μ' : gY} {As : List Value} {t : gT} {Q : gW → Option Value → gM → Prop} {L : List (Nat × gSh)} {nc ns : Nat} {XPc : String → gM → Prop} (hd : decode μ.1 pc = .ok (.invokevirtual idx, 3)) (hv : g_VL μ.2.1 idx C y μ' n) (hn : As.length = n) (ho : g_o Γ i (.inl (ci, t))) (hci : (vwCl[ci]?).map (fun r => r.1) = some C)
    (hc : CtY Γ y μ' d' nc ns (.ref i :: As) M Q XPc) (hgd : ∀ Γ' v M', Q Γ' v M' → gD Γ Γ' L) (hL5 : ∀ x ∈ L, x.1 < 599) (hlv : ∀ (k : Nat) (v : Value), lv[k]? = some (some v) → g_rf Γ L v) (hstv : ∀ v ∈ st, g_rf Γ L v) (hR : d' + 9 ≤ R.frames ∧ 200 + 50 * d' ≤ R.locals ∧ nc ≤ R.cells ∧ ns ≤ R.slots) (hst : (st.map fun v => v.category).sum ≤ 8) (hms : nc ≤ mc ∧ ns ≤ ms) (kx : ∀ (E : String) (M' : gM), XPc E M' → ∃ k : Int32, g_CA μ hh pc E k ∧ Q9 Γ (some (.int k)) M')
    (k : ∀ (Γ' : gW) (v : Option Value) (M' : gM), Q Γ' v M' → G Γ' μ R (nc, ns) (g_ZW hh Q9 mc ms) (pc + 3) lv (v.toList ++ st) M') : G Γ μ R (0, 0) (g_ZW hh Q9 mc ms) pc lv (As.reverse ++ .ref i :: st) M := by
  intro p l e s m args below meth c H locs A ls F X T hT X0
  by_cases hE : zx_T hh below args s ∧ PXL s
  rotate_left
  · exact ⟨_, Steps.refl _, fun h => absurd h hE⟩
  have hcat : ((st.map (g_v Γ.2.2.1)).map fun v => v.category) = st.map fun v => v.category := by
    rw [List.map_map]; exact List.map_congr_left fun v _ => g_cat v
  obtain ⟨q0, h1, h2⟩ := g_ws_at (M := M) ho.1
  rw [g_E_obj ho.2] at h2
  cases hcl : vwCl[ci]? with
  | none => rw [hcl] at hci; cases hci
  | some r =>
    rw [hcl] at hci
    simp only [Option.map_some, Option.some.injEq] at hci
    subst hci
    have hr := vx_runV (locs := locs) (cells := 0) (slots := 0) (below := below) (e := e) (meth := meth) (As := As.map (g_v Γ.2.2.1)) (rest := st.map (g_v Γ.2.2.1)) (g := F0 m pc ls ((As.reverse ++ .ref i :: st).map (g_v Γ.2.2.1))) ⟨F.1, F.2.1, F.2.2.2.2.1, F.2.2.2.2.2.1, F.2.2.2.2.2.2.1⟩ (hc l H.size) (cwV n F.2.2.2.2.2.2.1 (g_goodV hv.1) rfl rfl rfl hv.2.1 ⟨by show d' + 8 + 1 ≤ _; exact hR.1, by show _ + (150 + 50 * d') ≤ _; have := hv.2.2; have := hR.2.1; omega⟩)
      ⟨g_preB (fun _ _ => PXN.b), va_recv F.2.2.2.2.2.2.2.1 X.1 hcl h2, fun U hU hW => ⟨rfl, ⟨by rw [hU], by rw [hU]; exact X.1, va_K.moved hW.alike F.2.2.2.2.2.2.2.1, X.2.1.weaken (fun _ _ _ _ => trivial), g_KHc F X hU hW⟩, hE.2.1.w hW⟩⟩
      rfl (by rw [List.length_map]; exact hn) X.2.2.2.1 (by show List.map _ _ = _; rw [List.map_append, List.map_cons, List.map_reverse]; rfl) (lv_room (by rw [hcat]; exact hst)) hd ⟨by have := hR.2.2.1; omega, by have := hR.2.2.2; omega⟩
    obtain ⟨hP, hD, hS, hL⟩ := X
    have hA := F.2.2.2.2.2.2.2.2.1
    have hfree : ∀ q, va_A (g_ws Γ M) H.size q → A q := fun q hq => by
      rcases hq with ⟨k0, e0, h⟩ | h
      · exact hD.2 k0 _ h
      · exact hA q (Nat.le_trans hS.1 h)
    rcases hr T hT X0 with ⟨v, st₀, t, T', L9, h0, X', hL', e1, e2, ⟨⟨Γ', w, M', hv, hq, hb, hdd⟩, hz, hk⟩, sg⟩ | ⟨q9, st₀, t, T', L9, E, ce, h0, X', hL', e1, e2, ⟨⟨M', hx, hb⟩, hz, hk⟩, hce, hcv, hcl9, sg⟩
    · rw [h0] at hz hk
      have hv2 : v = w.map (g_v Γ'.2.2.1) := by simpa using hv
      have hg := hgd Γ' w M' hq
      have hS' : va_S A s.heap T'.heap (locs ++ L9) := ⟨Nat.le_trans hS.1 (by rw [e1]; exact hz), fun q h1 h2 => by rw [e1, hk q (Nat.lt_of_lt_of_le h1 hS.1) (fun z => h2 (hfree q z))]; exact hS.2.1 q h1 h2, fun q hq => by
          rcases List.mem_append.mp hq with h | h
          · exact hS.2.2 q h
          · exact hfree _ (hL' q h)⟩
      have had : ∀ j, 599 ≤ j → Γ'.2.2.1 j = Γ.2.2.1 j := fun j hj => hg.2.2.2.1 j (Or.inl (fun q => by
        obtain ⟨x, hx, rfl⟩ := List.mem_map.mp q
        have := hL5 x hx
        omega))
      have hLg : g_L Γ' ls μ.2.2.1 lv := ⟨hL.1, hL.2.1, hL.2.2.1, fun k v hk => by rw [g_rf_v hg (hlv k v hk)]; exact hL.2.2.2 k v hk⟩
      obtain ⟨t2, a1, b1⟩ := k Γ' w M' hq p l e s m args below meth c T'.heap (locs ++ L9) A ls (F.gr hg.1 hg.2.1 had ⟨hR.2.2.1, hR.2.2.2⟩) ⟨by rw [e1]; exact hb, hdd.weaken (fun _ _ _ h => hfree _ h), hS', hLg⟩ T' rfl (by rw [Nat.zero_add, Nat.zero_add] at X'; exact X')
      refine ⟨t2, sg t2 ?_, b1⟩
      have hst : (w.toList ++ st).map (g_v Γ'.2.2.1) = v.toList ++ st.map (g_v Γ.2.2.1) := by
        rw [List.map_append, hv2, List.map_congr_left (fun v hm => g_rf_v hg (hstv v hm))]
        cases w <;> rfl
      rw [hst] at a1
      exact a1
    · rw [h0] at hz hk
      have hS' : va_S A s.heap T'.heap (locs ++ L9) := ⟨Nat.le_trans hS.1 (by rw [e1]; exact hz), fun q h1 h2 => by rw [e1, hk q (Nat.lt_of_lt_of_le h1 hS.1) (fun z => h2 (hfree q z))]; exact hS.2.1 q h1 h2, fun q hq => by
          rcases List.mem_append.mp hq with h | h
          · exact hS.2.2 q h
          · exact hfree _ (hL' q h)⟩
      obtain ⟨k9, c1, c2⟩ := kx E M' hx
      obtain ⟨t2, a1, b1⟩ := g_hand (M := M') (kn := (0, 0)) (mc := mc) (ms := ms) (Q9 := Q9) (l := l) (below := below) (e := e) (cs := 0 + nc) (sl := 0 + ns) (rest := st.map (g_v Γ.2.2.1)) F ⟨by rw [e1]; exact hb, g_D_any hD, hS', hL⟩ (hE.1 m meth c X0.frames X0.method X0.code) hE.2 c1 (show T'.heap[q9]? = some ce by rw [e1]; exact hce) hcv hcl9 ⟨by omega, by omega⟩ c2 T' rfl X'
      exact ⟨t2, sg.trans a1, fun _ => b1⟩
end GY
