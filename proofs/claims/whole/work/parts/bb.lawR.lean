/-! rows of the law's own frame -/
/-- no address that was told has changed -/
def gE (Γ Γ' : gW) : Prop := Γ'.1 = Γ.1 ∧ Γ'.2.1 = Γ.2.1 ∧ ∀ j, j ∈ Γ.2.2.2.1 ∨ 598 ≤ j → Γ'.2.2.1 j = Γ.2.2.1 j
theorem gE.rf {Γ : gW} : gE Γ Γ := ⟨rfl, rfl, fun _ _ => rfl⟩
theorem gD.e {Γ Γ' : gW} {L : List (Nat × gSh)} (h : gD Γ Γ' L) (hL : L.all (fun x => decide (x.1 < 598)) = true) : gE Γ Γ' := ⟨h.1, h.2.1, fun j hj => by
  rcases hj with q | q
  · exact h.2.2.2.1 j (Or.inr q)
  · refine h.2.2.2.1 j (Or.inl (fun q2 => ?_))
    obtain ⟨x, hx, rfl⟩ := List.mem_map.mp q2
    have := List.all_eq_true.mp hL x hx
    simp only [decide_eq_true_eq] at this
    omega⟩
def g_in (Γ : gW) : Value → Prop
  | .ref a => a ∈ Γ.2.2.2.1 ∨ 598 ≤ a
  | _ => True
theorem g_in_v {Γ Γ' : gW} (h : gE Γ Γ') {v : Value} (hv : g_in Γ v) : g_v Γ'.2.2.1 v = g_v Γ.2.2.1 v := by
  cases v with
  | ref a => show Value.ref (Γ'.2.2.1 a) = Value.ref (Γ.2.2.1 a); rw [h.2.2 a hv]
  | _ => rfl
section GL
variable {Γ : gW} {μ : gY} {R : Room} {kn : Nat × Nat} {Z : gZ} {pc q : Nat} {lv : List (Option Value)} {st : List Value} {M : gM}
theorem g_callL (hZ : ∀ b a s A t, ¬ PXL s → Z b a s A t) {idx d' n mc ms : Nat} {y : MethodName} {μ' : gY} {hh : gHH} {As : List Value} {P : gW → Option Value → gM → Prop} (hd : decode μ.1 pc = .ok (.invokestatic idx, 3)) (hv : g_SLW μ.2.1 idx y μ' hh n) (hn : As.length = n) (hc : CtL Γ y μ' hh d' mc ms As M P) (hgd : ∀ Γ' v M', P Γ' v M' → gE Γ Γ') (hlv : ∀ (k : Nat) (v : Value), lv[k]? = some (some v) → g_in Γ v) (hstv : ∀ v ∈ st, g_in Γ v) (hR : d' + 9 ≤ R.frames ∧ 200 + 50 * d' ≤ R.locals) (hk : kn.1 + mc ≤ R.cells ∧ kn.2 + ms ≤ R.slots) (hst : (st.map fun v => v.category).sum ≤ 8)
    (k : ∀ (Γ' : gW) (v : Option Value) (M' : gM), P Γ' v M' → G Γ' μ R (kn.1 + mc, kn.2 + ms) Z (pc + 3) lv (v.toList ++ st) M') : G Γ μ R kn Z pc lv (As.reverse ++ st) M := by
  refine g_askZ hZ fun p l e s m args below meth c H locs A ls hE F X => ?_
  have hcat : ((st.map (g_v Γ.2.2.1)).map fun v => v.category) = st.map fun v => v.category := by
    rw [List.map_map]; exact List.map_congr_left fun v _ => g_cat v
  have hts := F.2.2.2.2.2.2.1
  have hw := hv.1
  have hgood : GoodIn g_UW (va_wsS μ.2.1 idx y (.codeWith y μ'.1 μ'.2.2.1 μ'.2.2.2 hh :: g_UW)) := g_uw_good (fun w h => by
    simp only [va_wsS, List.mem_append, List.mem_cons, List.not_mem_nil, or_false] at h
    rcases h with h | h | h
    · refine hw w ?_
      simp only [va_wsS, List.mem_append, List.mem_cons, List.not_mem_nil, or_false]
      exact Or.inl h
    · refine hw w ?_
      simp only [va_wsS, List.mem_append, List.mem_cons, List.not_mem_nil, or_false]
      exact Or.inr h
    · exact h)
  have hr := vx_runSW (hh := hh) (locs := locs) (cells := kn.1) (slots := kn.2) (below := below) (e := e) (meth := meth) (n := n) (bytes := μ'.1) (maxL := μ'.2.2.1) (ret := μ'.2.2.2) (As := As.map (g_v Γ.2.2.1)) (rest := st.map (g_v Γ.2.2.1)) (index := idx) (g := F0 m pc ls ((As.reverse ++ st).map (g_v Γ.2.2.1))) ⟨F.1, F.2.1, F.2.2.2.2.1, F.2.2.2.2.2.1, hts⟩ (hc l H.size) (vx_cwSW (ws' := g_UW) n hts hgood rfl rfl rfl hv.2.1 ⟨by show d' + 8 + 1 ≤ _; exact hR.1, by show _ + (150 + 50 * d') ≤ _; have := hv.2.2; have := hR.2; omega⟩)
    ⟨g_preB (fun _ _ => PXL.b), fun U hU hW => ⟨rfl, ⟨by rw [hU], by rw [hU]; exact X.1, va_K.moved hW.alike F.2.2.2.2.2.2.2.1, X.2.1.weaken (fun _ _ _ _ => trivial), g_KHc F X hU hW⟩, hE.w hW⟩⟩
    rfl (by rw [List.length_map]; exact hn) X.2.2.2.1 (by show List.map _ _ = _; rw [List.map_append, List.map_reverse]) (lv_room (by rw [hcat]; exact hst)) hd hk
  intro T hT X0
  obtain ⟨hP, hD, hS, hL⟩ := X
  have hA := F.2.2.2.2.2.2.2.2.1
  obtain ⟨v, st₀, t, T', L', h0, X', hL', e1, e2, ⟨⟨Γ', w9, M', hv9, hp9, hb, hdd⟩, hz, hk9⟩, sg⟩ := hr T hT X0
  rw [h0] at hz hk9
  have hgd := hgd Γ' w9 M' hp9
  have hfree : ∀ q, va_A (g_ws Γ M) H.size q → A q := fun q hq => by
    rcases hq with ⟨k0, e0, h⟩ | h
    · exact hD.2 k0 _ h
    · exact hA q (Nat.le_trans hS.1 h)
  have hv2 : v = w9.map (g_v Γ'.2.2.1) := by simpa using hv9
  have hS' : va_S A s.heap T'.heap (locs ++ L') := ⟨Nat.le_trans hS.1 (by rw [e1]; exact hz), fun q h1 h2 => by rw [e1, hk9 q (Nat.lt_of_lt_of_le h1 hS.1) (fun z => h2 (hfree q z))]; exact hS.2.1 q h1 h2, fun q hq => by
      rcases List.mem_append.mp hq with h | h
      · exact hS.2.2 q h
      · exact hfree _ (hL' q h)⟩
  have had : ∀ j, 599 ≤ j → Γ'.2.2.1 j = Γ.2.2.1 j := fun j hj => hgd.2.2 j (Or.inr (by omega))
  have hLg : g_L Γ' ls μ.2.2.1 lv := ⟨hL.1, hL.2.1, hL.2.2.1, fun k v hk => by rw [g_in_v hgd (hlv k v hk)]; exact hL.2.2.2 k v hk⟩
  obtain ⟨t2, a1, b1⟩ := k Γ' w9 M' hp9 p l e s m args below meth c T'.heap (locs ++ L') A ls (F.gr hgd.1 hgd.2.1 had hk) ⟨by rw [e1]; exact hb, hdd.weaken (fun _ _ _ h => hfree _ h), hS', hLg⟩ T' rfl X'
  refine ⟨t2, sg t2 ?_, b1⟩
  have hst2 : (w9.toList ++ st).map (g_v Γ'.2.2.1) = v.toList ++ st.map (g_v Γ.2.2.1) := by
    rw [List.map_append, hv2, List.map_congr_left (fun v hm => g_in_v hgd (hstv v hm))]
    cases w9 <;> rfl
  rw [hst2] at a1
  exact a1
/-- the script, at number 598 -/
def zSc (b L : Nat) (xs : Nat → Int32) (s : State) (A : Nat → Prop) : Prop := va_X b L xs s s.heap ∧ b < s.heap.size ∧ ¬ A b
theorem g_slenL {b L : Nat} {xs : Nat → Int32} (hZ : ∀ b' a s A t, ¬ zSc b L xs s A → Z b' a s A t) (hb : Γ.2.2.1 598 = b) (hd : decode μ.1 pc = .ok (.arraylength, 1)) (hq : pc + 1 = q) (k : G Γ μ R kn Z q lv (.int (Int32.ofNat L) :: st) M) : G Γ μ R kn Z pc lv (.ref 598 :: st) M := by
  subst hq
  intro p l e s m args below meth c H locs A ls F X T hT X0
  by_cases hE : zSc b L xs s A
  · have := va_slen (rest := st.map (g_v Γ.2.2.1)) F.1 F.2.1 hE.1 hE.2.1 hE.2.2 X.2.2.1 hd (k p l e s m args below meth c H locs A ls F X) T hT X0
    rw [← hb] at this
    exact this
  · exact ⟨_, Steps.refl _, hZ _ _ _ _ _ hE⟩
theorem g_sldL {b L : Nat} {xs : Nat → Int32} {x : Int32} (hZ : ∀ b' a s A t, ¬ zSc b L xs s A → Z b' a s A t) (hb : Γ.2.2.1 598 = b) (hd : decode μ.1 pc = .ok (.iaload, 1)) (hq : pc + 1 = q) (h : 0 ≤ x.toInt ∧ x.toInt < L) (k : G Γ μ R kn Z q lv (.int (xs x.toInt.toNat) :: st) M) : G Γ μ R kn Z pc lv (.int x :: .ref 598 :: st) M := by
  subst hq
  intro p l e s m args below meth c H locs A ls F X T hT X0
  by_cases hE : zSc b L xs s A
  · have := va_sld (rest := st.map (g_v Γ.2.2.1)) F.1 F.2.1 hE.1 hE.2.1 hE.2.2 X.2.2.1 (i_in h) hd (k p l e s m args below meth c H locs A ls F X) T hT X0
    rw [← hb] at this
    exact this
  · exact ⟨_, Steps.refl _, hZ _ _ _ _ _ hE⟩
end GL
theorem gD.nil {Γ : gW} : gD Γ Γ [] := gD.rf
