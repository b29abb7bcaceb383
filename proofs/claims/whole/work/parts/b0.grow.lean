/-! a world that grows: objects and arrays made, references put; constructors -/
abbrev gSh : Type := (Nat × gT) ⊕ (Nat × Nat)
def gAdd (Γ : gW) (i a : Nat) (sh : gSh) : gW := (Γ.1, Γ.2.1, (fun j => if j = i then a else Γ.2.2.1 j), Γ.2.2.2.1 ++ [i], fun j => if j = i then sh else Γ.2.2.2.2 j)
def gShp (Γ : gW) (i : Nat) (sh : gSh) : gW := (Γ.1, Γ.2.1, Γ.2.2.1, Γ.2.2.2.1, fun j => if j = i then sh else Γ.2.2.2.2 j)
def gClS (Γ : gW) (j : Nat) : gSh → Prop
  | .inl (_, t) => ∀ (k a : Nat), t[k]? = some (some (some a)) → a ∈ Γ.2.2.2.1
  | .inr (tc, _) => tc = 5 → j = 400
def gCl (Γ : gW) (M : gM) : Prop := (∀ j ∈ Γ.2.2.2.1, gClS Γ j (Γ.2.2.2.2 j)) ∧ ∀ k, (M.1 400 k).toInt < 0 ∨ 600 ≤ (M.1 400 k).toInt
theorem gCl.m {Γ : gW} {M M' : gM} (h : gCl Γ M) (e : M'.1 400 = M.1 400) : gCl Γ M' := ⟨h.1, fun k => by rw [e]; exact h.2 k⟩
theorem gCl.add {Γ : gW} {M : gM} {i a : Nat} {sh : gSh} (h : gCl Γ M) (hi : i ∉ Γ.2.2.2.1) (hs : gClS (gAdd Γ i a sh) i sh) : gCl (gAdd Γ i a sh) M := by
  refine ⟨fun j hj => ?_, h.2⟩
  by_cases e : j = i
  · subst e
    rw [show (gAdd Γ j a sh).2.2.2.2 j = sh from if_pos rfl]; exact hs
  · have hj2 : j ∈ Γ.2.2.2.1 := by
      rcases List.mem_append.mp hj with q | q
      · exact q
      · exact absurd (List.mem_singleton.mp q) e
    rw [show (gAdd Γ i a sh).2.2.2.2 j = Γ.2.2.2.2 j from if_neg e]
    have := h.1 j hj2
    cases hs2 : Γ.2.2.2.2 j with
    | inl q => rw [hs2] at this; exact fun k b hb => List.mem_append_left _ (this k b hb)
    | inr q => rw [hs2] at this; exact this
theorem gCl.shp {Γ : gW} {M : gM} {i : Nat} {sh : gSh} (h : gCl Γ M) (hs : gClS Γ i sh) : gCl (gShp Γ i sh) M := by
  refine ⟨fun j hj => ?_, h.2⟩
  by_cases e : j = i
  · subst e
    rw [show (gShp Γ j sh).2.2.2.2 j = sh from if_pos rfl]
    cases sh with
    | inl q => exact hs
    | inr q => exact hs
  · rw [show (gShp Γ i sh).2.2.2.2 j = Γ.2.2.2.2 j from if_neg e]
    have := h.1 j hj
    cases hs2 : Γ.2.2.2.2 j with
    | inl q => rw [hs2] at this; exact this
    | inr q => rw [hs2] at this; exact this
theorem g_E_add {Γ : gW} {M : gM} {i a j : Nat} {sh : gSh} (h : gCl Γ M) (hi : i ∉ Γ.2.2.2.1) (h5 : i < 599) (hj : j ∈ Γ.2.2.2.1) : g_E (gAdd Γ i a sh) M j = g_E Γ M j := by
  have hji : j ≠ i := fun e => hi (e ▸ hj)
  have hc := h.1 j hj
  have e1 : (gAdd Γ i a sh).2.2.2.2 j = Γ.2.2.2.2 j := if_neg hji
  unfold g_E
  rw [e1]
  cases hs : Γ.2.2.2.2 j with
  | inl q =>
    obtain ⟨ci, t⟩ := q
    rw [hs] at hc
    show Sum.inr (ci, g_fs _ t (M.1 j)) = Sum.inr (ci, g_fs _ t (M.1 j))
    have e2 : g_fs (gAdd Γ i a sh).2.2.1 t (M.1 j) = g_fs Γ.2.2.1 t (M.1 j) := by
      unfold g_fs
      refine List.ext_getElem? fun k => ?_
      rw [List.getElem?_mapIdx, List.getElem?_mapIdx]
      cases hk : t[k]? with
      | none => rfl
      | some o =>
        cases o with
        | none => rfl
        | some o =>
          cases o with
          | none => rfl
          | some b =>
            have hb := hc k b hk
            have hbi : b ≠ i := fun e => hi (e ▸ hb)
            show some (Value.ref (if b = i then a else Γ.2.2.1 b)) = some (Value.ref (Γ.2.2.1 b))
            rw [if_neg hbi]
    rw [e2]
  | inr q =>
    obtain ⟨tc, n⟩ := q
    rw [hs] at hc
    have e2 : tc = 5 → (fun k => if (M.1 j k).toInt < 0 then none else some ((gAdd Γ i a sh).2.2.1 (M.1 j k).toInt.toNat)) = (fun k => if (M.1 j k).toInt < 0 then none else some (Γ.2.2.1 (M.1 j k).toInt.toNat)) := fun e => by
      have hj4 := hc e
      funext k
      by_cases q : (M.1 j k).toInt < 0
      · rw [if_pos q, if_pos q]
      · rw [if_neg q, if_neg q]
        have := h.2 k
        rw [← hj4] at this
        rw [show (gAdd Γ i a sh).2.2.1 (M.1 j k).toInt.toNat = Γ.2.2.1 (M.1 j k).toInt.toNat from if_neg (by omega)]
    show (Sum.inl (Γ.2.1 tc, n, if tc = 2 then _ else if tc = 5 then _ else _) : va_E) = Sum.inl (Γ.2.1 tc, n, if tc = 2 then _ else if tc = 5 then _ else _)
    by_cases q2 : tc = 2
    · rw [if_pos q2, if_pos q2]
    · rw [if_neg q2, if_neg q2]
      by_cases q5 : tc = 5
      · rw [if_pos q5, if_pos q5, e2 q5]
      · rw [if_neg q5, if_neg q5]
theorem g_ws_add {Γ : gW} {M : gM} {i a : Nat} {sh : gSh} (h : gCl Γ M) (hi : i ∉ Γ.2.2.2.1) (h5 : i < 599) : g_ws (gAdd Γ i a sh) M = g_ws Γ M ++ [(a, g_E (gAdd Γ i a sh) M i)] := by
  show (Γ.2.2.2.1 ++ [i]).map _ = Γ.2.2.2.1.map _ ++ _
  rw [List.map_append]
  refine congr (congrArg _ ?_) ?_
  · refine List.map_congr_left fun j hj => ?_
    have hji : j ≠ i := fun e => hi (e ▸ hj)
    rw [g_E_add h hi h5 hj, show (gAdd Γ i a sh).2.2.1 j = Γ.2.2.1 j from if_neg hji]
  · rw [List.map_cons, List.map_nil, show (gAdd Γ i a sh).2.2.1 i = a from if_pos rfl]
/-- no reference to a number of N among the locals and the stack -/
def g_nr (N : List Nat) : Value → Bool
  | .ref a => !(N.contains a)
  | _ => true
def g_nrs (N : List Nat) (lv : List (Option Value)) (st : List Value) : Bool := lv.all (fun o => match o with | some v => g_nr N v | none => true) && st.all (g_nr N)
theorem g_nr_v {N : List Nat} {ad ad' : Nat → Nat} (h : ∀ j, j ∉ N → ad' j = ad j) {v : Value} (hv : g_nr N v = true) : g_v ad' v = g_v ad v := by
  cases v with
  | ref a => show Value.ref (ad' a) = Value.ref (ad a); rw [h a (by simpa [g_nr] using hv)]
  | _ => rfl
theorem g_nrs_st {N : List Nat} {ad ad' : Nat → Nat} {lv : List (Option Value)} {st : List Value} (h : ∀ j, j ∉ N → ad' j = ad j) (hv : g_nrs N lv st = true) : st.map (g_v ad') = st.map (g_v ad) := by
  simp only [g_nrs, Bool.and_eq_true] at hv
  exact List.map_congr_left fun v hm => g_nr_v h (List.all_eq_true.mp hv.2 v hm)
theorem g_nrs_L {N : List Nat} {Γ Γ' : gW} {lv : List (Option Value)} {st : List Value} {ls : Array Slot} {nL : Nat} (h : ∀ j, j ∉ N → Γ'.2.2.1 j = Γ.2.2.1 j) (hv : g_nrs N lv st = true) (hL : g_L Γ ls nL lv) : g_L Γ' ls nL lv := by
  simp only [g_nrs, Bool.and_eq_true] at hv
  refine ⟨hL.1, hL.2.1, hL.2.2.1, fun k v hk => ?_⟩
  rw [g_nr_v h (List.all_eq_true.mp hv.1 _ (List.mem_of_getElem? hk))]
  exact hL.2.2.2 k v hk
theorem g_KH.ad {Γ Γ' : gW} {A : Nat → Prop} {U : State} {H : Heap} (h : g_KH Γ A U H) (e : ∀ j, 599 ≤ j → Γ'.2.2.1 j = Γ.2.2.1 j) : g_KH Γ' A U H := by
  obtain ⟨h1, h2, h3, h4⟩ := h
  refine ⟨fun c q hc => ?_, ?_, h3, h4⟩
  · have := h1 c q hc
    unfold g_K1 at this ⊢
    rw [e (600 + c) (by omega), e (700 + c) (by omega)]; exact this
  · unfold g_K2 at h2 ⊢
    rw [e 599 (by omega)]; exact h2
theorem g_F.gr {Γ Γ' : gW} {μ : gY} {R : Room} {kn kn' : Nat × Nat} {p : Program} {s : State} {m : MethodId} {args : Array Value} {meth : Method} {c : Code} {A : Nat → Prop} (F : g_F Γ μ R kn p s m args meth c A) (e1 : Γ'.1 = Γ.1) (e2 : Γ'.2.1 = Γ.2.1) (e : ∀ j, 599 ≤ j → Γ'.2.2.1 j = Γ.2.2.1 j) (hk : kn'.1 ≤ R.cells ∧ kn'.2 ≤ R.slots) : g_F Γ' μ R kn' p s m args meth c A := by
  obtain ⟨f1, f2, f3, f4, f5, f6, f7, f8, f9, -, -, f12⟩ := F
  refine ⟨f1, f2, f3, f4, f5, f6, f7, ?_, f9, hk.1, hk.2, f12.ad e⟩
  unfold g_T at f8 ⊢
  rw [e1, e2]; exact f8
/-- how a world has grown: the numbers of L are new, or have another shape now -/
def gD (Γ0 Γ : gW) (L : List (Nat × gSh)) : Prop := Γ.1 = Γ0.1 ∧ Γ.2.1 = Γ0.2.1 ∧ (∀ j, j ∉ L.map Prod.fst → Γ.2.2.2.2 j = Γ0.2.2.2.2 j) ∧ (∀ j, j ∉ L.map Prod.fst ∨ j ∈ Γ0.2.2.2.1 → Γ.2.2.1 j = Γ0.2.2.1 j) ∧ (∀ j, j ∈ Γ.2.2.2.1 ↔ j ∈ Γ0.2.2.2.1 ∨ j ∈ L.map Prod.fst) ∧ ∀ x ∈ L, Γ.2.2.2.2 x.1 = x.2
theorem gD.rf {Γ : gW} : gD Γ Γ [] := ⟨rfl, rfl, fun _ _ => rfl, fun _ _ => rfl, fun j => by simp, fun x hx => by cases hx⟩
theorem gD.o {Γ0 Γ : gW} {L : List (Nat × gSh)} {j : Nat} {sh : gSh} (h : gD Γ0 Γ L) (k : Nat) (hk : L[k]? = some (j, sh)) : g_o Γ j sh := by
  have hm := List.mem_of_getElem? hk
  exact ⟨(h.2.2.2.2.1 j).mpr (Or.inr (List.mem_map.mpr ⟨_, hm, rfl⟩)), h.2.2.2.2.2 _ hm⟩
theorem gD.old {Γ0 Γ : gW} {L : List (Nat × gSh)} {j : Nat} {sh : gSh} (h : gD Γ0 Γ L) (ho : g_o Γ0 j sh) (hj : (L.map Prod.fst).contains j = false) : g_o Γ j sh := by
  have hj2 : j ∉ L.map Prod.fst := fun q => by rw [List.contains_iff_mem.mpr q] at hj; cases hj
  exact ⟨(h.2.2.2.2.1 j).mpr (Or.inl ho.1), by rw [h.2.2.1 j hj2]; exact ho.2⟩
theorem gD.fresh {Γ0 Γ : gW} {L : List (Nat × gSh)} {j : Nat} (h : gD Γ0 Γ L) (h0 : j ∉ Γ0.2.2.2.1) (hj : (L.map Prod.fst).contains j = false) : j ∉ Γ.2.2.2.1 := fun q => by
  rcases (h.2.2.2.2.1 j).mp q with q | q
  · exact h0 q
  · rw [List.contains_iff_mem.mpr q] at hj; cases hj
theorem gD.add {Γ0 Γ : gW} {L : List (Nat × gSh)} {i a : Nat} {sh : gSh} (h : gD Γ0 Γ L) (h0 : i ∉ Γ0.2.2.2.1) (hi : (L.map Prod.fst).contains i = false) : gD Γ0 (gAdd Γ i a sh) ((i, sh) :: L) := by
  have hi2 : i ∉ L.map Prod.fst := fun q => by rw [List.contains_iff_mem.mpr q] at hi; cases hi
  obtain ⟨h1, h2, h3, h4, h5, h6⟩ := h
  refine ⟨h1, h2, fun j hj => ?_, fun j hj => ?_, fun j => ?_, fun x hx => ?_⟩
  · simp only [List.map_cons, List.mem_cons, not_or] at hj
    rw [show (gAdd Γ i a sh).2.2.2.2 j = Γ.2.2.2.2 j from if_neg hj.1]
    exact h3 j hj.2
  · have hji : j ≠ i := fun e => by
      subst e
      rcases hj with q | q
      · simp at q
      · exact h0 q
    rw [show (gAdd Γ i a sh).2.2.1 j = Γ.2.2.1 j from if_neg hji]
    refine h4 j ?_
    rcases hj with q | q
    · simp only [List.map_cons, List.mem_cons, not_or] at q
      exact Or.inl q.2
    · exact Or.inr q
  · show j ∈ Γ.2.2.2.1 ++ [i] ↔ _
    rw [List.mem_append, List.mem_singleton, h5 j]
    simp only [List.map_cons, List.mem_cons]
    constructor
    · rintro ((q | q) | q)
      · exact Or.inl q
      · exact Or.inr (Or.inr q)
      · exact Or.inr (Or.inl q)
    · rintro (q | q | q)
      · exact Or.inl (Or.inl q)
      · exact Or.inr q
      · exact Or.inl (Or.inr q)
  · rcases List.mem_cons.mp hx with q | q
    · subst q; exact if_pos rfl
    · have hxi : x.1 ≠ i := fun e => hi2 (e ▸ List.mem_map.mpr ⟨x, q, rfl⟩)
      rw [show (gAdd Γ i a sh).2.2.2.2 x.1 = Γ.2.2.2.2 x.1 from if_neg hxi]
      exact h6 x q
def gSet9 (L : List (Nat × gSh)) (t : Nat) (sh : gSh) : List (Nat × gSh) := L.map (fun x => if x.1 = t then (t, sh) else x)
theorem gSet9_fst {L : List (Nat × gSh)} {t : Nat} {sh : gSh} : (gSet9 L t sh).map Prod.fst = L.map Prod.fst := by
  unfold gSet9
  rw [List.map_map]
  refine List.map_congr_left fun x _ => ?_
  show (if x.1 = t then (t, sh) else x).1 = x.1
  by_cases e : x.1 = t
  · rw [if_pos e, e]
  · rw [if_neg e]
theorem gD.shp {Γ0 Γ : gW} {L L' : List (Nat × gSh)} {t : Nat} {sh : gSh} (h : gD Γ0 Γ L) (ht : (L.map Prod.fst).contains t = true) (hL : L' = gSet9 L t sh) : gD Γ0 (gShp Γ t sh) L' := by
  have ht2 := List.contains_iff_mem.mp ht
  obtain ⟨h1, h2, h3, h4, h5, h6⟩ := h
  subst hL
  refine ⟨h1, h2, fun j hj => ?_, fun j hj => ?_, fun j => ?_, fun x hx => ?_⟩
  · rw [gSet9_fst] at hj
    have hjt : j ≠ t := fun e => hj (e ▸ ht2)
    rw [show (gShp Γ t sh).2.2.2.2 j = Γ.2.2.2.2 j from if_neg hjt]
    exact h3 j hj
  · rw [gSet9_fst] at hj
    exact h4 j hj
  · rw [gSet9_fst]; exact h5 j
  · obtain ⟨y, hy, rfl⟩ := List.mem_map.mp hx
    by_cases e : y.1 = t
    · rw [if_pos e]; exact if_pos rfl
    · rw [if_neg e]
      rw [show (gShp Γ t sh).2.2.2.2 y.1 = Γ.2.2.2.2 y.1 from if_neg e]
      exact h6 y hy
theorem gD.shp0 {Γ0 Γ : gW} {L : List (Nat × gSh)} {t : Nat} {sh : gSh} (h : gD Γ0 Γ L) (ht : t ∈ Γ0.2.2.2.1) (hi : (L.map Prod.fst).contains t = false) : gD Γ0 (gShp Γ t sh) ((t, sh) :: L) := by
  have hi2 : t ∉ L.map Prod.fst := fun q => by rw [List.contains_iff_mem.mpr q] at hi; cases hi
  obtain ⟨h1, h2, h3, h4, h5, h6⟩ := h
  refine ⟨h1, h2, fun j hj => ?_, fun j hj => ?_, fun j => ?_, fun x hx => ?_⟩
  · simp only [List.map_cons, List.mem_cons, not_or] at hj
    rw [show (gShp Γ t sh).2.2.2.2 j = Γ.2.2.2.2 j from if_neg hj.1]
    exact h3 j hj.2
  · refine h4 j ?_
    rcases hj with q | q
    · simp only [List.map_cons, List.mem_cons, not_or] at q
      exact Or.inl q.2
    · exact Or.inr q
  · show j ∈ Γ.2.2.2.1 ↔ _
    rw [h5 j]
    simp only [List.map_cons, List.mem_cons]
    constructor
    · rintro (q | q)
      · exact Or.inl q
      · exact Or.inr (Or.inr q)
    · rintro (q | q | q)
      · exact Or.inl q
      · exact Or.inl (q ▸ ht)
      · exact Or.inr q
  · rcases List.mem_cons.mp hx with q | q
    · subst q; exact if_pos rfl
    · have hxi : x.1 ≠ t := fun e => hi2 (e ▸ List.mem_map.mpr ⟨x, q, rfl⟩)
      rw [show (gShp Γ t sh).2.2.2.2 x.1 = Γ.2.2.2.2 x.1 from if_neg hxi]
      exact h6 x q
theorem gD.tr {Γ0 Γ1 Γ2 : gW} {L1 L2 L : List (Nat × gSh)} (h : gD Γ0 Γ1 L1) (h2 : gD Γ1 Γ2 L2) (hL : L = L2 ++ L1.filter (fun x => !((L2.map Prod.fst).contains x.1))) : gD Γ0 Γ2 L := by
  obtain ⟨a1, a2, a3, a4, a5, a6⟩ := h
  obtain ⟨b1, b2, b3, b4, b5, b6⟩ := h2
  have hk : ∀ j, j ∈ L.map Prod.fst ↔ j ∈ L2.map Prod.fst ∨ j ∈ L1.map Prod.fst := by
    intro j
    rw [hL, List.map_append, List.mem_append]
    constructor
    · rintro (q | q)
      · exact Or.inl q
      · obtain ⟨x, hx, rfl⟩ := List.mem_map.mp q
        exact Or.inr (List.mem_map.mpr ⟨x, (List.mem_filter.mp hx).1, rfl⟩)
    · rintro (q | q)
      · exact Or.inl q
      · by_cases q2 : j ∈ L2.map Prod.fst
        · exact Or.inl q2
        · obtain ⟨x, hx, rfl⟩ := List.mem_map.mp q
          refine Or.inr (List.mem_map.mpr ⟨x, List.mem_filter.mpr ⟨hx, ?_⟩, rfl⟩)
          cases hc : (L2.map Prod.fst).contains x.1 with
          | false => rfl
          | true => exact absurd (List.contains_iff_mem.mp hc) q2
  refine ⟨b1.trans a1, b2.trans a2, fun j hj => ?_, fun j hj => ?_, fun j => ?_, fun x hx => ?_⟩
  · rw [hk] at hj
    simp only [not_or] at hj
    rw [b3 j hj.1, a3 j hj.2]
  · rcases hj with q | q
    · rw [hk] at q
      simp only [not_or] at q
      rw [b4 j (Or.inl q.1), a4 j (Or.inl q.2)]
    · rw [b4 j (Or.inr ((a5 j).mpr (Or.inl q))), a4 j (Or.inr q)]
  · rw [b5 j, a5 j, hk]
    constructor
    · rintro ((q | q) | q)
      · exact Or.inl q
      · exact Or.inr (Or.inr q)
      · exact Or.inr (Or.inl q)
    · rintro (q | q | q)
      · exact Or.inl (Or.inl q)
      · exact Or.inr q
      · exact Or.inl (Or.inr q)
  · rw [hL] at hx
    rcases List.mem_append.mp hx with q | q
    · exact b6 x q
    · obtain ⟨q1, q2⟩ := List.mem_filter.mp q
      have q3 : x.1 ∉ L2.map Prod.fst := fun q3 => by rw [List.contains_iff_mem.mpr q3] at q2; cases q2
      rw [b3 x.1 q3]; exact a6 x q1
