/-! constructors: combined rows -/
def gN0 (Ns : List Nat) (Γ : gW) : Prop := ∀ j ∈ Ns, j ∉ Γ.2.2.2.1
def gZ0 (Ns : List Nat) (M : gM) : Prop := ∀ j ∈ Ns, (∀ k, M.1 j k = 0) ∧ ∀ k, M.2 j k = 0
theorem gN0.at {Ns : List Nat} {Γ : gW} (h : gN0 Ns Γ) (j : Nat) (hj : Ns.contains j = true) : j ∉ Γ.2.2.2.1 := h j (List.contains_iff_mem.mp hj)
theorem gZ0.at {Ns : List Nat} {M : gM} (h : gZ0 Ns M) (j : Nat) (hj : Ns.contains j = true) (k : Nat) : M.1 j k = 0 := (h j (List.contains_iff_mem.mp hj)).1 k
theorem gZ0.al {Ns : List Nat} {M : gM} (h : gZ0 Ns M) (j : Nat) (hj : Ns.contains j = true) (k : Nat) : M.2 j k = 0 := (h j (List.contains_iff_mem.mp hj)).2 k
theorem gZ0.sub {Ns Ns' : List Nat} {M : gM} (h : gZ0 Ns M) (hs : Ns'.all (fun j => Ns.contains j) = true) : gZ0 Ns' M := fun j hj => h j (List.contains_iff_mem.mp (List.all_eq_true.mp hs j hj))
theorem gZ0.u {Ns : List Nat} {M : gM} {i k : Nat} {x : Int32} (h : gZ0 Ns M) (hs : Ns.contains i = false) : gZ0 Ns (g_u M i k x) := fun j hj => by
  have hji : j ≠ i := fun e => by subst e; rw [List.contains_iff_mem.mpr hj] at hs; cases hs
  exact ⟨fun k9 => by rw [g_u_ne hji]; exact (h j hj).1 k9, (h j hj).2⟩
theorem gN0.gr {Ns Ns' : List Nat} {Γ0 Γ : gW} {L : List (Nat × gSh)} (h : gN0 Ns Γ0) (hD : gD Γ0 Γ L) (hs : Ns'.all (fun j => Ns.contains j && !((L.map Prod.fst).contains j)) = true) : gN0 Ns' Γ := fun j hj => by
  have := List.all_eq_true.mp hs j hj
  simp only [Bool.and_eq_true, Bool.not_eq_true'] at this
  exact hD.fresh (h.at j this.1) this.2
theorem n_u_eq {M : gM} {i k : Nat} {x : Int32} (h : M.1 i k = x) : g_u M i k x = M := by
  obtain ⟨M1, M2⟩ := M
  show (_, M2) = (M1, M2)
  congr 1
  funext a b
  show (if a = i ∧ b = k then x else M1 a b) = M1 a b
  by_cases e : a = i ∧ b = k
  · rw [if_pos e, e.1, e.2]; exact h.symm
  · rw [if_neg e]
section GN3
variable {Γ0 Γ : gW} {L L' : List (Nat × gSh)} {μ : gY} {R : Room} {kn kn' : Nat × Nat} {Z : gZ} {pc q : Nat} {lv : List (Option Value)} {st : List Value} {M : gM}
theorem n_newa0 (hD : gD Γ0 Γ L) {i n : Nat} {nI : Int32} (hN : i ∉ Γ0.2.2.2.1) (hi : (L.map Prod.fst).contains i = false) (hd : decode μ.1 pc = .ok (.newarray .byte, 2)) (hq : pc + 2 = q) (harr : Cond.arrayClass .byte ∈ g_UW) (hn : nI.toInt = (n : Int)) (hb : n ≤ 60000) (h5 : i < 599) (hC : gCl Γ M) (hz : ∀ k, M.1 i k = 0) (hv : g_nrs [i] lv st = true) (hk : kn.1 + 1 ≤ R.cells ∧ kn.2 + n ≤ R.slots) (hkn : kn' = (kn.1 + 1, kn.2 + n)) (k : ∀ Γ', gCl Γ' M → gD Γ0 Γ' ((i, .inr (0, n)) :: L) → G Γ' μ R kn' Z q lv (.ref i :: st) M) : G Γ μ R kn Z pc lv (.int nI :: st) M := by
  subst hkn
  exact g_newa0 hd hq harr hn hb (hD.fresh hN hi) h5 hC hz hv hk (fun a hC9 => k _ hC9 (hD.add hN hi))
theorem n_newa1 (hD : gD Γ0 Γ L) {i n : Nat} {nI : Int32} (hN : i ∉ Γ0.2.2.2.1) (hi : (L.map Prod.fst).contains i = false) (hd : decode μ.1 pc = .ok (.newarray .int, 2)) (hq : pc + 2 = q) (harr : Cond.arrayClass .int ∈ g_UW) (hn : nI.toInt = (n : Int)) (hb : n ≤ 60000) (h5 : i < 599) (hC : gCl Γ M) (hz : ∀ k, M.1 i k = 0) (hv : g_nrs [i] lv st = true) (hk : kn.1 + 1 ≤ R.cells ∧ kn.2 + n ≤ R.slots) (hkn : kn' = (kn.1 + 1, kn.2 + n)) (k : ∀ Γ', gCl Γ' M → gD Γ0 Γ' ((i, .inr (1, n)) :: L) → G Γ' μ R kn' Z q lv (.ref i :: st) M) : G Γ μ R kn Z pc lv (.int nI :: st) M := by
  subst hkn
  exact g_newa1 hd hq harr hn hb (hD.fresh hN hi) h5 hC hz hv hk (fun a hC9 => k _ hC9 (hD.add hN hi))
theorem n_newa2 (hD : gD Γ0 Γ L) {i n : Nat} {nI : Int32} (hN : i ∉ Γ0.2.2.2.1) (hi : (L.map Prod.fst).contains i = false) (hd : decode μ.1 pc = .ok (.newarray .long, 2)) (hq : pc + 2 = q) (harr : Cond.arrayClass .long ∈ g_UW) (hn : nI.toInt = (n : Int)) (hb : n ≤ 60000) (h5 : i < 599) (hC : gCl Γ M) (hz : ∀ k, M.2 i k = 0) (hv : g_nrs [i] lv st = true) (hk : kn.1 + 1 ≤ R.cells ∧ kn.2 + n ≤ R.slots) (hkn : kn' = (kn.1 + 1, kn.2 + n)) (k : ∀ Γ', gCl Γ' M → gD Γ0 Γ' ((i, .inr (2, n)) :: L) → G Γ' μ R kn' Z q lv (.ref i :: st) M) : G Γ μ R kn Z pc lv (.int nI :: st) M := by
  subst hkn
  exact g_newa2 hd hq harr hn hb (hD.fresh hN hi) h5 hC hz hv hk (fun a hC9 => k _ hC9 (hD.add hN hi))
theorem n_newa3 (hD : gD Γ0 Γ L) {i n : Nat} {nI : Int32} (hN : i ∉ Γ0.2.2.2.1) (hi : (L.map Prod.fst).contains i = false) (hd : decode μ.1 pc = .ok (.newarray .short, 2)) (hq : pc + 2 = q) (harr : Cond.arrayClass .short ∈ g_UW) (hn : nI.toInt = (n : Int)) (hb : n ≤ 60000) (h5 : i < 599) (hC : gCl Γ M) (hz : ∀ k, M.1 i k = 0) (hv : g_nrs [i] lv st = true) (hk : kn.1 + 1 ≤ R.cells ∧ kn.2 + n ≤ R.slots) (hkn : kn' = (kn.1 + 1, kn.2 + n)) (k : ∀ Γ', gCl Γ' M → gD Γ0 Γ' ((i, .inr (3, n)) :: L) → G Γ' μ R kn' Z q lv (.ref i :: st) M) : G Γ μ R kn Z pc lv (.int nI :: st) M := by
  subst hkn
  exact g_newa3 hd hq harr hn hb (hD.fresh hN hi) h5 hC hz hv hk (fun a hC9 => k _ hC9 (hD.add hN hi))
theorem n_newa4 (hD : gD Γ0 Γ L) {i n : Nat} {nI : Int32} (hN : i ∉ Γ0.2.2.2.1) (hi : (L.map Prod.fst).contains i = false) (hd : decode μ.1 pc = .ok (.newarray .boolean, 2)) (hq : pc + 2 = q) (harr : Cond.arrayClass .boolean ∈ g_UW) (hn : nI.toInt = (n : Int)) (hb : n ≤ 60000) (h5 : i < 599) (hC : gCl Γ M) (hz : ∀ k, M.1 i k = 0) (hv : g_nrs [i] lv st = true) (hk : kn.1 + 1 ≤ R.cells ∧ kn.2 + n ≤ R.slots) (hkn : kn' = (kn.1 + 1, kn.2 + n)) (k : ∀ Γ', gCl Γ' M → gD Γ0 Γ' ((i, .inr (4, n)) :: L) → G Γ' μ R kn' Z q lv (.ref i :: st) M) : G Γ μ R kn Z pc lv (.int nI :: st) M := by
  subst hkn
  exact g_newa4 hd hq harr hn hb (hD.fresh hN hi) h5 hC hz hv hk (fun a hC9 => k _ hC9 (hD.add hN hi))
theorem n_new (hD : gD Γ0 Γ L) {i ci idx N : Nat} {C : String} {T : u_T} {ty : Nat → FieldType} {t : gT} (hN : i ∉ Γ0.2.2.2.1) (hi : (L.map Prod.fst).contains i = false) (hd : decode μ.1 pc = .ok (.new idx, 3)) (hq : pc + 3 = q) (hc : vwCl[ci]? = some (C, T, N)) (hin : ∀ w ∈ u_ws C T N, w ∈ g_UW) (hty : ∀ k, k < N → parseFieldDescriptor (T k).2.2.1 = some (ty k)) (hw : Cond.classLink μ.2.1 idx C ∈ g_UW ∧ Cond.instantiable C N ∈ g_UW ∧ Cond.initialized C ∈ g_UW) (hfs : ∀ (ad : Nat → Nat) (j : Nat), j < N → defaultValue (ty j) = vp_V (g_fs ad t (fun _ => 0)) j) (ht : ∀ (k a : Nat), ¬ t[k]? = some (some (some a))) (h5 : i < 599) (hC : gCl Γ M) (hz : ∀ k, M.1 i k = 0) (hv : g_nrs [i] lv st = true) (hk : kn.1 + 1 ≤ R.cells ∧ kn.2 + N ≤ R.slots) (hkn : kn' = (kn.1 + 1, kn.2 + N)) (k : ∀ Γ', gCl Γ' M → gD Γ0 Γ' ((i, .inl (ci, t)) :: L) → G Γ' μ R kn' Z q lv (.ref i :: st) M) : G Γ μ R kn Z pc lv st M := by
  subst hkn
  exact g_new hd hq hc hin hty hw hfs ht (hD.fresh hN hi) h5 hC hz hv hk (fun a hC9 => k _ hC9 (hD.add hN hi))
theorem n_putF0 {E : List Frame → Array Value → State → Prop} {Γ9 : gW} {Q : gW → gM → Prop} {mc ms : Nat} (hD : gD Γ0 Γ L) {i ci idx k0 b : Nat} {t t' : gT} {ty : FieldType} (ho0 : g_o Γ0 i (.inl (ci, t))) (hi : (L.map Prod.fst).contains i = false) (hb : b ∈ Γ.2.2.2.1) (ht' : t.set k0 (some (some b)) = t') (hE0 : ∀ x y z, E x y z → zx_I x y z) (hd : decode μ.1 pc = .ok (.putfield idx, 3)) (hq : pc + 3 = q) (hf : g_FL μ.2.1 idx ci k0 ty true) (hdc : ∀ (C : String) (T : u_T) (N : Nat), vwCl[ci]? = some (C, T, N) → (T k0).1 = μ.2.1) (hkl : k0 < t.length) (hn : ∀ a, narrow ty (.ref a) = .ref a) (hfit : ∀ a, fits ty (.ref a) = true) (hC : gCl Γ M) (k : ∀ Γ', gCl Γ' M → gD Γ0 Γ' ((i, .inl (ci, t')) :: L) → G Γ' μ R kn (g_ZN E Γ9 Q mc ms) q lv st M) : G Γ μ R kn (g_ZN E Γ9 Q mc ms) pc lv (.ref b :: .ref i :: st) M := by
  subst ht'
  exact g_putF hE0 hd hq hf hdc (hD.old ho0 hi) hkl hn hfit hC hb (fun hC9 => k _ hC9 (hD.shp0 ho0.1 hi))
theorem n_putF {E : List Frame → Array Value → State → Prop} {Γ9 : gW} {Q : gW → gM → Prop} {mc ms : Nat} (hD : gD Γ0 Γ L) {i ci idx k0 b : Nat} {t t' : gT} {ty : FieldType} (ho : g_o Γ i (.inl (ci, t))) (hi : (L.map Prod.fst).contains i = true) (hb : b ∈ Γ.2.2.2.1) (ht' : t.set k0 (some (some b)) = t') (hL : L' = gSet9 L i (.inl (ci, t'))) (hE0 : ∀ x y z, E x y z → zx_I x y z) (hd : decode μ.1 pc = .ok (.putfield idx, 3)) (hq : pc + 3 = q) (hf : g_FL μ.2.1 idx ci k0 ty true) (hdc : ∀ (C : String) (T : u_T) (N : Nat), vwCl[ci]? = some (C, T, N) → (T k0).1 = μ.2.1) (hkl : k0 < t.length) (hn : ∀ a, narrow ty (.ref a) = .ref a) (hfit : ∀ a, fits ty (.ref a) = true) (hC : gCl Γ M) (k : ∀ Γ', gCl Γ' M → gD Γ0 Γ' L' → G Γ' μ R kn (g_ZN E Γ9 Q mc ms) q lv st M) : G Γ μ R kn (g_ZN E Γ9 Q mc ms) pc lv (.ref b :: .ref i :: st) M := by
  subst ht'
  exact g_putF hE0 hd hq hf hdc ho hkl hn hfit hC hb (fun hC9 => k _ hC9 (hD.shp hi hL))
theorem n_putR0 (hD : gD Γ0 Γ L) {i ci idx k0 b : Nat} {t t' : gT} {ty : FieldType} (ho0 : g_o Γ0 i (.inl (ci, t))) (hi : (L.map Prod.fst).contains i = false) (hb : b ∈ Γ.2.2.2.1) (ht' : t.set k0 (some (some b)) = t') (hd : decode μ.1 pc = .ok (.putfield idx, 3)) (hq : pc + 3 = q) (hf : g_FL μ.2.1 idx ci k0 ty false) (hkl : k0 < t.length) (hn : ∀ a, narrow ty (.ref a) = .ref a) (hfit : ∀ a, fits ty (.ref a) = true) (hC : gCl Γ M) (k : ∀ Γ', gCl Γ' M → gD Γ0 Γ' ((i, .inl (ci, t')) :: L) → G Γ' μ R kn Z q lv st M) : G Γ μ R kn Z pc lv (.ref b :: .ref i :: st) M := by
  subst ht'
  exact g_putR hd hq hf (hD.old ho0 hi) hkl hn hfit hC hb (fun hC9 => k _ hC9 (hD.shp0 ho0.1 hi))
theorem n_put0 {i ci idx k0 : Nat} {t : gT} {ty : FieldType} {x : Int32} (hd : decode μ.1 pc = .ok (.putfield idx, 3)) (hq : pc + 3 = q) (hf : g_FL μ.2.1 idx ci k0 ty false) (ho : g_o Γ i (.inl (ci, t))) (ht : t[k0]? = some none) (hn : narrow ty (.int x) = .int x) (hfit : fits ty (.int x) = true) (hx : M.1 i k0 = x) (k : G Γ μ R kn Z q lv st M) : G Γ μ R kn Z pc lv (.int x :: .ref i :: st) M := g_put hd hq hf ho ht hn hfit ((n_u_eq hx).symm ▸ k)
theorem n_call {L2 : List (Nat × gSh)} (hD : gD Γ0 Γ L) (hZ : ∀ b a s A t, ¬ PXN s → Z b a s A t) {idx d' i mc ms : Nat} {y : MethodName} {μ' : gY} (hd : decode μ.1 pc = .ok (.invokespecial idx, 3)) (hq : pc + 3 = q) (hv : g_IN μ.2.1 idx y μ') (nk : Nat) (hnk : nwL[nk]? = some (μ.2.1, idx, y)) (hc : CtN PXN Γ y μ' d' mc ms [.ref i] M (fun Γ' M' => gD Γ Γ' L2 ∧ (gCl Γ' M' ∧ M' = M))) (hL5 : L2.all (fun x => decide (x.1 < 599)) = true) (hi : i ∈ Γ.2.2.2.1) (hv2 : g_nrs (L2.map Prod.fst) lv st = true) (hR : d' + 9 ≤ R.frames ∧ 200 + 50 * d' ≤ R.locals) (hk : kn.1 + mc ≤ R.cells ∧ kn.2 + ms ≤ R.slots) (hkn : kn' = (kn.1 + mc, kn.2 + ms)) (hst : ((Value.ref i :: st).map fun v => v.category).sum ≤ 8) (hL : L' = L2 ++ L.filter (fun x => !((L2.map Prod.fst).contains x.1))) (k : ∀ Γ', gCl Γ' M → gD Γ0 Γ' L' → G Γ' μ R kn' Z q lv (.ref i :: st) M) : G Γ μ R kn Z pc lv (.ref i :: .ref i :: st) M := by
  subst hkn
  simp only [g_nrs, Bool.and_eq_true] at hv2
  have nr : ∀ v, g_nr (L2.map Prod.fst) v = true → g_rf Γ L2 v := fun v hv => by
    cases v with
    | ref a =>
      refine Or.inr ?_
      simpa [g_nr] using hv
    | _ => trivial
  refine g_callIN (fun _ _ => PXN.w) (fun _ _ => PXN.b) hZ hd hq hv (fun s hs => hs.n nk hnk) hc (fun x hx => by simpa using List.all_eq_true.mp hL5 x hx) (fun j v hj => nr v (by simpa using List.all_eq_true.mp hv2.1 _ (List.mem_of_getElem? hj))) (fun v hm => ?_) hR hk hst (fun Γ' M' g1 g2 => ?_)
  · rcases List.mem_cons.mp hm with e | e
    · rw [e]; exact Or.inl hi
    · exact nr v (List.all_eq_true.mp hv2.2 v e)
  · obtain ⟨g2, rfl⟩ := g2
    exact k Γ' g2 (hD.tr g1 hL)
end GN3
theorem w_ab : Cond.arrayClass .byte ∈ g_UW := g_uwR (ws := [.arrayClass .byte]) [264] (by decide +kernel) (by decide +kernel) _ List.mem_cons_self
theorem w_ai : Cond.arrayClass .int ∈ g_UW := g_uwR (ws := [.arrayClass .int]) [201] (by decide +kernel) (by decide +kernel) _ List.mem_cons_self
theorem w_al : Cond.arrayClass .long ∈ g_UW := g_uwR (ws := [.arrayClass .long]) [952] (by decide +kernel) (by decide +kernel) _ List.mem_cons_self
theorem w_as : Cond.arrayClass .short ∈ g_UW := g_uwR (ws := [.arrayClass .short]) [953] (by decide +kernel) (by decide +kernel) _ List.mem_cons_self
theorem w_az : Cond.arrayClass .boolean ∈ g_UW := g_uwR (ws := [.arrayClass .boolean]) [1257] (by decide +kernel) (by decide +kernel) _ List.mem_cons_self
theorem nw_X5_7 : Cond.classLink RX5 7 RX3 ∈ g_UW ∧ Cond.instantiable RX3 16 ∈ g_UW ∧ Cond.initialized RX3 ∈ g_UW := by
  have h := g_uwR (ws := [.classLink RX5 7 RX3, .instantiable RX3 16, .initialized RX3]) [118, 119, 91] (by decide +kernel) (by decide +kernel)
  exact ⟨h _ (by simp), h _ (by simp), h _ (by simp)⟩
theorem nw_X5_19 : Cond.classLink RX5 19 RX0 ∈ g_UW ∧ Cond.instantiable RX0 2 ∈ g_UW ∧ Cond.initialized RX0 ∈ g_UW := by
  have h := g_uwR (ws := [.classLink RX5 19 RX0, .instantiable RX0 2, .initialized RX0]) [202, 203, 92] (by decide +kernel) (by decide +kernel)
  exact ⟨h _ (by simp), h _ (by simp), h _ (by simp)⟩
theorem nw_X5_49 : Cond.classLink RX5 49 RX2 ∈ g_UW ∧ Cond.instantiable RX2 13 ∈ g_UW ∧ Cond.initialized RX2 ∈ g_UW := by
  have h := g_uwR (ws := [.classLink RX5 49 RX2, .instantiable RX2 13, .initialized RX2]) [215, 216, 93] (by decide +kernel) (by decide +kernel)
  exact ⟨h _ (by simp), h _ (by simp), h _ (by simp)⟩
theorem nw_X5_59 : Cond.classLink RX5 59 RX4 ∈ g_UW ∧ Cond.instantiable RX4 5 ∈ g_UW ∧ Cond.initialized RX4 ∈ g_UW := by
  have h := g_uwR (ws := [.classLink RX5 59 RX4, .instantiable RX4 5, .initialized RX4]) [265, 266, 94] (by decide +kernel) (by decide +kernel)
  exact ⟨h _ (by simp), h _ (by simp), h _ (by simp)⟩
theorem nw_X5_244 : Cond.classLink RX5 244 RX1 ∈ g_UW ∧ Cond.instantiable RX1 6 ∈ g_UW ∧ Cond.initialized RX1 ∈ g_UW := by
  have h := g_uwR (ws := [.classLink RX5 244 RX1, .instantiable RX1 6, .initialized RX1]) [925, 926, 109] (by decide +kernel) (by decide +kernel)
  exact ⟨h _ (by simp), h _ (by simp), h _ (by simp)⟩
theorem nw_X2_9 : Cond.classLink RX2 9 RX3 ∈ g_UW ∧ Cond.instantiable RX3 16 ∈ g_UW ∧ Cond.initialized RX3 ∈ g_UW := by
  have h := g_uwR (ws := [.classLink RX2 9 RX3, .instantiable RX3 16, .initialized RX3]) [221, 119, 91] (by decide +kernel) (by decide +kernel)
  exact ⟨h _ (by simp), h _ (by simp), h _ (by simp)⟩
theorem nw_X4_9 : Cond.classLink RX4 9 RX3 ∈ g_UW ∧ Cond.instantiable RX3 16 ∈ g_UW ∧ Cond.initialized RX3 ∈ g_UW := by
  have h := g_uwR (ws := [.classLink RX4 9 RX3, .instantiable RX3 16, .initialized RX3]) [271, 119, 91] (by decide +kernel) (by decide +kernel)
  exact ⟨h _ (by simp), h _ (by simp), h _ (by simp)⟩
theorem nw_X1_22 : Cond.classLink RX1 22 RX3 ∈ g_UW ∧ Cond.instantiable RX3 16 ∈ g_UW ∧ Cond.initialized RX3 ∈ g_UW := by
  have h := g_uwR (ws := [.classLink RX1 22 RX3, .instantiable RX3 16, .initialized RX3]) [931, 119, 91] (by decide +kernel) (by decide +kernel)
  exact ⟨h _ (by simp), h _ (by simp), h _ (by simp)⟩
theorem nw_L_8 : Cond.classLink RL 8 RX5 ∈ g_UW ∧ Cond.instantiable RX5 18 ∈ g_UW ∧ Cond.initialized RX5 ∈ g_UW := by
  have h := g_uwR (ws := [.classLink RL 8 RX5, .instantiable RX5 18, .initialized RX5]) [110, 111, 90] (by decide +kernel) (by decide +kernel)
  exact ⟨h _ (by simp), h _ (by simp), h _ (by simp)⟩
theorem nw_L_68 : Cond.classLink RL 68 RX6 ∈ g_UW ∧ Cond.instantiable RX6 55 ∈ g_UW ∧ Cond.initialized RX6 ∈ g_UW := by
  have h := g_uwR (ws := [.classLink RL 68 RX6, .instantiable RX6 55, .initialized RX6]) [1075, 1076, 95] (by decide +kernel) (by decide +kernel)
  exact ⟨h _ (by simp), h _ (by simp), h _ (by simp)⟩
theorem oi_X5 : Cond.methodLink RX5 1 Lib.objectInit ∈ g_UW := g_uwR (ws := [.methodLink RX5 1 Lib.objectInit]) [115] (by decide +kernel) (by decide +kernel) _ List.mem_cons_self
theorem oi_X3 : Cond.methodLink RX3 3 Lib.objectInit ∈ g_UW := g_uwR (ws := [.methodLink RX3 3 Lib.objectInit]) [123] (by decide +kernel) (by decide +kernel) _ List.mem_cons_self
theorem oi_X0 : Cond.methodLink RX0 1 Lib.objectInit ∈ g_UW := g_uwR (ws := [.methodLink RX0 1 Lib.objectInit]) [207] (by decide +kernel) (by decide +kernel) _ List.mem_cons_self
theorem oi_X2 : Cond.methodLink RX2 3 Lib.objectInit ∈ g_UW := g_uwR (ws := [.methodLink RX2 3 Lib.objectInit]) [220] (by decide +kernel) (by decide +kernel) _ List.mem_cons_self
theorem oi_X4 : Cond.methodLink RX4 3 Lib.objectInit ∈ g_UW := g_uwR (ws := [.methodLink RX4 3 Lib.objectInit]) [270] (by decide +kernel) (by decide +kernel) _ List.mem_cons_self
theorem oi_X1 : Cond.methodLink RX1 3 Lib.objectInit ∈ g_UW := g_uwR (ws := [.methodLink RX1 3 Lib.objectInit]) [930] (by decide +kernel) (by decide +kernel) _ List.mem_cons_self
theorem oi_X6 : Cond.methodLink RX6 1 Lib.objectInit ∈ g_UW := g_uwR (ws := [.methodLink RX6 1 Lib.objectInit]) [1080] (by decide +kernel) (by decide +kernel) _ List.mem_cons_self
theorem oi_i : Cond.instanceMethod Lib.objectInit ∈ g_UW := g_uwR (ws := [.instanceMethod Lib.objectInit]) [116] (by decide +kernel) (by decide +kernel) _ List.mem_cons_self
theorem oi_c : Cond.code Lib.objectInit ⟨#[0xb1]⟩ 1 none ∈ g_UW := g_uwR (ws := [.code Lib.objectInit ⟨#[0xb1]⟩ 1 none]) [117] (by decide +kernel) (by decide +kernel) _ List.mem_cons_self
theorem in_X5_9 : g_IN RX5 9 yX3_init μX3_init := ⟨g_uwR [122, 91, 121] (by decide +kernel) (by decide +kernel), rfl, by decide +kernel, by decide, rfl⟩
theorem in_X5_21 : g_IN RX5 21 yX0_init μX0_init := ⟨g_uwR [206, 92, 205] (by decide +kernel) (by decide +kernel), rfl, by decide +kernel, by decide, rfl⟩
theorem in_X5_51 : g_IN RX5 51 yX2_init μX2_init := ⟨g_uwR [219, 93, 218] (by decide +kernel) (by decide +kernel), rfl, by decide +kernel, by decide, rfl⟩
theorem in_X5_61 : g_IN RX5 61 yX4_init μX4_init := ⟨g_uwR [269, 94, 268] (by decide +kernel) (by decide +kernel), rfl, by decide +kernel, by decide, rfl⟩
theorem in_X5_246 : g_IN RX5 246 yX1_init μX1_init := ⟨g_uwR [929, 109, 928] (by decide +kernel) (by decide +kernel), rfl, by decide +kernel, by decide, rfl⟩
theorem in_X2_11 : g_IN RX2 11 yX3_init μX3_init := ⟨g_uwR [122, 91, 121] (by decide +kernel) (by decide +kernel), rfl, by decide +kernel, by decide, rfl⟩
theorem in_X4_11 : g_IN RX4 11 yX3_init μX3_init := ⟨g_uwR [122, 91, 121] (by decide +kernel) (by decide +kernel), rfl, by decide +kernel, by decide, rfl⟩
theorem in_X1_24 : g_IN RX1 24 yX3_init μX3_init := ⟨g_uwR [122, 91, 121] (by decide +kernel) (by decide +kernel), rfl, by decide +kernel, by decide, rfl⟩
abbrev nulX3 : gT := [none, none, none, none, none, none, some none, some none, some none, some none, some none, some none, some none, some none, some none, some none]
theorem nfX3 (ad : Nat → Nat) (j : Nat) (hj : j < 16) : defaultValue (tyX3 j) = vp_V (g_fs ad nulX3 (fun _ => 0)) j := by
  have e : g_fs ad nulX3 (fun _ => 0) = [.int 0, .int 0, .int 0, .int 0, .int 0, .int 0, .null, .null, .null, .null, .null, .null, .null, .null, .null, .null] := by simp [g_fs, g_fv, List.mapIdx_cons]
  rw [e]
  revert j
  decide +kernel
theorem nrX3 (k a : Nat) : ¬ nulX3[k]? = some (some (some a)) := fun h => by
  have := List.mem_of_getElem? h
  simp at this
abbrev nulX0 : gT := [none, some none]
theorem nfX0 (ad : Nat → Nat) (j : Nat) (hj : j < 2) : defaultValue (tyX0 j) = vp_V (g_fs ad nulX0 (fun _ => 0)) j := by
  have e : g_fs ad nulX0 (fun _ => 0) = [.int 0, .null] := by simp [g_fs, g_fv, List.mapIdx_cons]
  rw [e]
  revert j
  decide +kernel
theorem nrX0 (k a : Nat) : ¬ nulX0[k]? = some (some (some a)) := fun h => by
  have := List.mem_of_getElem? h
  simp at this
abbrev nulX2 : gT := [some none, some none, none, none, none, none, none, none, none, none, none, none, none]
theorem nfX2 (ad : Nat → Nat) (j : Nat) (hj : j < 13) : defaultValue (tyX2 j) = vp_V (g_fs ad nulX2 (fun _ => 0)) j := by
  have e : g_fs ad nulX2 (fun _ => 0) = [.null, .null, .int 0, .int 0, .int 0, .int 0, .int 0, .int 0, .int 0, .int 0, .int 0, .int 0, .int 0] := by simp [g_fs, g_fv, List.mapIdx_cons]
  rw [e]
  revert j
  decide +kernel
theorem nrX2 (k a : Nat) : ¬ nulX2[k]? = some (some (some a)) := fun h => by
  have := List.mem_of_getElem? h
  simp at this
abbrev nulX4 : gT := [some none, some none, none, none, none]
theorem nfX4 (ad : Nat → Nat) (j : Nat) (hj : j < 5) : defaultValue (tyX4 j) = vp_V (g_fs ad nulX4 (fun _ => 0)) j := by
  have e : g_fs ad nulX4 (fun _ => 0) = [.null, .null, .int 0, .int 0, .int 0] := by simp [g_fs, g_fv, List.mapIdx_cons]
  rw [e]
  revert j
  decide +kernel
theorem nrX4 (k a : Nat) : ¬ nulX4[k]? = some (some (some a)) := fun h => by
  have := List.mem_of_getElem? h
  simp at this
abbrev nulX1 : gT := [some none, some none, some none, some none, none, none]
theorem nfX1 (ad : Nat → Nat) (j : Nat) (hj : j < 6) : defaultValue (tyX1 j) = vp_V (g_fs ad nulX1 (fun _ => 0)) j := by
  have e : g_fs ad nulX1 (fun _ => 0) = [.null, .null, .null, .null, .int 0, .int 0] := by simp [g_fs, g_fv, List.mapIdx_cons]
  rw [e]
  revert j
  decide +kernel
theorem nrX1 (k a : Nat) : ¬ nulX1[k]? = some (some (some a)) := fun h => by
  have := List.mem_of_getElem? h
  simp at this
abbrev nulX5 : gT := [some none, some none, some none, none, none, none, some none, some none, none, none, some none, none, some none, some none, none, some none, some none, some none]
theorem nfX5 (ad : Nat → Nat) (j : Nat) (hj : j < 18) : defaultValue (tyX5 j) = vp_V (g_fs ad nulX5 (fun _ => 0)) j := by
  have e : g_fs ad nulX5 (fun _ => 0) = [.null, .null, .null, .int 0, .int 0, .int 0, .null, .null, .int 0, .int 0, .null, .int 0, .null, .null, .int 0, .null, .null, .null] := by simp [g_fs, g_fv, List.mapIdx_cons]
  rw [e]
  revert j
  decide +kernel
theorem nrX5 (k a : Nat) : ¬ nulX5[k]? = some (some (some a)) := fun h => by
  have := List.mem_of_getElem? h
  simp at this
abbrev nulX6 : gT := [some none, none, some none, some none, some none, some none, some none, some none, some none, some none, some none, some none, none, some none, none, none, none, none, none, none, none, none, none, none, none, some none, some none, some none, some none, some none, some none, some none, none, none, none, none, none, none, some none, some none, some none, some none, some none, some none, none, none, some none, some none, none, none, none, some none, some none, some none, some none]
theorem nfX6 (ad : Nat → Nat) (j : Nat) (hj : j < 55) : defaultValue (tyX6 j) = vp_V (g_fs ad nulX6 (fun _ => 0)) j := by
  have e : g_fs ad nulX6 (fun _ => 0) = [.null, .int 0, .null, .null, .null, .null, .null, .null, .null, .null, .null, .null, .int 0, .null, .int 0, .int 0, .int 0, .int 0, .int 0, .int 0, .int 0, .int 0, .int 0, .int 0, .int 0, .null, .null, .null, .null, .null, .null, .null, .int 0, .int 0, .int 0, .int 0, .int 0, .int 0, .null, .null, .null, .null, .null, .null, .int 0, .int 0, .null, .null, .int 0, .int 0, .int 0, .null, .null, .null, .null] := by simp [g_fs, g_fv, List.mapIdx_cons]
  rw [e]
  revert j
  decide +kernel
theorem nrX6 (k a : Nat) : ¬ nulX6[k]? = some (some (some a)) := fun h => by
  have := List.mem_of_getElem? h
  simp at this
