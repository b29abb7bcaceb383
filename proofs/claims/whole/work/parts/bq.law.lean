/-! THE CLAIM OUT OF ONE WALK OF THE LAW'S BODY. Your part is whole_start (and what it stands on); all else here is the same for every law, but numbers. -/
def R_law : String := "HeavyGiftsLaw"
def lw_P (b : Addr) (xs : List Int32) (args : Array Value) (s : State) : Prop := args = #[.ref b] ∧ s.IntsAt b xs ∧ xs.length ≤ 3072 ∧ (Jvm.Cond.and given_1 narrow_1).before args s = true
def lw_Q (_ : Array Value) (s : State) (o : Outcome) (t : State) : Prop := o = .returned (some (.int 1)) ∧ Framed s o t [] 601024 7293034
def lw_Z (below : List Frame) (a : Array Value) (s : State) : State → Prop := fun t => ∃ o, t.status = .running ∧ Ended t below o ∧ lw_Q a s o t
/-- the law's own end, with 1 on the stack, nothing written that was there before, its room as the claim has it -/
theorem lw_ret {p : Program} {l : Launch} {e : Env} {s : State} {m : MethodId} {below : List Frame} {meth : Method} {c : Code} {b : Nat} (hx : p.tables.exec = Jvm.exec) (hb : c.code = code) (hr : meth.sig.returnType = ret) (hlocks : meth.locks = false) {pc : Nat} {H : Heap} {ls : Array Slot} (hdg : decode code pc = .ok (.ireturn, 1)) : W p l e room_1 s m #[Value.ref b] below meth c H [] 601024 7293034 (lw_Z below #[Value.ref b] s) (F0 m pc ls [.int 1]) := by
  intro T hT X
  obtain ⟨fs, hret, hrun, hended, hW, hframe⟩ := X.leave (v := some (.int 1)) (hlocks := hlocks) (fun h => by rw [hr] at h; cases h)
  have hmeth' : T.vm.method? m = some meth := X.method'
  refine ⟨T.setFrames fs, ?_, .returned (some (.int 1)), hrun, hended, rfl, ⟨_, rfl⟩, hW, hframe⟩
  jvm_step X.here [X.here.top, hx, hb, hdg, hmeth', hr, ret, narrow_b1]
  (try refine ⟨rfl, ?_⟩); (try refine ⟨rfl, ?_⟩)
  first | (intro acts; rw [hret _ acts rfl rfl rfl]) | rw [hret _ _ rfl rfl rfl]
  exact Steps.refl _
/-- what holds at the law's entry: the machine, the code, the tables' words (any of lw_tbl by 'hts w (by decide +kernel)'), the script of L ints xs at the cell b, what the Statement gives of the start (any of its parts by flat_of_before) -/
def lw_At (p : Program) (s : State) (m : MethodId) (meth : Method) (c : Code) (b L : Nat) (xs : Nat → Int32) : Prop :=
  p.tables.exec = Jvm.exec ∧ c.code = code ∧ meth.sig.returnType = ret ∧ c.maxLocals = 7 ∧ s.vm.findClass R_law = some m.cls ∧ (∀ w ∈ lw_tbl, w.before #[Value.ref b] s = true) ∧ va_X b L xs s s.heap ∧ b < s.heap.size ∧ meth.locks = false ∧ (Jvm.Cond.and given_1 narrow_1).before #[Value.ref b] s = true
abbrev μL_law : gY := (cL_law, RL, 7, some .boolean)
def g_ZL (b L : Nat) (xs : Nat → Int32) : gZ := fun below args s A t => zSc b L xs s A ∧ PXL s ∧ args = #[.ref b] ∧ (∀ q, A q → s.heap.size ≤ q) → lw_Z below args s t
theorem zL_s {b L : Nat} {xs : Nat → Int32} (b' : List Frame) (a : Array Value) (s : State) (A : Nat → Prop) (t : State) (h : ¬ zSc b L xs s A) : g_ZL b L xs b' a s A t := fun hx => absurd hx.1 h
theorem zL_p {b L : Nat} {xs : Nat → Int32} (b' : List Frame) (a : Array Value) (s : State) (A : Nat → Prop) (t : State) (h : ¬ PXL s) : g_ZL b L xs b' a s A t := fun hx => absurd hx.2.1 h
abbrev lvL (i : Int32) (y5 y6 : Option Value) : List (Option Value) := [some (.ref 598), some (.ref 0), some (.ref 300), some (.ref 500), some (.int i), y5, y6]
theorem g_retL {b L : Nat} {xs : Nat → Int32} {Γ : gW} {kn : Nat × Nat} {lv : List (Option Value)} {M : gM} (hk : kn.1 ≤ 601024 ∧ kn.2 ≤ 7293034) : G Γ μL_law room_1 kn (g_ZL b L xs) 1509 lv [.int 1] M := by
  intro p l e s m args below meth c H locs A ls F X T hT X0
  by_cases hE : zSc b L xs s A ∧ PXL s ∧ args = #[.ref b] ∧ (∀ q, A q → s.heap.size ≤ q)
  · obtain ⟨h1, h2, h3, h4⟩ := hE
    subst h3
    obtain ⟨t, a, b9⟩ := va_forget (fun q hq => h4 _ (X.2.2.1.2.2 q hq)) (W.widen hk.1 hk.2 (lw_ret F.1 F.2.1 (by rw [F.2.2.1]; rfl) F.2.2.2.1 dL_law_1509)) T hT X0
    exact ⟨t, a, fun _ => b9⟩
  · exact ⟨_, Steps.refl _, fun h => absurd h hE⟩
def yi (y : Option Value) : Prop := y = none ∨ ∃ z : Int32, y = some (.int z)
theorem lv_in {b : Nat} {Γ : gW} {gt : Option Nat} {i : Int32} {y5 y6 : Option Value} (hS : LSh b Γ gt) (h5 : yi y5) (h6 : yi y6) : ∀ (k : Nat) (v : Value), (lvL i y5 y6)[k]? = some (some v) → g_in Γ v := by
  intro k v hk
  have hm := List.mem_of_getElem? hk
  simp only [lvL, List.mem_cons, List.not_mem_nil, or_false, Option.some.injEq] at hm
  have yv : ∀ y, yi y → some v = y → g_in Γ v := fun y hy e => by
    rcases hy with rfl | ⟨z, rfl⟩
    · cases e
    · cases e; trivial
  rcases hm with rfl | rfl | rfl | rfl | rfl | e | e
  · exact Or.inr (by decide)
  · exact Or.inl hS.1.1.1
  · exact Or.inl hS.2.1.1.1
  · exact Or.inl hS.2.2.2.1.1
  · trivial
  · exact yv _ h5 e
  · exact yv _ h6 e
section GA
variable {b L : Nat} {xs : Nat → Int32} {Γ : gW} {R : Room} {kn : Nat × Nat} {pc q : Nat} {st : List Value} {M : gM} {i : Int32} {y5 y6 : Option Value}
/-- an argument out of the script -/
theorem g_argL {it : Nat} {j : Int} {jn : Nat} (hb : Γ.2.2.1 598 = b) (hi : i.toInt = 6 * (it : Int)) (hL : 6 * it + 6 ≤ L) (hit : it ≤ 600) (d0 : decode cL_law pc = .ok (.aload_n 0, 1)) (d1 : decode cL_law (pc + 1) = .ok (.iload 4, 2)) (d2 : decode cL_law (pc + 1 + 2) = .ok (.iconst j, 1)) (d3 : decode cL_law (pc + 1 + 2 + 1) = .ok (.iadd, 1)) (d4 : decode cL_law (pc + 1 + 2 + 1 + 1) = .ok (.iaload, 1)) (hq : pc + 1 + 2 + 1 + 1 + 1 = q) (hj : j = (jn : Int)) (hj5 : jn ≤ 5) (k : G Γ μL_law R kn (g_ZL b L xs) q (lvL i y5 y6) (.int (xs (6 * it + jn)) :: st) M) : G Γ μL_law R kn (g_ZL b L xs) pc (lvL i y5 y6) st M := by
  subst hj
  refine g_aload_n0 d0 rfl ?_
  refine g_iload4 d1 rfl ?_
  refine g_iconstI d2 rfl (ofI (by omega)) (fun w hw => ?_)
  refine g_iaddI d3 rfl (by omega) (fun w2 hw2 => ?_)
  refine g_sldL (b := b) (L := L) (xs := xs) zL_s hb d4 hq (by omega) ?_
  rw [show w2.toInt.toNat = 6 * it + jn by omega]
  exact k
end GA
theorem cmp_self (x : Int64) : lg_cmp x x = 0 := by unfold lg_cmp; simp
