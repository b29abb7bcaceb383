/-! the world of the whole system: objects by numbers, whole numbers in two tables; a judgement G at a frame; contracts Ct -/
def g_UW : List Cond := lw_tbl.filter goodWord
theorem g_uw {w : Cond} (i : Nat) (h : (lw_tbl[i]?).any (fun x => decide (x = w)) = true) (hg : goodWord w = true) : w ∈ g_UW := by
  refine List.mem_filter.mpr ⟨?_, hg⟩
  cases h1 : lw_tbl[i]? with
  | none => rw [h1] at h; cases h
  | some x =>
    rw [h1] at h
    have h2 : x = w := by simpa using h
    subst h2
    exact List.mem_of_getElem? h1
theorem g_uw_good {ws : List Cond} (h : ∀ w ∈ ws, w ∈ g_UW) : GoodIn g_UW ws := fun w hw => ⟨h w hw, good_of_word (List.mem_filter.mp (h w hw)).2⟩
abbrev gM : Type := (Nat → Nat → Int32) × (Nat → Nat → Int64)
abbrev gT : Type := List (Option (Option Nat))
abbrev gS : Type := Nat → (Nat × gT) ⊕ (Nat × Nat)
abbrev gW : Type := va_G × (Nat → ClassId) × (Nat → Nat) × List Nat × gS
abbrev gY : Type := ByteArray × String × Nat × Option FieldType
def g_v (ad : Nat → Nat) : Value → Value
  | .ref a => .ref (ad a)
  | v => v
def g_fv (ad : Nat → Nat) (x : Int32) : Option (Option Nat) → Value
  | none => .int x
  | some none => .null
  | some (some j) => .ref (ad j)
def g_fs (ad : Nat → Nat) (t : gT) (f : Nat → Int32) : List Value := t.mapIdx (fun k o => g_fv ad (f k) o)
def g_E (Γ : gW) (M : gM) (i : Nat) : va_E := match Γ.2.2.2.2 i with
  | .inl (ci, t) => .inr (ci, g_fs Γ.2.2.1 t (M.1 i))
  | .inr (tc, n) => .inl (Γ.2.1 tc, n, if tc = 2 then .inr (.inl (M.2 i)) else if tc = 5 then .inr (.inr (.inr (.inr (fun j => if (M.1 i j).toInt < 0 then none else some (Γ.2.2.1 (M.1 i j).toInt.toNat))))) else .inl (M.1 i))
def g_ws (Γ : gW) (M : gM) : va_W := Γ.2.2.2.1.map (fun i => (Γ.2.2.1 i, g_E Γ M i))
def g_T (Γ : gW) : List (ClassId × FieldType) := [(Γ.2.1 0, .byte), (Γ.2.1 1, .int), (Γ.2.1 2, .long), (Γ.2.1 3, .short), (Γ.2.1 4, .boolean), (Γ.2.1 5, .object "java/lang/String")]
def g_o (Γ : gW) (i : Nat) (sh : (Nat × gT) ⊕ (Nat × Nat)) : Prop := i ∈ Γ.2.2.2.1 ∧ Γ.2.2.2.2 i = sh
def g_u (M : gM) (i k : Nat) (x : Int32) : gM := (fun a b => if a = i ∧ b = k then x else M.1 a b, M.2)
def g_ul (M : gM) (i k : Nat) (x : Int64) : gM := (M.1, fun a b => if a = i ∧ b = k then x else M.2 a b)
/-! constants: the String of place c is number 600 + c, its bytes number 700 + c; statics that are read -/
def gCs : List (String × Nat × String × List Int32) := [(RX2, 76, "person", [112, 101, 114, 115, 111, 110]), (RX2, 115, "sand", [115, 97, 110, 100]), (RX2, 132, "plain", [112, 108, 97, 105, 110]), (RX2, 134, "least", [108, 101, 97, 115, 116]), (RX2, 136, "fewest", [102, 101, 119, 101, 115, 116]), (RX2, 138, "aim", [97, 105, 109]), (RX2, 140, "wait", [119, 97, 105, 116]), (RX2, 88, "thing", [116, 104, 105, 110, 103]), (RX2, 148, "wet", [119, 101, 116]), (RX2, 93, "owes", [111, 119, 101, 115]), (RX2, 161, "to", [116, 111]), (RX2, 98, "law", [108, 97, 119]), (RX2, 166, "giver", [103, 105, 118, 101, 114]), (RX2, 168, "anyone", [97, 110, 121, 111, 110, 101]), (RX2, 103, "within", [119, 105, 116, 104, 105, 110]), (RX6, 9, "plain", [112, 108, 97, 105, 110]), (RX6, 11, "least", [108, 101, 97, 115, 116]), (RX6, 13, "fewest", [102, 101, 119, 101, 115, 116]), (RX6, 15, "aim", [97, 105, 109]), (RX6, 17, "wait", [119, 97, 105, 116]), (RX6, 221, "law", [108, 97, 119]), (RX6, 223, "within", [119, 105, 116, 104, 105, 110]), (RX6, 225, "person", [112, 101, 114, 115, 111, 110]), (RX6, 202, "sand", [115, 97, 110, 100]), (RX6, 230, "thing", [116, 104, 105, 110, 103]), (RX6, 213, "wet", [119, 101, 116]), (RX6, 235, "owes", [111, 119, 101, 115]), (RX6, 215, "to", [116, 111]), (RX6, 217, "giver", [103, 105, 118, 101, 114]), (RX6, 219, "anyone", [97, 110, 121, 111, 110, 101])]
def g_Ly (C n d : String) (A : Nat → Prop) (U : State) (H : Heap) : Prop := ∃ (c : ClassId) (k : Class) (i : Nat) (f : Field) (a : Nat) (cell : Cell), U.vm.findClass C = some c ∧ U.fieldFound? C n d = some (c, k, i, f) ∧ f.isStatic = true ∧ k.statics = some a ∧ H[a]? = some cell ∧ cell.vm.isStatics = true ∧ cell.cls = c ∧ f.slot < cell.slots.size ∧ k.staticTypes[f.slot]? = some f.type ∧ ¬ A a
def g_K1 (Γ : gW) (c : Nat) (q : String × Nat × String × List Int32) (A : Nat → Prop) (U : State) (H : Heap) : Prop := vk_R q.1 q.2.1 q.2.2.1 (Γ.2.2.1 (600 + c)) U ∧ va_O "java/lang/String" (Γ.2.2.1 (600 + c)) A U H ∧ va_OF "java/lang/String" "coder" "B" (.int 0) (Γ.2.2.1 (600 + c)) A U H ∧ va_OF "java/lang/String" "value" "[B" (.ref (Γ.2.2.1 (700 + c))) (Γ.2.2.1 (600 + c)) A U H ∧ va_T .byte (Γ.2.2.1 (700 + c)) q.2.2.2.length (fun j => .int (q.2.2.2.getD j 0)) A U H
def g_K2 (Γ : gW) (A : Nat → Prop) (U : State) (H : Heap) : Prop := va_Z "java/lang/String" "COMPACT_STRINGS" "Z" (.int 1) A U H ∧ (va_Z "jdk/internal/util/Preconditions" "SIOOBE_FORMATTER" "Ljava/util/function/BiFunction;" .null A U H ∨ va_Z "jdk/internal/util/Preconditions" "SIOOBE_FORMATTER" "Ljava/util/function/BiFunction;" (.ref (Γ.2.2.1 599)) A U H)
def g_K3 (C n d : String) (A : Nat → Prop) (U : State) (H : Heap) : Prop := va_Zq C n d A U H ∧ g_Ly C n d A U H
def g_KH (Γ : gW) (A : Nat → Prop) (U : State) (H : Heap) : Prop := (∀ (c : Nat) (q : String × Nat × String × List Int32), gCs[c]? = some q → g_K1 Γ c q A U H) ∧ g_K2 Γ A U H ∧ g_K3 "java/lang/Throwable" "UNASSIGNED_STACK" "[Ljava/lang/StackTraceElement;" A U H ∧ g_K3 "java/lang/Throwable" "SUPPRESSED_SENTINEL" "Ljava/util/List;" A U H
theorem g_Ly.moved {C n d : String} {A : Nat → Prop} {u U : State} {H : Heap} (hvm : u.vm.Alike U.vm) (h : g_Ly C n d A u H) : g_Ly C n d A U H := by
  obtain ⟨c, k, i, f, a, cell, h1, h2, h3, h4, h5, h6, h7, h8, h9, h10⟩ := h
  obtain ⟨k', hi', he⟩ := State.fieldFound?_setVm hvm h2
  exact ⟨c, k', i, f, a, cell, by rw [hvm.findClass]; exact h1, hi', h3, by rw [he]; exact h4, h5, h6, h7, h8, by rw [he]; exact h9, h10⟩
theorem g_Ly.to {C n d : String} {A B : Nat → Prop} {U : State} {H H1 : Heap} (h : g_Ly C n d A U H) (hq : ∀ a : Nat, a < H.size → ¬ A a → H1[a]? = H[a]?) (hAB : ∀ q, B q → A q) : g_Ly C n d B U H1 := by
  obtain ⟨c, k, i, f, a, cell, h1, h2, h3, h4, h5, h6, h7, h8, h9, h10⟩ := h
  exact ⟨c, k, i, f, a, cell, h1, h2, h3, h4, by rw [hq a (Array.getElem?_eq_some_iff.mp h5).1 h10]; exact h5, h6, h7, h8, h9, fun z => h10 (hAB _ z)⟩
theorem g_K3.to {C n d : String} {A B : Nat → Prop} {u U : State} {H H1 : Heap} (h : g_K3 C n d A u H) (hvm : u.vm.Alike U.vm) (hq : ∀ a : Nat, a < H.size → ¬ A a → H1[a]? = H[a]?) (hAB : ∀ q, B q → A q) : g_K3 C n d B U H1 := ⟨((va_Zq.moved hvm h.1).kept hq).narrow hAB, (g_Ly.moved hvm h.2).to hq hAB⟩
theorem g_K2.to {Γ : gW} {A B : Nat → Prop} {u U : State} {H H1 : Heap} (h : g_K2 Γ A u H) (hvm : u.vm.Alike U.vm) (hq : ∀ a : Nat, a < H.size → ¬ A a → H1[a]? = H[a]?) (hAB : ∀ q, B q → A q) : g_K2 Γ B U H1 := ⟨((va_Z.moved hvm h.1).kept hq).narrow hAB, h.2.elim (fun h => Or.inl (((va_Z.moved hvm h).kept hq).narrow hAB)) (fun h => Or.inr (((va_Z.moved hvm h).kept hq).narrow hAB))⟩
theorem g_KH.to {Γ : gW} {A B : Nat → Prop} {u U : State} {H H1 : Heap} (h : g_KH Γ A u H) (hR : ∀ (own tx : String) (k a : Nat), vk_R own k tx a u → vk_R own k tx a U) (hvm : u.vm.Alike U.vm) (hq : ∀ a : Nat, a < H.size → ¬ A a → H1[a]? = H[a]?) (hAB : ∀ q, B q → A q) : g_KH Γ B U H1 := by
  obtain ⟨h1, h2, h3, h4⟩ := h
  refine ⟨fun c q hc => ?_, h2.to hvm hq hAB, h3.to hvm hq hAB, h4.to hvm hq hAB⟩
  obtain ⟨a1, a2, a3, a4, a5⟩ := h1 c q hc
  exact ⟨hR _ _ _ _ a1, ((va_O.moved hvm a2).kept hq).narrow hAB, ((va_OF.moved hvm a3).kept hq).narrow hAB, ((va_OF.moved hvm a4).kept hq).narrow hAB, ((va_T.moved hvm a5).kept hq).narrow hAB⟩
def g_L (Γ : gW) (ls : Array Slot) (nL : Nat) (lv : List (Option Value)) : Prop := ls.size = nL ∧ lv_wf ls ∧ lv.length = nL ∧ ∀ (k : Nat) (v : Value), lv[k]? = some (some v) → ls[k]? = some (.val (g_v Γ.2.2.1 v))
def g_R (d : Nat) : Room := { frames := d + 1, cells := 0, slots := 0, locals := 40 + 50 * d }
def g_Q (Γ : gW) (Q : Option Value → gM → Prop) (A : Nat → Prop) : Array Value → State → Outcome → State → Prop := fun _ st oc t => (∃ (v : Option Value) (M' : gM), oc = .returned (v.map (g_v Γ.2.2.1)) ∧ Q v M' ∧ va_P Γ.1 vwCl (g_ws Γ M') t.heap) ∧ va_F A st t
abbrev gZ : Type := List Frame → Array Value → State → (Nat → Prop) → State → Prop
def g_Z (Γ : gW) (Q : Option Value → gM → Prop) : gZ := fun below args s A => MQ below (g_Q Γ Q A) args s 0 0 A
/-- what stays during a method -/
def g_F (Γ : gW) (μ : gY) (R : Room) (kn : Nat × Nat) (p : Program) (s : State) (m : MethodId) (args : Array Value) (meth : Method) (c : Code) (A : Nat → Prop) : Prop :=
  p.tables.exec = Jvm.exec ∧ c.code = μ.1 ∧ meth.sig.returnType = μ.2.2.2 ∧ meth.locks = false ∧ c.maxLocals = μ.2.2.1 ∧ s.vm.findClass μ.2.1 = some m.cls ∧ (∀ w ∈ g_UW, w.before args s = true) ∧ va_K Γ.1 vwCl (g_T Γ) s ∧ (∀ q : Nat, s.heap.size ≤ q → A q) ∧ kn.1 ≤ R.cells ∧ kn.2 ≤ R.slots ∧ g_KH Γ A s s.heap
/-- what moves -/
def g_X (Γ : gW) (μ : gY) (s : State) (H : Heap) (locs : List Loc) (A : Nat → Prop) (ls : Array Slot) (lv : List (Option Value)) (M : gM) : Prop :=
  va_P Γ.1 vwCl (g_ws Γ M) H ∧ va_D A (g_ws Γ M) ∧ va_S A s.heap H locs ∧ g_L Γ ls μ.2.2.1 lv
/-- launches without stack traces -/
abbrev gLn : Type := { l : Launch // l.stackTraces = false }
def G (Γ : gW) (μ : gY) (R : Room) (kn : Nat × Nat) (Z : gZ) (pc : Nat) (lv : List (Option Value)) (st : List Value) (M : gM) : Prop :=
  ∀ (p : Program) (l : gLn) (e : Env) (s : State) (m : MethodId) (args : Array Value) (below : List Frame) (meth : Method) (c : Code) (H : Heap) (locs : List Loc) (A : Nat → Prop) (ls : Array Slot),
    g_F Γ μ R kn p s m args meth c A → g_X Γ μ s H locs A ls lv M → W p l.1 e R s m args below meth c H locs kn.1 kn.2 (Z below args s A) (F0 m pc ls (st.map (g_v Γ.2.2.1)))
def Ct (Γ : gW) (y : MethodName) (μ : gY) (d : Nat) (av : List Value) (M : gM) (Q : Option Value → gM → Prop) : Prop :=
  ∀ (l : gLn) (sz : Nat), Met l.1 y (.code y μ.1 μ.2.2.1 μ.2.2.2 :: g_UW) (g_R d) (va_Pc (av.map (g_v Γ.2.2.1)) (fun U => U.heap.size = sz ∧ va_P Γ.1 vwCl (g_ws Γ M) U.heap ∧ va_K Γ.1 vwCl (g_T Γ) U ∧ va_D (fun _ => True) (g_ws Γ M) ∧ g_KH Γ (va_A (g_ws Γ M) sz) U U.heap)) (g_Q Γ Q (va_A (g_ws Γ M) sz)) 0 0 (va_A (g_ws Γ M) sz)
/-! lookups -/
theorem g_ws_at {Γ : gW} {M : gM} {i : Nat} (h : i ∈ Γ.2.2.2.1) : ∃ q0 : Nat, Γ.2.2.2.1[q0]? = some i ∧ (g_ws Γ M)[q0]? = some (Γ.2.2.1 i, g_E Γ M i) := by
  obtain ⟨q0, hq⟩ := List.getElem?_of_mem h
  exact ⟨q0, hq, by simp [g_ws, hq]⟩
theorem g_ws_set {Γ : gW} {M M' : gM} {A : Nat → Prop} {i q0 : Nat} {x : va_E} (hD : va_D A (g_ws Γ M)) (hq : Γ.2.2.2.1[q0]? = some i) (hx : g_E Γ M' i = x) (ho : ∀ j, j ≠ i → g_E Γ M' j = g_E Γ M j) : (g_ws Γ M).set q0 (Γ.2.2.1 i, x) = g_ws Γ M' := by
  have hat : (g_ws Γ M)[q0]? = some (Γ.2.2.1 i, g_E Γ M i) := by simp [g_ws, hq]
  have hlt : q0 < (g_ws Γ M).length := (List.getElem?_eq_some_iff.mp hat).1
  refine List.ext_getElem? fun q => ?_
  by_cases h : q0 = q
  · subst h
    rw [List.getElem?_set_self hlt]
    simp [g_ws, hq, hx]
  · rw [List.getElem?_set_ne h]
    cases hj : Γ.2.2.2.1[q]? with
    | none => simp [g_ws, hj]
    | some j =>
      have hat2 : (g_ws Γ M)[q]? = some (Γ.2.2.1 j, g_E Γ M j) := by simp [g_ws, hj]
      by_cases hji : j = i
      · subst hji
        exact absurd (hD.1 q0 q _ _ hat hat2 rfl) h
      · rw [hat2]
        simp [g_ws, hj, ho j hji]
theorem g_D_any {Γ : gW} {M M' : gM} {A : Nat → Prop} (hD : va_D A (g_ws Γ M)) : va_D A (g_ws Γ M') := by
  have at' : ∀ (k : Nat) (q : Nat × va_E), (g_ws Γ M')[k]? = some q → ∃ q' : Nat × va_E, (g_ws Γ M)[k]? = some q' ∧ q'.1 = q.1 := by
    intro k q h
    cases hj : Γ.2.2.2.1[k]? with
    | none => simp [g_ws, hj] at h
    | some j =>
      simp [g_ws, hj] at h
      exact ⟨(Γ.2.2.1 j, g_E Γ M j), by simp [g_ws, hj], by rw [← h]⟩
  refine ⟨fun i j p q h1 h2 he => ?_, fun k q h => ?_⟩
  · obtain ⟨p', a1, b1⟩ := at' i p h1
    obtain ⟨q', a2, b2⟩ := at' j q h2
    exact hD.1 i j p' q' a1 a2 (by rw [b1, b2, he])
  · obtain ⟨q', a2, b2⟩ := at' k q h
    rw [← b2]
    exact hD.2 k q' a2
/-! locals -/
def g_pairs (ad : Nat → Nat) (lv : List (Option Value)) : List (Nat × Value) := lv.zipIdx.filterMap (fun q => q.1.map (fun v => (q.2, g_v ad v)))
theorem g_mem_pairs {ad : Nat → Nat} {lv : List (Option Value)} {k : Nat} {w : Value} : (k, w) ∈ g_pairs ad lv ↔ ∃ v, lv[k]? = some (some v) ∧ w = g_v ad v := by
  unfold g_pairs
  rw [List.mem_filterMap]
  constructor
  · rintro ⟨⟨o, j⟩, h1, h2⟩
    rw [List.mk_mem_zipIdx_iff_getElem?] at h1
    cases o with
    | none => cases h2
    | some v =>
      simp only [Option.map_some, Option.some.injEq, Prod.mk.injEq] at h2
      obtain ⟨rfl, rfl⟩ := h2
      exact ⟨v, h1, rfl⟩
  · rintro ⟨v, h, rfl⟩
    exact ⟨(some v, k), (List.mk_mem_zipIdx_iff_getElem?).mpr h, rfl⟩
theorem g_L_has {Γ : gW} {ls : Array Slot} {nL : Nat} {lv : List (Option Value)} (h : g_L Γ ls nL lv) : lv_has ls nL (g_pairs Γ.2.2.1 lv) := by
  refine ⟨h.1, h.2.1, fun q hq => ?_⟩
  obtain ⟨v, h1, h2⟩ := g_mem_pairs.mp (show (q.1, q.2) ∈ _ from hq)
  rw [h2]
  exact h.2.2.2 _ _ h1
def g_c1 : Option Value → Bool
  | some v => !(v.category == 2)
  | none => true
theorem g_cat {ad : Nat → Nat} (v : Value) : (g_v ad v).category = v.category := by cases v <;> rfl
def g_nl (lv : List (Option Value)) (i : Nat) : Bool := match i with
  | 0 => true
  | j + 1 => g_c1 (lv.getD j none)
theorem g_L_set {Γ : gW} {ls' : Array Slot} {nL i : Nat} {lv : List (Option Value)} {x : Value} (hlen : lv.length = nL) (hn : g_nl lv i = true)
    (h : lv_has ls' nL ((i, g_v Γ.2.2.1 x) :: (g_pairs Γ.2.2.1 lv).filter (fun q => !(q.1 == i) && !(q.1 + 1 == i && q.2.category == 2)))) : g_L Γ ls' nL (lv.set i (some x)) := by
  refine ⟨h.1, h.2.1, by simp [hlen], fun k v hk => ?_⟩
  by_cases hki : k = i
  · subst hki
    rw [List.getElem?_set] at hk
    simp only [if_true] at hk
    split at hk
    · simp only [Option.some.injEq] at hk
      subst hk
      exact h.2.2 (k, _) List.mem_cons_self
    · cases hk
  · rw [List.getElem?_set_ne (fun e => hki e.symm)] at hk
    refine h.2.2 (k, g_v Γ.2.2.1 v) (List.mem_cons_of_mem _ (List.mem_filter.mpr ⟨g_mem_pairs.mpr ⟨v, hk, rfl⟩, ?_⟩))
    have h1 : (k == i) = false := by simpa using hki
    by_cases h2 : k + 1 = i
    · subst h2
      have h3 : (v.category == 2) = false := by
        have := hn
        simp only [g_nl, List.getD_eq_getElem?_getD, hk, Option.getD_some, g_c1, Bool.not_eq_true'] at this
        exact this
      simp [h1, g_cat, h3]
    · have h3 : (k + 1 == i) = false := by simpa using h2
      simp [h1, h3]
theorem g_L_set2 {Γ : gW} {ls' : Array Slot} {nL i : Nat} {lv : List (Option Value)} {x : Value} (hlen : lv.length = nL) (hn : g_nl lv i = true)
    (h : lv_has ls' nL ((i, g_v Γ.2.2.1 x) :: (g_pairs Γ.2.2.1 lv).filter (fun q => !(q.1 == i) && (!(q.1 == i + 1) && !(q.1 + 1 == i && q.2.category == 2))))) : g_L Γ ls' nL ((lv.set (i + 1) none).set i (some x)) := by
  refine ⟨h.1, h.2.1, by simp [hlen], fun k v hk => ?_⟩
  by_cases hki : k = i
  · subst hki
    rw [List.getElem?_set] at hk
    simp only [if_true] at hk
    split at hk
    · simp only [Option.some.injEq] at hk
      subst hk
      exact h.2.2 (k, _) List.mem_cons_self
    · cases hk
  · rw [List.getElem?_set_ne (fun e => hki e.symm)] at hk
    by_cases hk1 : k = i + 1
    · subst hk1
      rw [List.getElem?_set] at hk
      simp only [if_true] at hk
      split at hk <;> cases hk
    rw [List.getElem?_set_ne (fun e => hk1 e.symm)] at hk
    refine h.2.2 (k, g_v Γ.2.2.1 v) (List.mem_cons_of_mem _ (List.mem_filter.mpr ⟨g_mem_pairs.mpr ⟨v, hk, rfl⟩, ?_⟩))
    have h1 : (k == i) = false := by simpa using hki
    have h1b : (k == i + 1) = false := by simpa using hk1
    by_cases h2 : k + 1 = i
    · subst h2
      have h3 : (v.category == 2) = false := by
        have := hn
        simp only [g_nl, List.getD_eq_getElem?_getD, hk, Option.getD_some, g_c1, Bool.not_eq_true'] at this
        exact this
      simp [h1, h1b, g_cat, h3]
    · have h3 : (k + 1 == i) = false := by simpa using h2
      simp [h1, h1b, h3]
