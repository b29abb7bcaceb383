/-! what the Statement gives of the start -/
def nFl : List Cond := flatC (Jvm.Cond.and given_1 narrow_1)
abbrev gQ : Type := String × Nat × String × List Int32
def sTm (q : gQ) : Term := .field (.string q.1 q.2.1) "java/lang/String" "value" "[B"
def sCs (q : gQ) : List Cond := [.exactly (.string q.1 q.2.1) "java/lang/String", .eq (.field (.string q.1 q.2.1) "java/lang/String" "coder" "B") (.int 0), .arrayOf (sTm q) .byte, .eq (.length (sTm q)) (.int (Int32.ofNat q.2.2.2.length))] ++ (List.range q.2.2.2.length).map (fun j => .eq (.elem (sTm q) (.int (Int32.ofNat j))) (.int (q.2.2.2.getD j 0)))
theorem sub_of {ws fl : List Cond} (a n : Nat) (h : (fl.drop a).take n = ws) : ∀ w ∈ ws, w ∈ fl := by
  intro w hw
  subst h
  exact List.mem_of_mem_drop (List.mem_of_mem_take hw)
theorem sC_0 : ∀ w ∈ sCs (RX2, 76, "person", [112, 101, 114, 115, 111, 110]), w ∈ nFl := sub_of 27 10 (by decide +kernel)
theorem sC_1 : ∀ w ∈ sCs (RX2, 115, "sand", [115, 97, 110, 100]), w ∈ nFl := sub_of 37 8 (by decide +kernel)
theorem sC_2 : ∀ w ∈ sCs (RX2, 132, "plain", [112, 108, 97, 105, 110]), w ∈ nFl := sub_of 45 9 (by decide +kernel)
theorem sC_3 : ∀ w ∈ sCs (RX2, 134, "least", [108, 101, 97, 115, 116]), w ∈ nFl := sub_of 54 9 (by decide +kernel)
theorem sC_4 : ∀ w ∈ sCs (RX2, 136, "fewest", [102, 101, 119, 101, 115, 116]), w ∈ nFl := sub_of 63 10 (by decide +kernel)
theorem sC_5 : ∀ w ∈ sCs (RX2, 138, "aim", [97, 105, 109]), w ∈ nFl := sub_of 73 7 (by decide +kernel)
theorem sC_6 : ∀ w ∈ sCs (RX2, 140, "wait", [119, 97, 105, 116]), w ∈ nFl := sub_of 80 8 (by decide +kernel)
theorem sC_7 : ∀ w ∈ sCs (RX2, 88, "thing", [116, 104, 105, 110, 103]), w ∈ nFl := sub_of 88 9 (by decide +kernel)
theorem sC_8 : ∀ w ∈ sCs (RX2, 148, "wet", [119, 101, 116]), w ∈ nFl := sub_of 97 7 (by decide +kernel)
theorem sC_9 : ∀ w ∈ sCs (RX2, 93, "owes", [111, 119, 101, 115]), w ∈ nFl := sub_of 104 8 (by decide +kernel)
theorem sC_10 : ∀ w ∈ sCs (RX2, 161, "to", [116, 111]), w ∈ nFl := sub_of 112 6 (by decide +kernel)
theorem sC_11 : ∀ w ∈ sCs (RX2, 98, "law", [108, 97, 119]), w ∈ nFl := sub_of 118 7 (by decide +kernel)
theorem sC_12 : ∀ w ∈ sCs (RX2, 166, "giver", [103, 105, 118, 101, 114]), w ∈ nFl := sub_of 125 9 (by decide +kernel)
theorem sC_13 : ∀ w ∈ sCs (RX2, 168, "anyone", [97, 110, 121, 111, 110, 101]), w ∈ nFl := sub_of 134 10 (by decide +kernel)
theorem sC_14 : ∀ w ∈ sCs (RX2, 103, "within", [119, 105, 116, 104, 105, 110]), w ∈ nFl := sub_of 144 10 (by decide +kernel)
theorem sC_15 : ∀ w ∈ sCs (RX6, 9, "plain", [112, 108, 97, 105, 110]), w ∈ nFl := sub_of 154 9 (by decide +kernel)
theorem sC_16 : ∀ w ∈ sCs (RX6, 11, "least", [108, 101, 97, 115, 116]), w ∈ nFl := sub_of 164 9 (by decide +kernel)
theorem sC_17 : ∀ w ∈ sCs (RX6, 13, "fewest", [102, 101, 119, 101, 115, 116]), w ∈ nFl := sub_of 174 10 (by decide +kernel)
theorem sC_18 : ∀ w ∈ sCs (RX6, 15, "aim", [97, 105, 109]), w ∈ nFl := sub_of 185 7 (by decide +kernel)
theorem sC_19 : ∀ w ∈ sCs (RX6, 17, "wait", [119, 97, 105, 116]), w ∈ nFl := sub_of 193 8 (by decide +kernel)
theorem sC_20 : ∀ w ∈ sCs (RX6, 221, "law", [108, 97, 119]), w ∈ nFl := sub_of 202 7 (by decide +kernel)
theorem sC_21 : ∀ w ∈ sCs (RX6, 223, "within", [119, 105, 116, 104, 105, 110]), w ∈ nFl := sub_of 210 10 (by decide +kernel)
theorem sC_22 : ∀ w ∈ sCs (RX6, 225, "person", [112, 101, 114, 115, 111, 110]), w ∈ nFl := sub_of 221 10 (by decide +kernel)
theorem sC_23 : ∀ w ∈ sCs (RX6, 202, "sand", [115, 97, 110, 100]), w ∈ nFl := sub_of 232 8 (by decide +kernel)
theorem sC_24 : ∀ w ∈ sCs (RX6, 230, "thing", [116, 104, 105, 110, 103]), w ∈ nFl := sub_of 241 9 (by decide +kernel)
theorem sC_25 : ∀ w ∈ sCs (RX6, 213, "wet", [119, 101, 116]), w ∈ nFl := sub_of 251 7 (by decide +kernel)
theorem sC_26 : ∀ w ∈ sCs (RX6, 235, "owes", [111, 119, 101, 115]), w ∈ nFl := sub_of 259 8 (by decide +kernel)
theorem sC_27 : ∀ w ∈ sCs (RX6, 215, "to", [116, 111]), w ∈ nFl := sub_of 268 6 (by decide +kernel)
theorem sC_28 : ∀ w ∈ sCs (RX6, 217, "giver", [103, 105, 118, 101, 114]), w ∈ nFl := sub_of 275 9 (by decide +kernel)
theorem sC_29 : ∀ w ∈ sCs (RX6, 219, "anyone", [97, 110, 121, 111, 110, 101]), w ∈ nFl := sub_of 285 10 (by decide +kernel)
theorem sR_all : gCs.map (fun q => Cond.stringRef q.1 q.2.1 q.2.2.1) = [631, 692, 705, 706, 707, 708, 709, 718, 731, 736, 741, 742, 747, 748, 749, 1083, 1084, 1085, 1086, 1087, 1294, 1301, 1306, 1311, 1320, 1333, 1334, 1339, 1344, 1345].filterMap (fun i => lw_tbl[i]?) := by decide +kernel
theorem sC_all : ∀ (c : Nat) (q : gQ), gCs[c]? = some q → ∀ w ∈ sCs q, w ∈ nFl := by
  intro c q hq
  match c, hq with
  | 0, hq => cases hq; exact sC_0
  | 1, hq => cases hq; exact sC_1
  | 2, hq => cases hq; exact sC_2
  | 3, hq => cases hq; exact sC_3
  | 4, hq => cases hq; exact sC_4
  | 5, hq => cases hq; exact sC_5
  | 6, hq => cases hq; exact sC_6
  | 7, hq => cases hq; exact sC_7
  | 8, hq => cases hq; exact sC_8
  | 9, hq => cases hq; exact sC_9
  | 10, hq => cases hq; exact sC_10
  | 11, hq => cases hq; exact sC_11
  | 12, hq => cases hq; exact sC_12
  | 13, hq => cases hq; exact sC_13
  | 14, hq => cases hq; exact sC_14
  | 15, hq => cases hq; exact sC_15
  | 16, hq => cases hq; exact sC_16
  | 17, hq => cases hq; exact sC_17
  | 18, hq => cases hq; exact sC_18
  | 19, hq => cases hq; exact sC_19
  | 20, hq => cases hq; exact sC_20
  | 21, hq => cases hq; exact sC_21
  | 22, hq => cases hq; exact sC_22
  | 23, hq => cases hq; exact sC_23
  | 24, hq => cases hq; exact sC_24
  | 25, hq => cases hq; exact sC_25
  | 26, hq => cases hq; exact sC_26
  | 27, hq => cases hq; exact sC_27
  | 28, hq => cases hq; exact sC_28
  | 29, hq => cases hq; exact sC_29
  | k + 30, hq => exact absurd hq (by simp [gCs])
theorem sR_ok (q : gQ) (h : q ∈ gCs) : Cond.stringRef q.1 q.2.1 q.2.2.1 ∈ lw_tbl := by
  have h1 : Cond.stringRef q.1 q.2.1 q.2.2.1 ∈ gCs.map (fun q => Cond.stringRef q.1 q.2.1 q.2.2.1) := List.mem_map.mpr ⟨q, h, rfl⟩
  rw [sR_all] at h1
  obtain ⟨i, -, hi⟩ := List.mem_filterMap.mp h1
  exact List.mem_of_getElem? hi
theorem sL_ok : ∀ q ∈ gCs, q.2.2.2.length < 2 ^ 31 := by decide +kernel
theorem k1_ex {args : Array Value} {s : State} {A : Nat → Prop} (hf : ∀ w ∈ nFl, w.before args s = true) (hA : ∀ a : Nat, a < s.heap.size → ¬ A a) {q : gQ} (hq : ∀ w ∈ sCs q, w ∈ nFl) (hl : q.2.2.2.length < 2 ^ 31) (hr : (Cond.stringRef q.1 q.2.1 q.2.2.1).before args s = true) : ∃ x : Nat × Nat, vk_R q.1 q.2.1 q.2.2.1 x.1 s ∧ va_O "java/lang/String" x.1 A s s.heap ∧ va_OF "java/lang/String" "coder" "B" (.int 0) x.1 A s s.heap ∧ va_OF "java/lang/String" "value" "[B" (.ref x.2) x.1 A s s.heap ∧ va_T .byte x.2 q.2.2.2.length (fun j => .int (q.2.2.2.getD j 0)) A s s.heap := by
  have hw : ∀ w ∈ sCs q, w.before args s = true := fun w h => hf w (hq w h)
  have hex := hw (.exactly (.string q.1 q.2.1) "java/lang/String") (by simp [sCs])
  have hco := hw (.eq (.field (.string q.1 q.2.1) "java/lang/String" "coder" "B") (.int 0)) (by simp [sCs])
  have har := hw (.arrayOf (sTm q) .byte) (by simp [sCs])
  have hle := hw (.eq (.length (sTm q)) (.int (Int32.ofNat q.2.2.2.length))) (by simp [sCs])
  have hel : ∀ j : Nat, j < q.2.2.2.length → (Cond.eq (.elem (sTm q) (.int (Int32.ofNat j))) (.int (q.2.2.2.getD j 0))).before args s = true := fun j hj => hw _ (List.mem_append_right _ (List.mem_map.mpr ⟨j, List.mem_range.mpr hj, rfl⟩))
  obtain ⟨a, c, cA, kA, q1, q2, q3, q4, q5, q6, -⟩ := Cond.exactly_spec (args := args) (first := s) (o := none) (s := s) (idx := []) (t := .string q.1 q.2.1) (cls := "java/lang/String") hex
  obtain ⟨t, ht, hT⟩ := va_Tof (f := fun j => .int (q.2.2.2.getD j 0)) (A := A) hl har (va_eqt hle) (fun j hj => va_eqt (hel j hj)) hA
  exact ⟨(a, t), vk_R.of hr q1, va_Oof hex q1 hA, vk_OFof q1 (va_eqt hco) hA, vk_OFof q1 ht hA, hT⟩
theorem k1_all {args : Array Value} {s : State} {A : Nat → Prop} (hts : ∀ w ∈ lw_tbl, w.before args s = true) (hf : ∀ w ∈ nFl, w.before args s = true) (hA : ∀ a : Nat, a < s.heap.size → ¬ A a) : ∃ f : Nat → Nat × Nat, ∀ (c : Nat) (q : gQ), gCs[c]? = some q → vk_R q.1 q.2.1 q.2.2.1 (f c).1 s ∧ va_O "java/lang/String" (f c).1 A s s.heap ∧ va_OF "java/lang/String" "coder" "B" (.int 0) (f c).1 A s s.heap ∧ va_OF "java/lang/String" "value" "[B" (.ref (f c).2) (f c).1 A s s.heap ∧ va_T .byte (f c).2 q.2.2.2.length (fun j => .int (q.2.2.2.getD j 0)) A s s.heap := by
  have h0 : ∀ c : Nat, ∃ x : Nat × Nat, ∀ q : gQ, gCs[c]? = some q → vk_R q.1 q.2.1 q.2.2.1 x.1 s ∧ va_O "java/lang/String" x.1 A s s.heap ∧ va_OF "java/lang/String" "coder" "B" (.int 0) x.1 A s s.heap ∧ va_OF "java/lang/String" "value" "[B" (.ref x.2) x.1 A s s.heap ∧ va_T .byte x.2 q.2.2.2.length (fun j => .int (q.2.2.2.getD j 0)) A s s.heap := by
    intro c
    cases hc : gCs[c]? with
    | none => exact ⟨(0, 0), fun q h => by cases h⟩
    | some q =>
      have hm := List.mem_of_getElem? hc
      obtain ⟨x, hx⟩ := k1_ex hf hA (sC_all c q hc) (sL_ok q hm) (hts _ (sR_ok q hm))
      exact ⟨x, fun q' h => by cases h; exact hx⟩
  exact ⟨fun c => (h0 c).choose, fun c q hc => (h0 c).choose_spec q hc⟩
theorem t_cs : Cond.laysStatic "java/lang/String" "COMPACT_STRINGS" "Z" ∈ lw_tbl := List.mem_of_getElem? (i := 645) (by decide +kernel)
theorem t_si : Cond.laysStatic "jdk/internal/util/Preconditions" "SIOOBE_FORMATTER" "Ljava/util/function/BiFunction;" ∈ lw_tbl := List.mem_of_getElem? (i := 661) (by decide +kernel)
theorem t_us : Cond.laysStatic "java/lang/Throwable" "UNASSIGNED_STACK" "[Ljava/lang/StackTraceElement;" ∈ lw_tbl := List.mem_of_getElem? (i := 558) (by decide +kernel)
theorem t_ss : Cond.laysStatic "java/lang/Throwable" "SUPPRESSED_SENTINEL" "Ljava/util/List;" ∈ lw_tbl := List.mem_of_getElem? (i := 560) (by decide +kernel)
theorem t_iS : Cond.initialized "java/lang/String" ∈ lw_tbl := List.mem_of_getElem? (i := 102) (by decide +kernel)
theorem t_iP : Cond.initialized "jdk/internal/util/Preconditions" ∈ lw_tbl := List.mem_of_getElem? (i := 104) (by decide +kernel)
theorem t_iT : Cond.initialized "java/lang/Throwable" ∈ lw_tbl := List.mem_of_getElem? (i := 96) (by decide +kernel)
theorem t_ao : Cond.arrayOver (.object "java/lang/String") ∈ lw_tbl := List.mem_of_getElem? (i := 1082) (by decide +kernel)
theorem t_nw : nwL.map (fun x => Cond.methodLinkNest x.1 x.2.1 x.2.2 "HeavyGifts") = [120, 204, 217, 267, 927, 222, 272, 932].filterMap (fun i => lw_tbl[i]?) := by decide +kernel
theorem n_us : Cond.isRef (.static "java/lang/Throwable" "UNASSIGNED_STACK" "[Ljava/lang/StackTraceElement;") ∈ nFl := List.mem_of_getElem? (i := 4) (by decide +kernel)
theorem n_ss : Cond.isRef (.static "java/lang/Throwable" "SUPPRESSED_SENTINEL" "Ljava/util/List;") ∈ nFl := List.mem_of_getElem? (i := 5) (by decide +kernel)
theorem n_cs : Cond.eq (.static "java/lang/String" "COMPACT_STRINGS" "Z") (.int 1) ∈ nFl := List.mem_of_getElem? (i := 6) (by decide +kernel)
theorem n_si : Cond.isRef (.static "jdk/internal/util/Preconditions" "SIOOBE_FORMATTER" "Ljava/util/function/BiFunction;") ∈ nFl := List.mem_of_getElem? (i := 7) (by decide +kernel)
theorem n_nc : Cond.not (.castable nIAE nNSE) ∈ nFl := List.mem_of_getElem? (i := 25) (by decide +kernel)
theorem ly_of {args : Array Value} {s : State} {C n d : String} {A : Nat → Prop} (hl : (Cond.laysStatic C n d).before args s = true) (hA : ∀ a : Nat, a < s.heap.size → ¬ A a) : g_Ly C n d A s s.heap := by
  obtain ⟨c, k, i, f, a, cell, hc, hi, hst, ha, hcell, hs, hcls, hlt, hty⟩ := Cond.laysStatic_spec hl
  exact ⟨c, k, i, f, a, cell, hc, hi, hst, ha, hcell, hs, hcls, hlt, hty, hA a (Array.getElem?_eq_some_iff.mp hcell).1⟩
theorem arr_ex {args : Array Value} {s : State} {ty : FieldType} (h : (Cond.arrayClass ty).before args s = true) : ∃ c : ClassId, ArrOfT s c ty ∧ s.vm.findClass ("[" ++ ty.toString) = some c := by
  obtain ⟨c, k, comp, h1, h2, h3⟩ := Cond.arrayClass_spec h
  exact ⟨c, fun n z => ⟨fun k h => (by cases h), k, h2, comp, h3⟩, h1⟩
theorem arr_str {args : Array Value} {s : State} {C : String} (h : (Cond.arrayOver (.object C)).before args s = true) : ∃ c : ClassId, ArrOfT s c (.object C) ∧ va_RA s c (.object C) := by
  obtain ⟨comp, c, k, h1, -, h2, h3, h4⟩ := Cond.arrayOver_spec h
  exact ⟨c, fun n z => ⟨fun k h => (by cases h), k, h2, comp, h3⟩, k, comp, h2, h3, h1, h4⟩
theorem px_of {args : Array Value} {s : State} (hts : ∀ w ∈ lw_tbl, w.before args s = true) (hf : ∀ w ∈ nFl, w.before args s = true) : PXL s := by
  refine ⟨⟨fun x hx => ?_, va_AO.of (hts _ t_ao)⟩, va_Nc.of (hf _ n_nc)⟩
  have h1 : Cond.methodLinkNest x.1 x.2.1 x.2.2 "HeavyGifts" ∈ nwL.map (fun x => Cond.methodLinkNest x.1 x.2.1 x.2.2 "HeavyGifts") := List.mem_map.mpr ⟨x, hx, rfl⟩
  rw [t_nw] at h1
  obtain ⟨i, -, hi⟩ := List.mem_filterMap.mp h1
  exact va_Nw.of rfl (hts _ (List.mem_of_getElem? hi))
theorem nt_of {l : Launch} (h : l.flags = flags0) : l.stackTraces = false := by
  have h1 : (!flags0.contains noTraceFlag) = false := by decide +kernel
  unfold Launch.stackTraces
  rw [h]
  exact h1
