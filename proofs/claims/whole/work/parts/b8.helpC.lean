/-! the law's helpers -/
def g_SLW (own : String) (idx : Nat) (y : MethodName) (μ : gY) (hh : gHH) (n : Nat) : Prop := (∀ w ∈ va_wsS own idx y [.codeWith y μ.1 μ.2.2.1 μ.2.2.2 hh], w ∈ g_UW) ∧ (y.cls ≠ "java/lang/invoke/MethodHandle" ∧ y.cls ≠ "java/lang/invoke/VarHandle" ∧ (parseMethodDescriptor y.desc).map (fun d => d.parameters.length) = some n) ∧ μ.2.2.1 ≤ 31
theorem w_l13 : Cond.classLink RL 13 nIAE ∈ g_UW := g_uwR (ws := [.classLink RL 13 nIAE]) [526] (by decide +kernel) (by decide +kernel) _ List.mem_cons_self
theorem w_l18 : Cond.classLink RL 18 nNSE ∈ g_UW := g_uwR (ws := [.classLink RL 18 nNSE]) [766] (by decide +kernel) (by decide +kernel) _ List.mem_cons_self
theorem w_iI : Cond.instantiable nIAE 6 ∈ g_UW := g_uwR (ws := [.instantiable nIAE 6]) [532] (by decide +kernel) (by decide +kernel) _ List.mem_cons_self
theorem w_iN : Cond.instantiable nNSE 6 ∈ g_UW := g_uwR (ws := [.instantiable nNSE 6]) [772] (by decide +kernel) (by decide +kernel) _ List.mem_cons_self
abbrev μL_town : gY := (cL_town, RL, 4, some .int)
abbrev hhL_town : gHH := [(0, 9, 12, 13)]
theorem wL_town : g_SLW RL 76 yL_town μL_town hhL_town 3 := ⟨g_uwR [523, 524, 89, 525] (by decide +kernel) (by decide +kernel), by decide +kernel, by decide⟩
theorem aL_town0 : g_CA μL_town hhL_town 4 nIAE 1 := ⟨[], [], ⟨0, 9, 12, 13⟩, 1, rfl, (fun z hz => by cases hz), by decide, by decide, w_l13, w_iI, rfl, rfl, Or.inl ⟨3, by decide, dL_town_12, dL_town_13, dL_town_14⟩⟩
abbrev qL_town (Γ : gW) (Qc : Int32 → gM → Prop) (XPc : String → gM → Prop) : gW → Option Value → gM → Prop := fun Γ' v M' => Γ' = Γ ∧ ((∃ (z : Int32) (M1 : gM), Qc z M1 ∧ v = some (.int 0) ∧ M' = g_ul M1 500 0 z.toInt64) ∨ (v = some (.int 1) ∧ XPc nIAE M'))
theorem h_town {Γ : gW} {M : gM} {gt : Option Nat} (hA : g_HG Γ gt) (ho : g_o Γ 500 (.inr (2, 1))) {d' d : Nat} (hdd : d' < d) {Qc : Int32 → gM → Prop} {XPc : String → gM → Prop} {p0 : Int32} (hc : CtX Γ yX5_town μX5_town d' [.ref 0, .int p0] M (g_qi Qc) XPc) (kx : ∀ E M', XPc E M' → E = nIAE) : CtL Γ yL_town μL_town hhL_town d 1 6 [.ref 0, .int p0, .ref 500] M (qL_town Γ Qc XPc) := by
  refine g_enterL (by decide +kernel) rfl rfl (Nat.le_of_ble_eq_true rfl) ?_
  show G _ _ _ _ _ _ [some (.ref 0), some (.int p0), some (.ref 500), none] _ _
  refine g_aload_n2 dL_town_0 rfl ?_
  refine g_iconst (v := 0) dL_town_1 rfl rfl ?_
  refine g_aload_n0 dL_town_2 rfl ?_
  refine g_iload_n1 dL_town_3 rfl ?_
  refine g_callWX (As := [.int p0]) dL_town_4 vL_7 rfl hA.1 rfl hc ⟨by show d' + 9 ≤ d + 8; omega, by show 200 + 50 * d' ≤ 150 + 50 * d; omega, Nat.le_of_ble_eq_true rfl, Nat.le_of_ble_eq_true rfl⟩ (Nat.le_of_ble_eq_true rfl) ⟨by decide, by decide⟩ (fun E M' hx => ?_) (fun v M1 hv => ?_)
  · cases kx E M' hx
    exact ⟨_, aL_town0, rfl, Or.inr ⟨rfl, hx⟩⟩
  · obtain ⟨z, rfl, hz⟩ := hv
    refine g_i2l dL_town_7 rfl ?_
    refine g_last dL_town_8 rfl ho (i_in (by decide)) ?_
    refine g_goto (t := 15) dL_town_9 rfl ?_
    refine g_iconst (v := 0) dL_town_15 rfl rfl ?_
    exact g_iretG dL_town_16 rfl ⟨by decide, by decide⟩ ⟨rfl, Or.inl ⟨z, M1, hz, rfl, rfl⟩⟩
abbrev μL_count : gY := (cL_count, RL, 4, some .int)
abbrev hhL_count : gHH := [(0, 9, 12, 18)]
theorem wL_count : g_SLW RL 90 yL_count μL_count hhL_count 3 := ⟨g_uwR [763, 764, 89, 765] (by decide +kernel) (by decide +kernel), by decide +kernel, by decide⟩
theorem aL_count0 : g_CA μL_count hhL_count 4 nNSE 1 := ⟨[], [], ⟨0, 9, 12, 18⟩, 1, rfl, (fun z hz => by cases hz), by decide, by decide, w_l18, w_iN, rfl, rfl, Or.inl ⟨3, by decide, dL_count_12, dL_count_13, dL_count_14⟩⟩
abbrev qL_count (Γ : gW) (Qc : Int32 → gM → Prop) (XPc : String → gM → Prop) : gW → Option Value → gM → Prop := fun Γ' v M' => Γ' = Γ ∧ ((∃ (z : Int32) (M1 : gM), Qc z M1 ∧ v = some (.int 0) ∧ M' = g_ul M1 500 0 z.toInt64) ∨ (v = some (.int 1) ∧ XPc nNSE M'))
theorem h_count {Γ : gW} {M : gM} {gt : Option Nat} (hA : g_HG Γ gt) (ho : g_o Γ 500 (.inr (2, 1))) {d' d : Nat} (hdd : d' < d) {Qc : Int32 → gM → Prop} {XPc : String → gM → Prop} {p0 : Int32} (hc : CtX Γ yX5_count μX5_count d' [.ref 0, .int p0] M (g_qi Qc) XPc) (kx : ∀ E M', XPc E M' → E = nNSE) : CtL Γ yL_count μL_count hhL_count d 1 6 [.ref 0, .int p0, .ref 500] M (qL_count Γ Qc XPc) := by
  refine g_enterL (by decide +kernel) rfl rfl (Nat.le_of_ble_eq_true rfl) ?_
  show G _ _ _ _ _ _ [some (.ref 0), some (.int p0), some (.ref 500), none] _ _
  refine g_aload_n2 dL_count_0 rfl ?_
  refine g_iconst (v := 0) dL_count_1 rfl rfl ?_
  refine g_aload_n0 dL_count_2 rfl ?_
  refine g_iload_n1 dL_count_3 rfl ?_
  refine g_callWX (As := [.int p0]) dL_count_4 vL_15 rfl hA.1 rfl hc ⟨by show d' + 9 ≤ d + 8; omega, by show 200 + 50 * d' ≤ 150 + 50 * d; omega, Nat.le_of_ble_eq_true rfl, Nat.le_of_ble_eq_true rfl⟩ (Nat.le_of_ble_eq_true rfl) ⟨by decide, by decide⟩ (fun E M' hx => ?_) (fun v M1 hv => ?_)
  · cases kx E M' hx
    exact ⟨_, aL_count0, rfl, Or.inr ⟨rfl, hx⟩⟩
  · obtain ⟨z, rfl, hz⟩ := hv
    refine g_i2l dL_count_7 rfl ?_
    refine g_last dL_count_8 rfl ho (i_in (by decide)) ?_
    refine g_goto (t := 15) dL_count_9 rfl ?_
    refine g_iconst (v := 0) dL_count_15 rfl rfl ?_
    exact g_iretG dL_count_16 rfl ⟨by decide, by decide⟩ ⟨rfl, Or.inl ⟨z, M1, hz, rfl, rfl⟩⟩
abbrev μL_person : gY := (cL_person, RL, 5, some .int)
abbrev hhL_person : gHH := [(0, 10, 13, 18)]
theorem wL_person : g_SLW RL 93 yL_person μL_person hhL_person 4 := ⟨g_uwR [786, 787, 89, 788] (by decide +kernel) (by decide +kernel), by decide +kernel, by decide⟩
theorem aL_person0 : g_CA μL_person hhL_person 5 nNSE 1 := ⟨[], [], ⟨0, 10, 13, 18⟩, 1, rfl, (fun z hz => by cases hz), by decide, by decide, w_l18, w_iN, rfl, rfl, Or.inr ⟨4, by decide, dL_person_13, dL_person_15, dL_person_16⟩⟩
abbrev qL_person (Γ : gW) (Qc : Int32 → gM → Prop) (XPc : String → gM → Prop) : gW → Option Value → gM → Prop := fun Γ' v M' => Γ' = Γ ∧ ((∃ (z : Int32) (M1 : gM), Qc z M1 ∧ v = some (.int 0) ∧ M' = g_ul M1 500 0 z.toInt64) ∨ (v = some (.int 1) ∧ XPc nNSE M'))
theorem h_person {Γ : gW} {M : gM} {gt : Option Nat} (hA : g_HG Γ gt) (ho : g_o Γ 500 (.inr (2, 1))) {d' d : Nat} (hdd : d' < d) {Qc : Int32 → gM → Prop} {XPc : String → gM → Prop} {p0 p1 : Int32} (hc : CtX Γ yX5_person μX5_person d' [.ref 0, .int p0, .int p1] M (g_qi Qc) XPc) (kx : ∀ E M', XPc E M' → E = nNSE) : CtL Γ yL_person μL_person hhL_person d 1 6 [.ref 0, .int p0, .int p1, .ref 500] M (qL_person Γ Qc XPc) := by
  refine g_enterL (by decide +kernel) rfl rfl (Nat.le_of_ble_eq_true rfl) ?_
  show G _ _ _ _ _ _ [some (.ref 0), some (.int p0), some (.int p1), some (.ref 500), none] _ _
  refine g_aload_n3 dL_person_0 rfl ?_
  refine g_iconst (v := 0) dL_person_1 rfl rfl ?_
  refine g_aload_n0 dL_person_2 rfl ?_
  refine g_iload_n1 dL_person_3 rfl ?_
  refine g_iload_n2 dL_person_4 rfl ?_
  refine g_callWX (As := [.int p0, .int p1]) dL_person_5 vL_20 rfl hA.1 rfl hc ⟨by show d' + 9 ≤ d + 8; omega, by show 200 + 50 * d' ≤ 150 + 50 * d; omega, Nat.le_of_ble_eq_true rfl, Nat.le_of_ble_eq_true rfl⟩ (Nat.le_of_ble_eq_true rfl) ⟨by decide, by decide⟩ (fun E M' hx => ?_) (fun v M1 hv => ?_)
  · cases kx E M' hx
    exact ⟨_, aL_person0, rfl, Or.inr ⟨rfl, hx⟩⟩
  · obtain ⟨z, rfl, hz⟩ := hv
    refine g_i2l dL_person_8 rfl ?_
    refine g_last dL_person_9 rfl ho (i_in (by decide)) ?_
    refine g_goto (t := 17) dL_person_10 rfl ?_
    refine g_iconst (v := 0) dL_person_17 rfl rfl ?_
    exact g_iretG dL_person_18 rfl ⟨by decide, by decide⟩ ⟨rfl, Or.inl ⟨z, M1, hz, rfl, rfl⟩⟩
abbrev μL_thing : gY := (cL_thing, RL, 5, some .int)
abbrev hhL_thing : gHH := [(0, 10, 13, 18)]
theorem wL_thing : g_SLW RL 97 yL_thing μL_thing hhL_thing 4 := ⟨g_uwR [799, 800, 89, 801] (by decide +kernel) (by decide +kernel), by decide +kernel, by decide⟩
theorem aL_thing0 : g_CA μL_thing hhL_thing 5 nNSE 1 := ⟨[], [], ⟨0, 10, 13, 18⟩, 1, rfl, (fun z hz => by cases hz), by decide, by decide, w_l18, w_iN, rfl, rfl, Or.inr ⟨4, by decide, dL_thing_13, dL_thing_15, dL_thing_16⟩⟩
abbrev qL_thing (Γ : gW) (Qc : Int32 → gM → Prop) (XPc : String → gM → Prop) : gW → Option Value → gM → Prop := fun Γ' v M' => Γ' = Γ ∧ ((∃ (z : Int32) (M1 : gM), Qc z M1 ∧ v = some (.int 0) ∧ M' = g_ul M1 500 0 z.toInt64) ∨ (v = some (.int 1) ∧ XPc nNSE M'))
theorem h_thing {Γ : gW} {M : gM} {gt : Option Nat} (hA : g_HG Γ gt) (ho : g_o Γ 500 (.inr (2, 1))) {d' d : Nat} (hdd : d' < d) {Qc : Int32 → gM → Prop} {XPc : String → gM → Prop} {p0 p1 : Int32} (hc : CtX Γ yX5_thing μX5_thing d' [.ref 0, .int p0, .int p1] M (g_qi Qc) XPc) (kx : ∀ E M', XPc E M' → E = nNSE) : CtL Γ yL_thing μL_thing hhL_thing d 1 6 [.ref 0, .int p0, .int p1, .ref 500] M (qL_thing Γ Qc XPc) := by
  refine g_enterL (by decide +kernel) rfl rfl (Nat.le_of_ble_eq_true rfl) ?_
  show G _ _ _ _ _ _ [some (.ref 0), some (.int p0), some (.int p1), some (.ref 500), none] _ _
  refine g_aload_n3 dL_thing_0 rfl ?_
  refine g_iconst (v := 0) dL_thing_1 rfl rfl ?_
  refine g_aload_n0 dL_thing_2 rfl ?_
  refine g_iload_n1 dL_thing_3 rfl ?_
  refine g_iload_n2 dL_thing_4 rfl ?_
  refine g_callWX (As := [.int p0, .int p1]) dL_thing_5 vL_24 rfl hA.1 rfl hc ⟨by show d' + 9 ≤ d + 8; omega, by show 200 + 50 * d' ≤ 150 + 50 * d; omega, Nat.le_of_ble_eq_true rfl, Nat.le_of_ble_eq_true rfl⟩ (Nat.le_of_ble_eq_true rfl) ⟨by decide, by decide⟩ (fun E M' hx => ?_) (fun v M1 hv => ?_)
  · cases kx E M' hx
    exact ⟨_, aL_thing0, rfl, Or.inr ⟨rfl, hx⟩⟩
  · obtain ⟨z, rfl, hz⟩ := hv
    refine g_i2l dL_thing_8 rfl ?_
    refine g_last dL_thing_9 rfl ho (i_in (by decide)) ?_
    refine g_goto (t := 17) dL_thing_10 rfl ?_
    refine g_iconst (v := 0) dL_thing_17 rfl rfl ?_
    exact g_iretG dL_thing_18 rfl ⟨by decide, by decide⟩ ⟨rfl, Or.inl ⟨z, M1, hz, rfl, rfl⟩⟩
abbrev μL_gift : gY := (cL_gift, RL, 5, some .int)
abbrev hhL_gift : gHH := [(0, 10, 13, 18)]
theorem wL_gift : g_SLW RL 113 yL_gift μL_gift hhL_gift 4 := ⟨g_uwR [811, 812, 89, 813] (by decide +kernel) (by decide +kernel), by decide +kernel, by decide⟩
theorem aL_gift0 : g_CA μL_gift hhL_gift 5 nNSE 1 := ⟨[], [], ⟨0, 10, 13, 18⟩, 1, rfl, (fun z hz => by cases hz), by decide, by decide, w_l18, w_iN, rfl, rfl, Or.inr ⟨4, by decide, dL_gift_13, dL_gift_15, dL_gift_16⟩⟩
abbrev qL_gift (Γ : gW) (Qc : Int32 → gM → Prop) (XPc : String → gM → Prop) : gW → Option Value → gM → Prop := fun Γ' v M' => Γ' = Γ ∧ ((∃ (z : Int32) (M1 : gM), Qc z M1 ∧ v = some (.int 0) ∧ M' = g_ul M1 500 0 z.toInt64) ∨ (v = some (.int 1) ∧ XPc nNSE M'))
theorem h_gift {Γ : gW} {M : gM} {gt : Option Nat} (hA : g_HG Γ gt) (ho : g_o Γ 500 (.inr (2, 1))) {d' d : Nat} (hdd : d' < d) {Qc : Int32 → gM → Prop} {XPc : String → gM → Prop} {p0 p1 : Int32} (hc : CtX Γ yX5_gift μX5_gift d' [.ref 0, .int p0, .int p1] M (g_qi Qc) XPc) (kx : ∀ E M', XPc E M' → E = nNSE) : CtL Γ yL_gift μL_gift hhL_gift d 1 6 [.ref 0, .int p0, .int p1, .ref 500] M (qL_gift Γ Qc XPc) := by
  refine g_enterL (by decide +kernel) rfl rfl (Nat.le_of_ble_eq_true rfl) ?_
  show G _ _ _ _ _ _ [some (.ref 0), some (.int p0), some (.int p1), some (.ref 500), none] _ _
  refine g_aload_n3 dL_gift_0 rfl ?_
  refine g_iconst (v := 0) dL_gift_1 rfl rfl ?_
  refine g_aload_n0 dL_gift_2 rfl ?_
  refine g_iload_n1 dL_gift_3 rfl ?_
  refine g_iload_n2 dL_gift_4 rfl ?_
  refine g_callWX (As := [.int p0, .int p1]) dL_gift_5 vL_27 rfl hA.1 rfl hc ⟨by show d' + 9 ≤ d + 8; omega, by show 200 + 50 * d' ≤ 150 + 50 * d; omega, Nat.le_of_ble_eq_true rfl, Nat.le_of_ble_eq_true rfl⟩ (Nat.le_of_ble_eq_true rfl) ⟨by decide, by decide⟩ (fun E M' hx => ?_) (fun v M1 hv => ?_)
  · cases kx E M' hx
    exact ⟨_, aL_gift0, rfl, Or.inr ⟨rfl, hx⟩⟩
  · obtain ⟨z, rfl, hz⟩ := hv
    refine g_i2l dL_gift_8 rfl ?_
    refine g_last dL_gift_9 rfl ho (i_in (by decide)) ?_
    refine g_goto (t := 17) dL_gift_10 rfl ?_
    refine g_iconst (v := 0) dL_gift_17 rfl rfl ?_
    exact g_iretG dL_gift_18 rfl ⟨by decide, by decide⟩ ⟨rfl, Or.inl ⟨z, M1, hz, rfl, rfl⟩⟩
abbrev μL_sets : gY := (cL_sets, RL, 4, some .int)
abbrev hhL_sets : gHH := [(0, 9, 12, 18)]
theorem wL_sets : g_SLW RL 116 yL_sets μL_sets hhL_sets 3 := ⟨g_uwR [822, 823, 89, 824] (by decide +kernel) (by decide +kernel), by decide +kernel, by decide⟩
theorem aL_sets0 : g_CA μL_sets hhL_sets 4 nNSE 1 := ⟨[], [], ⟨0, 9, 12, 18⟩, 1, rfl, (fun z hz => by cases hz), by decide, by decide, w_l18, w_iN, rfl, rfl, Or.inl ⟨3, by decide, dL_sets_12, dL_sets_13, dL_sets_14⟩⟩
abbrev qL_sets (Γ : gW) (Qc : Int32 → gM → Prop) (XPc : String → gM → Prop) : gW → Option Value → gM → Prop := fun Γ' v M' => Γ' = Γ ∧ ((∃ (z : Int32) (M1 : gM), Qc z M1 ∧ v = some (.int 0) ∧ M' = g_ul M1 500 0 z.toInt64) ∨ (v = some (.int 1) ∧ XPc nNSE M'))
theorem h_sets {Γ : gW} {M : gM} {gt : Option Nat} (hA : g_HG Γ gt) (ho : g_o Γ 500 (.inr (2, 1))) {d' d : Nat} (hdd : d' < d) {Qc : Int32 → gM → Prop} {XPc : String → gM → Prop} {p0 : Int32} (hc : CtX Γ yX5_sets μX5_sets d' [.ref 0, .int p0] M (g_qi Qc) XPc) (kx : ∀ E M', XPc E M' → E = nNSE) : CtL Γ yL_sets μL_sets hhL_sets d 1 6 [.ref 0, .int p0, .ref 500] M (qL_sets Γ Qc XPc) := by
  refine g_enterL (by decide +kernel) rfl rfl (Nat.le_of_ble_eq_true rfl) ?_
  show G _ _ _ _ _ _ [some (.ref 0), some (.int p0), some (.ref 500), none] _ _
  refine g_aload_n2 dL_sets_0 rfl ?_
  refine g_iconst (v := 0) dL_sets_1 rfl rfl ?_
  refine g_aload_n0 dL_sets_2 rfl ?_
  refine g_iload_n1 dL_sets_3 rfl ?_
  refine g_callWX (As := [.int p0]) dL_sets_4 vL_30 rfl hA.1 rfl hc ⟨by show d' + 9 ≤ d + 8; omega, by show 200 + 50 * d' ≤ 150 + 50 * d; omega, Nat.le_of_ble_eq_true rfl, Nat.le_of_ble_eq_true rfl⟩ (Nat.le_of_ble_eq_true rfl) ⟨by decide, by decide⟩ (fun E M' hx => ?_) (fun v M1 hv => ?_)
  · cases kx E M' hx
    exact ⟨_, aL_sets0, rfl, Or.inr ⟨rfl, hx⟩⟩
  · obtain ⟨z, rfl, hz⟩ := hv
    refine g_i2l dL_sets_7 rfl ?_
    refine g_last dL_sets_8 rfl ho (i_in (by decide)) ?_
    refine g_goto (t := 15) dL_sets_9 rfl ?_
    refine g_iconst (v := 0) dL_sets_15 rfl rfl ?_
    exact g_iretG dL_sets_16 rfl ⟨by decide, by decide⟩ ⟨rfl, Or.inl ⟨z, M1, hz, rfl, rfl⟩⟩
abbrev μL_choice : gY := (cL_choice, RL, 5, some .int)
abbrev hhL_choice : gHH := [(0, 10, 13, 18)]
theorem wL_choice : g_SLW RL 119 yL_choice μL_choice hhL_choice 4 := ⟨g_uwR [833, 834, 89, 835] (by decide +kernel) (by decide +kernel), by decide +kernel, by decide⟩
theorem aL_choice0 : g_CA μL_choice hhL_choice 5 nNSE 1 := ⟨[], [], ⟨0, 10, 13, 18⟩, 1, rfl, (fun z hz => by cases hz), by decide, by decide, w_l18, w_iN, rfl, rfl, Or.inr ⟨4, by decide, dL_choice_13, dL_choice_15, dL_choice_16⟩⟩
abbrev qL_choice (Γ : gW) (Qc : Int32 → gM → Prop) (XPc : String → gM → Prop) : gW → Option Value → gM → Prop := fun Γ' v M' => Γ' = Γ ∧ ((∃ (z : Int32) (M1 : gM), Qc z M1 ∧ v = some (.int 0) ∧ M' = g_ul M1 500 0 z.toInt64) ∨ (v = some (.int 1) ∧ XPc nNSE M'))
theorem h_choice {Γ : gW} {M : gM} {gt : Option Nat} (hA : g_HG Γ gt) (ho : g_o Γ 500 (.inr (2, 1))) {d' d : Nat} (hdd : d' < d) {Qc : Int32 → gM → Prop} {XPc : String → gM → Prop} {p0 p1 : Int32} (hc : CtX Γ yX5_choice μX5_choice d' [.ref 0, .int p0, .int p1] M (g_qi Qc) XPc) (kx : ∀ E M', XPc E M' → E = nNSE) : CtL Γ yL_choice μL_choice hhL_choice d 1 6 [.ref 0, .int p0, .int p1, .ref 500] M (qL_choice Γ Qc XPc) := by
  refine g_enterL (by decide +kernel) rfl rfl (Nat.le_of_ble_eq_true rfl) ?_
  show G _ _ _ _ _ _ [some (.ref 0), some (.int p0), some (.int p1), some (.ref 500), none] _ _
  refine g_aload_n3 dL_choice_0 rfl ?_
  refine g_iconst (v := 0) dL_choice_1 rfl rfl ?_
  refine g_aload_n0 dL_choice_2 rfl ?_
  refine g_iload_n1 dL_choice_3 rfl ?_
  refine g_iload_n2 dL_choice_4 rfl ?_
  refine g_callWX (As := [.int p0, .int p1]) dL_choice_5 vL_33 rfl hA.1 rfl hc ⟨by show d' + 9 ≤ d + 8; omega, by show 200 + 50 * d' ≤ 150 + 50 * d; omega, Nat.le_of_ble_eq_true rfl, Nat.le_of_ble_eq_true rfl⟩ (Nat.le_of_ble_eq_true rfl) ⟨by decide, by decide⟩ (fun E M' hx => ?_) (fun v M1 hv => ?_)
  · cases kx E M' hx
    exact ⟨_, aL_choice0, rfl, Or.inr ⟨rfl, hx⟩⟩
  · obtain ⟨z, rfl, hz⟩ := hv
    refine g_i2l dL_choice_8 rfl ?_
    refine g_last dL_choice_9 rfl ho (i_in (by decide)) ?_
    refine g_goto (t := 17) dL_choice_10 rfl ?_
    refine g_iconst (v := 0) dL_choice_17 rfl rfl ?_
    exact g_iretG dL_choice_18 rfl ⟨by decide, by decide⟩ ⟨rfl, Or.inl ⟨z, M1, hz, rfl, rfl⟩⟩
abbrev μL_gap : gY := (cL_gap, RL, 4, some .int)
abbrev hhL_gap : gHH := [(0, 9, 12, 18)]
theorem wL_gap : g_SLW RL 122 yL_gap μL_gap hhL_gap 3 := ⟨g_uwR [847, 848, 89, 849] (by decide +kernel) (by decide +kernel), by decide +kernel, by decide⟩
theorem aL_gap0 : g_CA μL_gap hhL_gap 4 nNSE 1 := ⟨[], [], ⟨0, 9, 12, 18⟩, 1, rfl, (fun z hz => by cases hz), by decide, by decide, w_l18, w_iN, rfl, rfl, Or.inl ⟨3, by decide, dL_gap_12, dL_gap_13, dL_gap_14⟩⟩
abbrev qL_gap (Γ : gW) (Qc : Int32 → gM → Prop) (XPc : String → gM → Prop) : gW → Option Value → gM → Prop := fun Γ' v M' => Γ' = Γ ∧ ((∃ (z : Int32) (M1 : gM), Qc z M1 ∧ v = some (.int 0) ∧ M' = g_ul M1 500 0 z.toInt64) ∨ (v = some (.int 1) ∧ XPc nNSE M'))
theorem h_gap {Γ : gW} {M : gM} {gt : Option Nat} (hA : g_HG Γ gt) (ho : g_o Γ 500 (.inr (2, 1))) {d' d : Nat} (hdd : d' < d) {Qc : Int32 → gM → Prop} {XPc : String → gM → Prop} {p0 : Int32} (hc : CtX Γ yX5_gap μX5_gap d' [.ref 0, .int p0] M (g_qi Qc) XPc) (kx : ∀ E M', XPc E M' → E = nNSE) : CtL Γ yL_gap μL_gap hhL_gap d 1 6 [.ref 0, .int p0, .ref 500] M (qL_gap Γ Qc XPc) := by
  refine g_enterL (by decide +kernel) rfl rfl (Nat.le_of_ble_eq_true rfl) ?_
  show G _ _ _ _ _ _ [some (.ref 0), some (.int p0), some (.ref 500), none] _ _
  refine g_aload_n2 dL_gap_0 rfl ?_
  refine g_iconst (v := 0) dL_gap_1 rfl rfl ?_
  refine g_aload_n0 dL_gap_2 rfl ?_
  refine g_iload_n1 dL_gap_3 rfl ?_
  refine g_callWX (As := [.int p0]) dL_gap_4 vL_36 rfl hA.1 rfl hc ⟨by show d' + 9 ≤ d + 8; omega, by show 200 + 50 * d' ≤ 150 + 50 * d; omega, Nat.le_of_ble_eq_true rfl, Nat.le_of_ble_eq_true rfl⟩ (Nat.le_of_ble_eq_true rfl) ⟨by decide, by decide⟩ (fun E M' hx => ?_) (fun v M1 hv => ?_)
  · cases kx E M' hx
    exact ⟨_, aL_gap0, rfl, Or.inr ⟨rfl, hx⟩⟩
  · obtain ⟨z, rfl, hz⟩ := hv
    refine g_i2l dL_gap_7 rfl ?_
    refine g_last dL_gap_8 rfl ho (i_in (by decide)) ?_
    refine g_goto (t := 15) dL_gap_9 rfl ?_
    refine g_iconst (v := 0) dL_gap_15 rfl rfl ?_
    exact g_iretG dL_gap_16 rfl ⟨by decide, by decide⟩ ⟨rfl, Or.inl ⟨z, M1, hz, rfl, rfl⟩⟩
abbrev μL_week : gY := (cL_week, RL, 4, some .int)
abbrev hhL_week : gHH := [(0, 9, 12, 18)]
theorem wL_week : g_SLW RL 125 yL_week μL_week hhL_week 3 := ⟨g_uwR [860, 861, 89, 862] (by decide +kernel) (by decide +kernel), by decide +kernel, by decide⟩
theorem aL_week0 : g_CA μL_week hhL_week 4 nNSE 1 := ⟨[], [], ⟨0, 9, 12, 18⟩, 1, rfl, (fun z hz => by cases hz), by decide, by decide, w_l18, w_iN, rfl, rfl, Or.inl ⟨3, by decide, dL_week_12, dL_week_13, dL_week_14⟩⟩
abbrev qL_week (Γ : gW) (Qc : Int32 → gM → Prop) (XPc : String → gM → Prop) : gW → Option Value → gM → Prop := fun Γ' v M' => Γ' = Γ ∧ ((∃ (z : Int32) (M1 : gM), Qc z M1 ∧ v = some (.int 0) ∧ M' = g_ul M1 500 0 z.toInt64) ∨ (v = some (.int 1) ∧ XPc nNSE M'))
theorem h_week {Γ : gW} {M : gM} {gt : Option Nat} (hA : g_HG Γ gt) (ho : g_o Γ 500 (.inr (2, 1))) {d' d : Nat} (hdd : d' < d) {Qc : Int32 → gM → Prop} {XPc : String → gM → Prop} {p0 : Int32} (hc : CtX Γ yX5_week μX5_week d' [.ref 0, .int p0] M (g_qi Qc) XPc) (kx : ∀ E M', XPc E M' → E = nNSE) : CtL Γ yL_week μL_week hhL_week d 1 6 [.ref 0, .int p0, .ref 500] M (qL_week Γ Qc XPc) := by
  refine g_enterL (by decide +kernel) rfl rfl (Nat.le_of_ble_eq_true rfl) ?_
  show G _ _ _ _ _ _ [some (.ref 0), some (.int p0), some (.ref 500), none] _ _
  refine g_aload_n2 dL_week_0 rfl ?_
  refine g_iconst (v := 0) dL_week_1 rfl rfl ?_
  refine g_aload_n0 dL_week_2 rfl ?_
  refine g_iload_n1 dL_week_3 rfl ?_
  refine g_callWX (As := [.int p0]) dL_week_4 vL_39 rfl hA.1 rfl hc ⟨by show d' + 9 ≤ d + 8; omega, by show 200 + 50 * d' ≤ 150 + 50 * d; omega, Nat.le_of_ble_eq_true rfl, Nat.le_of_ble_eq_true rfl⟩ (Nat.le_of_ble_eq_true rfl) ⟨by decide, by decide⟩ (fun E M' hx => ?_) (fun v M1 hv => ?_)
  · cases kx E M' hx
    exact ⟨_, aL_week0, rfl, Or.inr ⟨rfl, hx⟩⟩
  · obtain ⟨z, rfl, hz⟩ := hv
    refine g_i2l dL_week_7 rfl ?_
    refine g_last dL_week_8 rfl ho (i_in (by decide)) ?_
    refine g_goto (t := 15) dL_week_9 rfl ?_
    refine g_iconst (v := 0) dL_week_15 rfl rfl ?_
    exact g_iretG dL_week_16 rfl ⟨by decide, by decide⟩ ⟨rfl, Or.inl ⟨z, M1, hz, rfl, rfl⟩⟩
abbrev μL_order : gY := (cL_order, RL, 4, some .int)
abbrev hhL_order : gHH := [(0, 9, 12, 18)]
theorem wL_order : g_SLW RL 128 yL_order μL_order hhL_order 3 := ⟨g_uwR [911, 912, 89, 913] (by decide +kernel) (by decide +kernel), by decide +kernel, by decide⟩
theorem aL_order0 : g_CA μL_order hhL_order 4 nNSE 1 := ⟨[], [], ⟨0, 9, 12, 18⟩, 1, rfl, (fun z hz => by cases hz), by decide, by decide, w_l18, w_iN, rfl, rfl, Or.inl ⟨3, by decide, dL_order_12, dL_order_13, dL_order_14⟩⟩
abbrev qL_order (Γ : gW) (Qc : Int32 → gM → Prop) (XPc : String → gM → Prop) : gW → Option Value → gM → Prop := fun Γ' v M' => Γ' = Γ ∧ ((∃ (z : Int32) (M1 : gM), Qc z M1 ∧ v = some (.int 0) ∧ M' = g_ul M1 500 0 z.toInt64) ∨ (v = some (.int 1) ∧ XPc nNSE M'))
theorem h_order {Γ : gW} {M : gM} {gt : Option Nat} (hA : g_HG Γ gt) (ho : g_o Γ 500 (.inr (2, 1))) {d' d : Nat} (hdd : d' < d) {Qc : Int32 → gM → Prop} {XPc : String → gM → Prop} {p0 : Int32} (hc : CtX Γ yX5_order μX5_order d' [.ref 0, .int p0] M (g_qi Qc) XPc) (kx : ∀ E M', XPc E M' → E = nNSE) : CtL Γ yL_order μL_order hhL_order d 1 6 [.ref 0, .int p0, .ref 500] M (qL_order Γ Qc XPc) := by
  refine g_enterL (by decide +kernel) rfl rfl (Nat.le_of_ble_eq_true rfl) ?_
  show G _ _ _ _ _ _ [some (.ref 0), some (.int p0), some (.ref 500), none] _ _
  refine g_aload_n2 dL_order_0 rfl ?_
  refine g_iconst (v := 0) dL_order_1 rfl rfl ?_
  refine g_aload_n0 dL_order_2 rfl ?_
  refine g_iload_n1 dL_order_3 rfl ?_
  refine g_callWX (As := [.int p0]) dL_order_4 vL_42 rfl hA.1 rfl hc ⟨by show d' + 9 ≤ d + 8; omega, by show 200 + 50 * d' ≤ 150 + 50 * d; omega, Nat.le_of_ble_eq_true rfl, Nat.le_of_ble_eq_true rfl⟩ (Nat.le_of_ble_eq_true rfl) ⟨by decide, by decide⟩ (fun E M' hx => ?_) (fun v M1 hv => ?_)
  · cases kx E M' hx
    exact ⟨_, aL_order0, rfl, Or.inr ⟨rfl, hx⟩⟩
  · obtain ⟨z, rfl, hz⟩ := hv
    refine g_i2l dL_order_7 rfl ?_
    refine g_last dL_order_8 rfl ho (i_in (by decide)) ?_
    refine g_goto (t := 15) dL_order_9 rfl ?_
    refine g_iconst (v := 0) dL_order_15 rfl rfl ?_
    exact g_iretG dL_order_16 rfl ⟨by decide, by decide⟩ ⟨rfl, Or.inl ⟨z, M1, hz, rfl, rfl⟩⟩
abbrev μL_get : gY := (cL_get, RL, 5, some .int)
abbrev hhL_get : gHH := [(0, 10, 13, 18)]
theorem wL_get : g_SLW RL 131 yL_get μL_get hhL_get 4 := ⟨g_uwR [918, 919, 89, 920] (by decide +kernel) (by decide +kernel), by decide +kernel, by decide⟩
theorem aL_get0 : g_CA μL_get hhL_get 5 nNSE 1 := ⟨[], [], ⟨0, 10, 13, 18⟩, 1, rfl, (fun z hz => by cases hz), by decide, by decide, w_l18, w_iN, rfl, rfl, Or.inr ⟨4, by decide, dL_get_13, dL_get_15, dL_get_16⟩⟩
abbrev qL_get (Γ : gW) (Qc : Int32 → gM → Prop) (XPc : String → gM → Prop) : gW → Option Value → gM → Prop := fun Γ' v M' => Γ' = Γ ∧ ((∃ (z : Int32) (M1 : gM), Qc z M1 ∧ v = some (.int 0) ∧ M' = g_ul M1 500 0 z.toInt64) ∨ (v = some (.int 1) ∧ XPc nNSE M'))
theorem h_get {Γ : gW} {M : gM} {gt : Option Nat} (hA : g_HG Γ gt) (ho : g_o Γ 500 (.inr (2, 1))) {d' d : Nat} (hdd : d' < d) {Qc : Int32 → gM → Prop} {XPc : String → gM → Prop} {p0 p1 : Int32} (hc : CtX Γ yX5_get μX5_get d' [.ref 0, .int p0, .int p1] M (g_qi Qc) XPc) (kx : ∀ E M', XPc E M' → E = nNSE) : CtL Γ yL_get μL_get hhL_get d 1 6 [.ref 0, .int p0, .int p1, .ref 500] M (qL_get Γ Qc XPc) := by
  refine g_enterL (by decide +kernel) rfl rfl (Nat.le_of_ble_eq_true rfl) ?_
  show G _ _ _ _ _ _ [some (.ref 0), some (.int p0), some (.int p1), some (.ref 500), none] _ _
  refine g_aload_n3 dL_get_0 rfl ?_
  refine g_iconst (v := 0) dL_get_1 rfl rfl ?_
  refine g_aload_n0 dL_get_2 rfl ?_
  refine g_iload_n1 dL_get_3 rfl ?_
  refine g_iload_n2 dL_get_4 rfl ?_
  refine g_callWX (As := [.int p0, .int p1]) dL_get_5 vL_45 rfl hA.1 rfl hc ⟨by show d' + 9 ≤ d + 8; omega, by show 200 + 50 * d' ≤ 150 + 50 * d; omega, Nat.le_of_ble_eq_true rfl, Nat.le_of_ble_eq_true rfl⟩ (Nat.le_of_ble_eq_true rfl) ⟨by decide, by decide⟩ (fun E M' hx => ?_) (fun v M1 hv => ?_)
  · cases kx E M' hx
    exact ⟨_, aL_get0, rfl, Or.inr ⟨rfl, hx⟩⟩
  · obtain ⟨z, rfl, hz⟩ := hv
    refine g_i2l dL_get_8 rfl ?_
    refine g_last dL_get_9 rfl ho (i_in (by decide)) ?_
    refine g_goto (t := 17) dL_get_10 rfl ?_
    refine g_iconst (v := 0) dL_get_17 rfl rfl ?_
    exact g_iretG dL_get_18 rfl ⟨by decide, by decide⟩ ⟨rfl, Or.inl ⟨z, M1, hz, rfl, rfl⟩⟩
abbrev μL_cut : gY := (cL_cut, RL, 5, some .int)
abbrev hhL_cut : gHH := [(0, 10, 13, 18)]
theorem wL_cut : g_SLW RL 134 yL_cut μL_cut hhL_cut 4 := ⟨g_uwR [1001, 1002, 89, 1003] (by decide +kernel) (by decide +kernel), by decide +kernel, by decide⟩
theorem aL_cut0 : g_CA μL_cut hhL_cut 5 nNSE 1 := ⟨[], [], ⟨0, 10, 13, 18⟩, 1, rfl, (fun z hz => by cases hz), by decide, by decide, w_l18, w_iN, rfl, rfl, Or.inr ⟨4, by decide, dL_cut_13, dL_cut_15, dL_cut_16⟩⟩
abbrev qL_cut (Γ : gW) (Qc : Int32 → gM → Prop) (XPc : String → gM → Prop) : gW → Option Value → gM → Prop := fun Γ' v M' => Γ' = Γ ∧ ((∃ (z : Int32) (M1 : gM), Qc z M1 ∧ v = some (.int 0) ∧ M' = g_ul M1 500 0 z.toInt64) ∨ (v = some (.int 1) ∧ XPc nNSE M'))
theorem h_cut {Γ : gW} {M : gM} {gt : Option Nat} (hA : g_HG Γ gt) (ho : g_o Γ 500 (.inr (2, 1))) {d' d : Nat} (hdd : d' < d) {Qc : Int32 → gM → Prop} {XPc : String → gM → Prop} {p0 p1 : Int32} (hc : CtX Γ yX5_cut μX5_cut d' [.ref 0, .int p0, .int p1] M (g_qi Qc) XPc) (kx : ∀ E M', XPc E M' → E = nNSE) : CtL Γ yL_cut μL_cut hhL_cut d 1 6 [.ref 0, .int p0, .int p1, .ref 500] M (qL_cut Γ Qc XPc) := by
  refine g_enterL (by decide +kernel) rfl rfl (Nat.le_of_ble_eq_true rfl) ?_
  show G _ _ _ _ _ _ [some (.ref 0), some (.int p0), some (.int p1), some (.ref 500), none] _ _
  refine g_aload_n3 dL_cut_0 rfl ?_
  refine g_iconst (v := 0) dL_cut_1 rfl rfl ?_
  refine g_aload_n0 dL_cut_2 rfl ?_
  refine g_iload_n1 dL_cut_3 rfl ?_
  refine g_iload_n2 dL_cut_4 rfl ?_
  refine g_callWX (As := [.int p0, .int p1]) dL_cut_5 vL_48 rfl hA.1 rfl hc ⟨by show d' + 9 ≤ d + 8; omega, by show 200 + 50 * d' ≤ 150 + 50 * d; omega, Nat.le_of_ble_eq_true rfl, Nat.le_of_ble_eq_true rfl⟩ (Nat.le_of_ble_eq_true rfl) ⟨by decide, by decide⟩ (fun E M' hx => ?_) (fun v M1 hv => ?_)
  · cases kx E M' hx
    exact ⟨_, aL_cut0, rfl, Or.inr ⟨rfl, hx⟩⟩
  · obtain ⟨z, rfl, hz⟩ := hv
    refine g_i2l dL_cut_8 rfl ?_
    refine g_last dL_cut_9 rfl ho (i_in (by decide)) ?_
    refine g_goto (t := 17) dL_cut_10 rfl ?_
    refine g_iconst (v := 0) dL_cut_17 rfl rfl ?_
    exact g_iretG dL_cut_18 rfl ⟨by decide, by decide⟩ ⟨rfl, Or.inl ⟨z, M1, hz, rfl, rfl⟩⟩
abbrev μL_keep : gY := (cL_keep, RL, 5, some .int)
abbrev hhL_keep : gHH := [(0, 10, 13, 18), (0, 10, 17, 13)]
theorem wL_keep : g_SLW RL 137 yL_keep μL_keep hhL_keep 4 := ⟨g_uwR [1018, 1019, 89, 1020] (by decide +kernel) (by decide +kernel), by decide +kernel, by decide⟩
theorem aL_keep0 : g_CA μL_keep hhL_keep 5 nNSE 1 := ⟨[], [⟨0, 10, 17, 13⟩], ⟨0, 10, 13, 18⟩, 1, rfl, (fun z hz => by cases hz), by decide, by decide, w_l18, w_iN, rfl, rfl, Or.inr ⟨4, by decide, dL_keep_13, dL_keep_15, dL_keep_16⟩⟩
theorem aL_keep1 : g_CA μL_keep hhL_keep 5 nIAE 2 := ⟨[⟨0, 10, 13, 18⟩], [], ⟨0, 10, 17, 13⟩, 2, rfl, (fun z hz => Or.inr (by
    rcases List.mem_cons.mp hz with e | e
    · subst e; exact ⟨by decide, w_l18, rfl⟩
    · cases e)), by decide, by decide, w_l13, w_iI, rfl, rfl, Or.inr ⟨4, by decide, dL_keep_17, dL_keep_19, dL_keep_20⟩⟩
abbrev qL_keep (Γ : gW) (Qc : Int32 → gM → Prop) (XPc : String → gM → Prop) : gW → Option Value → gM → Prop := fun Γ' v M' => Γ' = Γ ∧ ((∃ (z : Int32) (M1 : gM), Qc z M1 ∧ v = some (.int 0) ∧ M' = g_ul M1 500 0 z.toInt64) ∨ (v = some (.int 1) ∧ XPc nNSE M') ∨ (v = some (.int 2) ∧ XPc nIAE M'))
theorem h_keep {Γ : gW} {M : gM} {gt : Option Nat} (hA : g_HG Γ gt) (ho : g_o Γ 500 (.inr (2, 1))) {d' d : Nat} (hdd : d' < d) {Qc : Int32 → gM → Prop} {XPc : String → gM → Prop} {p0 p1 : Int32} (hc : CtX Γ yX5_keep μX5_keep d' [.ref 0, .int p0, .int p1] M (g_qi Qc) XPc) (kx : ∀ E M', XPc E M' → E = nNSE ∨ E = nIAE) : CtL Γ yL_keep μL_keep hhL_keep d 1 6 [.ref 0, .int p0, .int p1, .ref 500] M (qL_keep Γ Qc XPc) := by
  refine g_enterL (by decide +kernel) rfl rfl (Nat.le_of_ble_eq_true rfl) ?_
  show G _ _ _ _ _ _ [some (.ref 0), some (.int p0), some (.int p1), some (.ref 500), none] _ _
  refine g_aload_n3 dL_keep_0 rfl ?_
  refine g_iconst (v := 0) dL_keep_1 rfl rfl ?_
  refine g_aload_n0 dL_keep_2 rfl ?_
  refine g_iload_n1 dL_keep_3 rfl ?_
  refine g_iload_n2 dL_keep_4 rfl ?_
  refine g_callWX (As := [.int p0, .int p1]) dL_keep_5 vL_51 rfl hA.1 rfl hc ⟨by show d' + 9 ≤ d + 8; omega, by show 200 + 50 * d' ≤ 150 + 50 * d; omega, Nat.le_of_ble_eq_true rfl, Nat.le_of_ble_eq_true rfl⟩ (Nat.le_of_ble_eq_true rfl) ⟨by decide, by decide⟩ (fun E M' hx => ?_) (fun v M1 hv => ?_)
  · rcases kx E M' hx with rfl | rfl
    · exact ⟨_, aL_keep0, rfl, Or.inr (Or.inl ⟨rfl, hx⟩)⟩
    · exact ⟨_, aL_keep1, rfl, Or.inr (Or.inr ⟨rfl, hx⟩)⟩
  · obtain ⟨z, rfl, hz⟩ := hv
    refine g_i2l dL_keep_8 rfl ?_
    refine g_last dL_keep_9 rfl ho (i_in (by decide)) ?_
    refine g_goto (t := 21) dL_keep_10 rfl ?_
    refine g_iconst (v := 0) dL_keep_21 rfl rfl ?_
    exact g_iretG dL_keep_22 rfl ⟨by decide, by decide⟩ ⟨rfl, Or.inl ⟨z, M1, hz, rfl, rfl⟩⟩
abbrev μL_fewest : gY := (cL_fewest, RL, 4, some .int)
abbrev hhL_fewest : gHH := [(0, 9, 12, 13)]
theorem wL_fewest : g_SLW RL 140 yL_fewest μL_fewest hhL_fewest 3 := ⟨g_uwR [1029, 1030, 89, 1031] (by decide +kernel) (by decide +kernel), by decide +kernel, by decide⟩
theorem aL_fewest0 : g_CA μL_fewest hhL_fewest 4 nIAE 1 := ⟨[], [], ⟨0, 9, 12, 13⟩, 1, rfl, (fun z hz => by cases hz), by decide, by decide, w_l13, w_iI, rfl, rfl, Or.inl ⟨3, by decide, dL_fewest_12, dL_fewest_13, dL_fewest_14⟩⟩
abbrev qL_fewest (Γ : gW) (Qc : Int32 → gM → Prop) (XPc : String → gM → Prop) : gW → Option Value → gM → Prop := fun Γ' v M' => Γ' = Γ ∧ ((∃ (z : Int32) (M1 : gM), Qc z M1 ∧ v = some (.int 0) ∧ M' = g_ul M1 500 0 z.toInt64) ∨ (v = some (.int 1) ∧ XPc nIAE M'))
theorem h_fewest {Γ : gW} {M : gM} {gt : Option Nat} (hA : g_HG Γ gt) (ho : g_o Γ 500 (.inr (2, 1))) {d' d : Nat} (hdd : d' < d) {Qc : Int32 → gM → Prop} {XPc : String → gM → Prop} {p0 : Int32} (hc : CtX Γ yX5_fewest μX5_fewest d' [.ref 0, .int p0] M (g_qi Qc) XPc) (kx : ∀ E M', XPc E M' → E = nIAE) : CtL Γ yL_fewest μL_fewest hhL_fewest d 1 6 [.ref 0, .int p0, .ref 500] M (qL_fewest Γ Qc XPc) := by
  refine g_enterL (by decide +kernel) rfl rfl (Nat.le_of_ble_eq_true rfl) ?_
  show G _ _ _ _ _ _ [some (.ref 0), some (.int p0), some (.ref 500), none] _ _
  refine g_aload_n2 dL_fewest_0 rfl ?_
  refine g_iconst (v := 0) dL_fewest_1 rfl rfl ?_
  refine g_aload_n0 dL_fewest_2 rfl ?_
  refine g_iload_n1 dL_fewest_3 rfl ?_
  refine g_callWX (As := [.int p0]) dL_fewest_4 vL_54 rfl hA.1 rfl hc ⟨by show d' + 9 ≤ d + 8; omega, by show 200 + 50 * d' ≤ 150 + 50 * d; omega, Nat.le_of_ble_eq_true rfl, Nat.le_of_ble_eq_true rfl⟩ (Nat.le_of_ble_eq_true rfl) ⟨by decide, by decide⟩ (fun E M' hx => ?_) (fun v M1 hv => ?_)
  · cases kx E M' hx
    exact ⟨_, aL_fewest0, rfl, Or.inr ⟨rfl, hx⟩⟩
  · obtain ⟨z, rfl, hz⟩ := hv
    refine g_i2l dL_fewest_7 rfl ?_
    refine g_last dL_fewest_8 rfl ho (i_in (by decide)) ?_
    refine g_goto (t := 15) dL_fewest_9 rfl ?_
    refine g_iconst (v := 0) dL_fewest_15 rfl rfl ?_
    exact g_iretG dL_fewest_16 rfl ⟨by decide, by decide⟩ ⟨rfl, Or.inl ⟨z, M1, hz, rfl, rfl⟩⟩
abbrev μL_answers : gY := (cL_answers, RL, 6, some .int)
abbrev hhL_answers : gHH := [(0, 12, 15, 18), (0, 12, 19, 13)]
theorem wL_answers : g_SLW RL 143 yL_answers μL_answers hhL_answers 5 := ⟨g_uwR [1045, 1046, 89, 1047] (by decide +kernel) (by decide +kernel), by decide +kernel, by decide⟩
theorem aL_answers0 : g_CA μL_answers hhL_answers 7 nNSE 1 := ⟨[], [⟨0, 12, 19, 13⟩], ⟨0, 12, 15, 18⟩, 1, rfl, (fun z hz => by cases hz), by decide, by decide, w_l18, w_iN, rfl, rfl, Or.inr ⟨5, by decide, dL_answers_15, dL_answers_17, dL_answers_18⟩⟩
theorem aL_answers1 : g_CA μL_answers hhL_answers 7 nIAE 2 := ⟨[⟨0, 12, 15, 18⟩], [], ⟨0, 12, 19, 13⟩, 2, rfl, (fun z hz => Or.inr (by
    rcases List.mem_cons.mp hz with e | e
    · subst e; exact ⟨by decide, w_l18, rfl⟩
    · cases e)), by decide, by decide, w_l13, w_iI, rfl, rfl, Or.inr ⟨5, by decide, dL_answers_19, dL_answers_21, dL_answers_22⟩⟩
abbrev qL_answers (Γ : gW) (Qc : Int32 → gM → Prop) (XPc : String → gM → Prop) : gW → Option Value → gM → Prop := fun Γ' v M' => Γ' = Γ ∧ ((∃ (z : Int32) (M1 : gM), Qc z M1 ∧ v = some (.int 0) ∧ M' = g_ul M1 500 0 z.toInt64) ∨ (v = some (.int 1) ∧ XPc nNSE M') ∨ (v = some (.int 2) ∧ XPc nIAE M'))
theorem h_answers {Γ : gW} {M : gM} {gt : Option Nat} (hA : g_HG Γ gt) (ho : g_o Γ 500 (.inr (2, 1))) {d' d : Nat} (hdd : d' < d) {Qc : Int32 → gM → Prop} {XPc : String → gM → Prop} {p0 p1 p2 : Int32} (hc : CtX Γ yX5_answers μX5_answers d' [.ref 0, .int p0, .int p1, .int p2] M (g_qi Qc) XPc) (kx : ∀ E M', XPc E M' → E = nNSE ∨ E = nIAE) : CtL Γ yL_answers μL_answers hhL_answers d 1 6 [.ref 0, .int p0, .int p1, .int p2, .ref 500] M (qL_answers Γ Qc XPc) := by
  refine g_enterL (by decide +kernel) rfl rfl (Nat.le_of_ble_eq_true rfl) ?_
  show G _ _ _ _ _ _ [some (.ref 0), some (.int p0), some (.int p1), some (.int p2), some (.ref 500), none] _ _
  refine g_aload4 dL_answers_0 rfl ?_
  refine g_iconst (v := 0) dL_answers_2 rfl rfl ?_
  refine g_aload_n0 dL_answers_3 rfl ?_
  refine g_iload_n1 dL_answers_4 rfl ?_
  refine g_iload_n2 dL_answers_5 rfl ?_
  refine g_iload_n3 dL_answers_6 rfl ?_
  refine g_callWX (As := [.int p0, .int p1, .int p2]) dL_answers_7 vL_57 rfl hA.1 rfl hc ⟨by show d' + 9 ≤ d + 8; omega, by show 200 + 50 * d' ≤ 150 + 50 * d; omega, Nat.le_of_ble_eq_true rfl, Nat.le_of_ble_eq_true rfl⟩ (Nat.le_of_ble_eq_true rfl) ⟨by decide, by decide⟩ (fun E M' hx => ?_) (fun v M1 hv => ?_)
  · rcases kx E M' hx with rfl | rfl
    · exact ⟨_, aL_answers0, rfl, Or.inr (Or.inl ⟨rfl, hx⟩)⟩
    · exact ⟨_, aL_answers1, rfl, Or.inr (Or.inr ⟨rfl, hx⟩)⟩
  · obtain ⟨z, rfl, hz⟩ := hv
    refine g_i2l dL_answers_10 rfl ?_
    refine g_last dL_answers_11 rfl ho (i_in (by decide)) ?_
    refine g_goto (t := 23) dL_answers_12 rfl ?_
    refine g_iconst (v := 0) dL_answers_23 rfl rfl ?_
    exact g_iretG dL_answers_24 rfl ⟨by decide, by decide⟩ ⟨rfl, Or.inl ⟨z, M1, hz, rfl, rfl⟩⟩
abbrev μL_round : gY := (cL_round, RL, 5, some .int)
abbrev hhL_round : gHH := [(0, 10, 13, 18)]
theorem wL_round : g_SLW RL 147 yL_round μL_round hhL_round 4 := ⟨g_uwR [1057, 1058, 89, 1059] (by decide +kernel) (by decide +kernel), by decide +kernel, by decide⟩
theorem aL_round0 : g_CA μL_round hhL_round 5 nNSE 1 := ⟨[], [], ⟨0, 10, 13, 18⟩, 1, rfl, (fun z hz => by cases hz), by decide, by decide, w_l18, w_iN, rfl, rfl, Or.inr ⟨4, by decide, dL_round_13, dL_round_15, dL_round_16⟩⟩
abbrev qL_round (Γ : gW) (Qc : Int32 → gM → Prop) (XPc : String → gM → Prop) : gW → Option Value → gM → Prop := fun Γ' v M' => Γ' = Γ ∧ ((∃ (z : Int32) (M1 : gM), Qc z M1 ∧ v = some (.int 0) ∧ M' = g_ul M1 500 0 z.toInt64) ∨ (v = some (.int 1) ∧ XPc nNSE M'))
theorem h_round {Γ : gW} {M : gM} {gt : Option Nat} (hA : g_HG Γ gt) (ho : g_o Γ 500 (.inr (2, 1))) {d' d : Nat} (hdd : d' < d) {Qc : Int32 → gM → Prop} {XPc : String → gM → Prop} {p0 p1 : Int32} (hc : CtX Γ yX5_round μX5_round d' [.ref 0, .int p0, .int p1] M (g_qi Qc) XPc) (kx : ∀ E M', XPc E M' → E = nNSE) : CtL Γ yL_round μL_round hhL_round d 1 6 [.ref 0, .int p0, .int p1, .ref 500] M (qL_round Γ Qc XPc) := by
  refine g_enterL (by decide +kernel) rfl rfl (Nat.le_of_ble_eq_true rfl) ?_
  show G _ _ _ _ _ _ [some (.ref 0), some (.int p0), some (.int p1), some (.ref 500), none] _ _
  refine g_aload_n3 dL_round_0 rfl ?_
  refine g_iconst (v := 0) dL_round_1 rfl rfl ?_
  refine g_aload_n0 dL_round_2 rfl ?_
  refine g_iload_n1 dL_round_3 rfl ?_
  refine g_iload_n2 dL_round_4 rfl ?_
  refine g_callWX (As := [.int p0, .int p1]) dL_round_5 vL_61 rfl hA.1 rfl hc ⟨by show d' + 9 ≤ d + 8; omega, by show 200 + 50 * d' ≤ 150 + 50 * d; omega, Nat.le_of_ble_eq_true rfl, Nat.le_of_ble_eq_true rfl⟩ (Nat.le_of_ble_eq_true rfl) ⟨by decide, by decide⟩ (fun E M' hx => ?_) (fun v M1 hv => ?_)
  · cases kx E M' hx
    exact ⟨_, aL_round0, rfl, Or.inr ⟨rfl, hx⟩⟩
  · obtain ⟨z, rfl, hz⟩ := hv
    refine g_i2l dL_round_8 rfl ?_
    refine g_last dL_round_9 rfl ho (i_in (by decide)) ?_
    refine g_goto (t := 17) dL_round_10 rfl ?_
    refine g_iconst (v := 0) dL_round_17 rfl rfl ?_
    exact g_iretG dL_round_18 rfl ⟨by decide, by decide⟩ ⟨rfl, Or.inl ⟨z, M1, hz, rfl, rfl⟩⟩
abbrev μL_days : gY := (cL_days, RL, 4, some .int)
abbrev hhL_days : gHH := [(0, 9, 12, 13)]
theorem wL_days : g_SLW RL 150 yL_days μL_days hhL_days 3 := ⟨g_uwR [1064, 1065, 89, 1066] (by decide +kernel) (by decide +kernel), by decide +kernel, by decide⟩
theorem aL_days0 : g_CA μL_days hhL_days 4 nIAE 1 := ⟨[], [], ⟨0, 9, 12, 13⟩, 1, rfl, (fun z hz => by cases hz), by decide, by decide, w_l13, w_iI, rfl, rfl, Or.inl ⟨3, by decide, dL_days_12, dL_days_13, dL_days_14⟩⟩
abbrev qL_days (Γ : gW) (Qc : Int32 → gM → Prop) (XPc : String → gM → Prop) : gW → Option Value → gM → Prop := fun Γ' v M' => Γ' = Γ ∧ ((∃ (z : Int32) (M1 : gM), Qc z M1 ∧ v = some (.int 0) ∧ M' = g_ul M1 500 0 z.toInt64) ∨ (v = some (.int 1) ∧ XPc nIAE M'))
theorem h_days {Γ : gW} {M : gM} {gt : Option Nat} (hA : g_HG Γ gt) (ho : g_o Γ 500 (.inr (2, 1))) {d' d : Nat} (hdd : d' < d) {Qc : Int32 → gM → Prop} {XPc : String → gM → Prop} {p0 : Int32} (hc : CtX Γ yX5_days μX5_days d' [.ref 0, .int p0] M (g_qi Qc) XPc) (kx : ∀ E M', XPc E M' → E = nIAE) : CtL Γ yL_days μL_days hhL_days d 1 6 [.ref 0, .int p0, .ref 500] M (qL_days Γ Qc XPc) := by
  refine g_enterL (by decide +kernel) rfl rfl (Nat.le_of_ble_eq_true rfl) ?_
  show G _ _ _ _ _ _ [some (.ref 0), some (.int p0), some (.ref 500), none] _ _
  refine g_aload_n2 dL_days_0 rfl ?_
  refine g_iconst (v := 0) dL_days_1 rfl rfl ?_
  refine g_aload_n0 dL_days_2 rfl ?_
  refine g_iload_n1 dL_days_3 rfl ?_
  refine g_callWX (As := [.int p0]) dL_days_4 vL_64 rfl hA.1 rfl hc ⟨by show d' + 9 ≤ d + 8; omega, by show 200 + 50 * d' ≤ 150 + 50 * d; omega, Nat.le_of_ble_eq_true rfl, Nat.le_of_ble_eq_true rfl⟩ (Nat.le_of_ble_eq_true rfl) ⟨by decide, by decide⟩ (fun E M' hx => ?_) (fun v M1 hv => ?_)
  · cases kx E M' hx
    exact ⟨_, aL_days0, rfl, Or.inr ⟨rfl, hx⟩⟩
  · obtain ⟨z, rfl, hz⟩ := hv
    refine g_i2l dL_days_7 rfl ?_
    refine g_last dL_days_8 rfl ho (i_in (by decide)) ?_
    refine g_goto (t := 15) dL_days_9 rfl ?_
    refine g_iconst (v := 0) dL_days_15 rfl rfl ?_
    exact g_iretG dL_days_16 rfl ⟨by decide, by decide⟩ ⟨rfl, Or.inl ⟨z, M1, hz, rfl, rfl⟩⟩
