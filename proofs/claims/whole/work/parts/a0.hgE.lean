/-! HeavyGifts: what it throws, and the methods that only read -/
set_option maxRecDepth 100000 in
theorem th_e : ∀ w ∈ g_THc, w ∈ lw_tbl ∧ goodWord w = true := by decide +kernel
set_option maxRecDepth 100000 in
theorem thN_a : ∀ w ∈ (g_THl RX5 129 131 "java/util/NoSuchElementException").filter goodWord, w ∈ lw_tbl := by decide +kernel
set_option maxRecDepth 100000 in
theorem thN_b : ∀ w ∈ (g_THl RX5 129 131 "java/util/NoSuchElementException").filter (fun w => !goodWord w), w ∈ g_THb "java/util/NoSuchElementException" := by decide +kernel
set_option maxRecDepth 100000 in
theorem thN_c : ∀ w ∈ g_THl RX5 129 131 "java/util/NoSuchElementException", vx_ot w = true := by decide +kernel
set_option maxRecDepth 100000 in
theorem thN_d : Cond.instantiable "java/util/NoSuchElementException" 6 ∈ lw_tbl ∧ goodWord (Cond.instantiable "java/util/NoSuchElementException" 6) = true := by decide +kernel
theorem thN : g_TH RX5 129 131 "java/util/NoSuchElementException" := ⟨by decide +kernel, fun w h => List.mem_filter.mpr ⟨thN_a w h, (List.mem_filter.mp h).2⟩, thN_b, thN_c, fun w h => List.mem_filter.mpr (th_e w h), List.mem_filter.mpr thN_d⟩
set_option maxRecDepth 100000 in
theorem thI_a : ∀ w ∈ (g_THl RX5 95 97 "java/lang/IllegalArgumentException").filter goodWord, w ∈ lw_tbl := by decide +kernel
set_option maxRecDepth 100000 in
theorem thI_b : ∀ w ∈ (g_THl RX5 95 97 "java/lang/IllegalArgumentException").filter (fun w => !goodWord w), w ∈ g_THb "java/lang/IllegalArgumentException" := by decide +kernel
set_option maxRecDepth 100000 in
theorem thI_c : ∀ w ∈ g_THl RX5 95 97 "java/lang/IllegalArgumentException", vx_ot w = true := by decide +kernel
set_option maxRecDepth 100000 in
theorem thI_d : Cond.instantiable "java/lang/IllegalArgumentException" 6 ∈ lw_tbl ∧ goodWord (Cond.instantiable "java/lang/IllegalArgumentException" 6) = true := by decide +kernel
theorem thI : g_TH RX5 95 97 "java/lang/IllegalArgumentException" := ⟨by decide +kernel, fun w h => List.mem_filter.mpr ⟨thI_a w h, (List.mem_filter.mp h).2⟩, thI_b, thI_c, fun w h => List.mem_filter.mpr (th_e w h), List.mem_filter.mpr thI_d⟩
def nseX (M : gM) (P : Prop) : String → gM → Prop := fun E M1 => E = "java/util/NoSuchElementException" ∧ M1 = M ∧ P
def iaeX (M : gM) (P : Prop) : String → gM → Prop := fun E M1 => E = "java/lang/IllegalArgumentException" ∧ M1 = M ∧ P
set_option maxHeartbeats 1200000 in
theorem x_reqP {Γ : gW} {gt : Option Nat} {M : gM} (hA : g_HG Γ gt) {n : Int} (hn : (M.1 100 0).toInt = n) {p : Int32} : CtX Γ yX5_requirePerson μX5_requirePerson 0 [.ref 0, .int p] M (g_qv (fun M1 => M1 = M ∧ (0 ≤ p.toInt ∧ p.toInt < n))) (nseX M (¬ (0 ≤ p.toInt ∧ p.toInt < n))) := by
  refine g_enterX rfl rfl rfl (Nat.le_of_ble_eq_true rfl) ?_
  show G Γ _ _ _ _ 0 [some (.ref 0), some (.int p)] [] M
  refine g_iload_n1 dX5_requirePerson_0 rfl ?_
  refine g_if_ltI (t := 15) dX5_requirePerson_1 (by decide) rfl (fun c1 => ?_) (fun c1 => ?_)
  · -- 1 t
    refine g_throw thN dX5_requirePerson_15 dX5_requirePerson_18 dX5_requirePerson_19 dX5_requirePerson_22 rfl rfl rfl ⟨by show 7 ≤ _ + 8; omega, by show 100 ≤ 150 + 50 * _; omega, Nat.le_refl _, Nat.le_refl _⟩ (Nat.le_of_ble_eq_true rfl) ?_
    exact ⟨rfl, rfl, by omega⟩
  · -- 1 f
    refine g_iload_n1 dX5_requirePerson_4 rfl ?_
    refine g_aload_n0 dX5_requirePerson_5 rfl ?_
    refine g_getr dX5_requirePerson_6 rfl fX5_10 hA.1 rfl ?_
    refine g_geti dX5_requirePerson_9 rfl fX5_113 (hg_town hA).1 rfl ?_
    refine g_icmp_ltI (t := 23) dX5_requirePerson_12 (by decide) rfl (fun c12 => ?_) (fun c12 => ?_)
    · -- 12 t
      refine g_toX ?_
      refine g_vret dX5_requirePerson_23 rfl ?_
      exact ⟨rfl, rfl, by omega⟩
    · -- 12 f
      refine g_throw thN dX5_requirePerson_15 dX5_requirePerson_18 dX5_requirePerson_19 dX5_requirePerson_22 rfl rfl rfl ⟨by show 7 ≤ _ + 8; omega, by show 100 ≤ 150 + 50 * _; omega, Nat.le_refl _, Nat.le_refl _⟩ (Nat.le_of_ble_eq_true rfl) ?_
      exact ⟨rfl, rfl, by omega⟩
set_option maxHeartbeats 1200000 in
theorem x_reqT {Γ : gW} {gt : Option Nat} {M : gM} (hA : g_HG Γ gt) {n : Int} (hn : (M.1 100 1).toInt = n) {p : Int32} : CtX Γ yX5_requireThing μX5_requireThing 0 [.ref 0, .int p] M (g_qv (fun M1 => M1 = M ∧ (0 ≤ p.toInt ∧ p.toInt < n))) (nseX M (¬ (0 ≤ p.toInt ∧ p.toInt < n))) := by
  refine g_enterX rfl rfl rfl (Nat.le_of_ble_eq_true rfl) ?_
  show G Γ _ _ _ _ 0 [some (.ref 0), some (.int p)] [] M
  refine g_iload_n1 dX5_requireThing_0 rfl ?_
  refine g_if_ltI (t := 15) dX5_requireThing_1 (by decide) rfl (fun c1 => ?_) (fun c1 => ?_)
  · -- 1 t
    refine g_throw thN dX5_requireThing_15 dX5_requireThing_18 dX5_requireThing_19 dX5_requireThing_22 rfl rfl rfl ⟨by show 7 ≤ _ + 8; omega, by show 100 ≤ 150 + 50 * _; omega, Nat.le_refl _, Nat.le_refl _⟩ (Nat.le_of_ble_eq_true rfl) ?_
    exact ⟨rfl, rfl, by omega⟩
  · -- 1 f
    refine g_iload_n1 dX5_requireThing_4 rfl ?_
    refine g_aload_n0 dX5_requireThing_5 rfl ?_
    refine g_getr dX5_requireThing_6 rfl fX5_10 hA.1 rfl ?_
    refine g_geti dX5_requireThing_9 rfl fX5_116 (hg_town hA).1 rfl ?_
    refine g_icmp_ltI (t := 23) dX5_requireThing_12 (by decide) rfl (fun c12 => ?_) (fun c12 => ?_)
    · -- 12 t
      refine g_toX ?_
      refine g_vret dX5_requireThing_23 rfl ?_
      exact ⟨rfl, rfl, by omega⟩
    · -- 12 f
      refine g_throw thN dX5_requireThing_15 dX5_requireThing_18 dX5_requireThing_19 dX5_requireThing_22 rfl rfl rfl ⟨by show 7 ≤ _ + 8; omega, by show 100 ≤ 150 + 50 * _; omega, Nat.le_refl _, Nat.le_refl _⟩ (Nat.le_of_ble_eq_true rfl) ?_
      exact ⟨rfl, rfl, by omega⟩
set_option maxHeartbeats 1200000 in
theorem x_reqW {Γ : gW} {M : gM} {w k : Int32} : CtX Γ yX5_requireWhat μX5_requireWhat 0 [.ref 0, .int w, .int k] M (g_qv (fun M1 => M1 = M ∧ (0 ≤ w.toInt ∧ w.toInt ≤ k.toInt))) (nseX M (¬ (0 ≤ w.toInt ∧ w.toInt ≤ k.toInt))) := by
  refine g_enterX rfl rfl rfl (Nat.le_of_ble_eq_true rfl) ?_
  show G Γ _ _ _ _ 0 [some (.ref 0), some (.int w), some (.int k)] [] M
  refine g_iload_n1 dX5_requireWhat_0 rfl ?_
  refine g_if_ltI (t := 9) dX5_requireWhat_1 (by decide) rfl (fun c1 => ?_) (fun c1 => ?_)
  · -- 1 t
    refine g_throw thN dX5_requireWhat_9 dX5_requireWhat_12 dX5_requireWhat_13 dX5_requireWhat_16 rfl rfl rfl ⟨by show 7 ≤ _ + 8; omega, by show 100 ≤ 150 + 50 * _; omega, Nat.le_refl _, Nat.le_refl _⟩ (Nat.le_of_ble_eq_true rfl) ?_
    exact ⟨rfl, rfl, by omega⟩
  · -- 1 f
    refine g_iload_n1 dX5_requireWhat_4 rfl ?_
    refine g_iload_n2 dX5_requireWhat_5 rfl ?_
    refine g_icmp_leI (t := 17) dX5_requireWhat_6 (by decide) rfl (fun c6 => ?_) (fun c6 => ?_)
    · -- 6 t
      refine g_toX ?_
      refine g_vret dX5_requireWhat_17 rfl ?_
      exact ⟨rfl, rfl, by omega⟩
    · -- 6 f
      refine g_throw thN dX5_requireWhat_9 dX5_requireWhat_12 dX5_requireWhat_13 dX5_requireWhat_16 rfl rfl rfl ⟨by show 7 ≤ _ + 8; omega, by show 100 ≤ 150 + 50 * _; omega, Nat.le_refl _, Nat.le_refl _⟩ (Nat.le_of_ble_eq_true rfl) ?_
      exact ⟨rfl, rfl, by omega⟩
set_option maxHeartbeats 1200000 in
theorem x_reqN {Γ : gW} {M : gM} {n : Int32} : CtX Γ yX5_requireWeights μX5_requireWeights 0 [.ref 0, .int n] M (g_qv (fun M1 => M1 = M ∧ (1 ≤ n.toInt ∧ n.toInt ≤ 999))) (iaeX M (¬ (1 ≤ n.toInt ∧ n.toInt ≤ 999))) := by
  refine g_enterX rfl rfl rfl (Nat.le_of_ble_eq_true rfl) ?_
  show G Γ _ _ _ _ 0 [some (.ref 0), some (.int n)] [] M
  refine g_iload_n1 dX5_requireWeights_0 rfl ?_
  refine g_iconstI dX5_requireWeights_1 rfl rfl (fun w1 h1 => ?_)
  refine g_icmp_ltI (t := 12) dX5_requireWeights_2 (by decide) rfl (fun c2 => ?_) (fun c2 => ?_)
  · -- 2 t
    refine g_throw thI dX5_requireWeights_12 dX5_requireWeights_15 dX5_requireWeights_16 dX5_requireWeights_19 rfl rfl rfl ⟨by show 7 ≤ _ + 8; omega, by show 100 ≤ 150 + 50 * _; omega, Nat.le_refl _, Nat.le_refl _⟩ (Nat.le_of_ble_eq_true rfl) ?_
    exact ⟨rfl, rfl, by omega⟩
  · -- 2 f
    refine g_iload_n1 dX5_requireWeights_5 rfl ?_
    refine g_sipushI dX5_requireWeights_6 rfl rfl (fun w6 h6 => ?_)
    refine g_icmp_leI (t := 20) dX5_requireWeights_9 (by decide) rfl (fun c9 => ?_) (fun c9 => ?_)
    · -- 9 t
      refine g_toX ?_
      refine g_vret dX5_requireWeights_20 rfl ?_
      exact ⟨rfl, rfl, by omega⟩
    · -- 9 f
      refine g_throw thI dX5_requireWeights_12 dX5_requireWeights_15 dX5_requireWeights_16 dX5_requireWeights_19 rfl rfl rfl ⟨by show 7 ≤ _ + 8; omega, by show 100 ≤ 150 + 50 * _; omega, Nat.le_refl _, Nat.le_refl _⟩ (Nat.le_of_ble_eq_true rfl) ?_
      exact ⟨rfl, rfl, by omega⟩
def cntC (T : gTw) (M : gM) (w : Int) : Int := if w = 0 then T 0 0 else if w = 1 then T 0 1 else if w = 2 then T 0 2 else if w = 3 then T 0 3 else if w = 4 then T 0 4 else if w = 5 then (M.1 220 0).toInt else if w = 6 then (M.1 230 2).toInt else (M.1 0 (w - 4).toNat).toInt
set_option maxHeartbeats 1200000 in
theorem x_count {Γ : gW} {gt : Option Nat} {M : gM} (hA : g_HG Γ gt) {T : gTw} (hT : tv M 100 = T) (hB : TB M 100) {w : Int32} : CtX Γ yX5_count μX5_count 1 [.ref 0, .int w] M (g_qi (fun z M1 => M1 = M ∧ (0 ≤ w.toInt ∧ w.toInt ≤ 8) ∧ z.toInt = cntC T M w.toInt)) (nseX M (¬ (0 ≤ w.toInt ∧ w.toInt ≤ 8))) := by
  refine g_enterX rfl rfl rfl (Nat.le_of_ble_eq_true rfl) ?_
  show G Γ _ _ _ _ 0 [some (.ref 0), some (.int w)] [] M
  refine g_iload_n1 dX5_count_0 rfl ?_
  rcases (show w.toInt = 0 ∨ w.toInt = 1 ∨ w.toInt = 2 ∨ w.toInt = 3 ∨ w.toInt = 4 ∨ w.toInt = 5 ∨ w.toInt = 6 ∨ w.toInt = 7 ∨ w.toInt = 8 ∨ (w.toInt < 0 ∨ 8 < w.toInt) by omega) with c1 | c1 | c1 | c1 | c1 | c1 | c1 | c1 | c1 | c1
  · -- 1 case 0
    refine g_tableIn (off := 51) (t := 52) dX5_count_1 (by omega) (by omega) (by rw [c1]; rfl) (by decide) ?_
    refine g_aload_n0 dX5_count_52 rfl ?_
    refine g_getr dX5_count_53 rfl fX5_10 hA.1 rfl ?_
    refine g_geti dX5_count_56 rfl fX5_113 (hg_town hA).1 rfl ?_
    refine g_toX ?_
    refine g_iret dX5_count_59 rfl ?_
    exact ⟨_, rfl, rfl, by omega, by rw [c1, ← hT]; exact (tv0 (by decide)).symm⟩
  · -- 1 case 1
    refine g_tableIn (off := 59) (t := 60) dX5_count_1 (by omega) (by omega) (by rw [c1]; rfl) (by decide) ?_
    refine g_aload_n0 dX5_count_60 rfl ?_
    refine g_getr dX5_count_61 rfl fX5_10 hA.1 rfl ?_
    refine g_geti dX5_count_64 rfl fX5_116 (hg_town hA).1 rfl ?_
    refine g_toX ?_
    refine g_iret dX5_count_67 rfl ?_
    exact ⟨_, rfl, rfl, by omega, by rw [c1, ← hT]; exact (tv0 (by decide)).symm⟩
  · -- 1 case 2
    refine g_tableIn (off := 67) (t := 68) dX5_count_1 (by omega) (by omega) (by rw [c1]; rfl) (by decide) ?_
    refine g_aload_n0 dX5_count_68 rfl ?_
    refine g_getr dX5_count_69 rfl fX5_10 hA.1 rfl ?_
    refine g_geti dX5_count_72 rfl fX5_119 (hg_town hA).1 rfl ?_
    refine g_toX ?_
    refine g_iret dX5_count_75 rfl ?_
    exact ⟨_, rfl, rfl, by omega, by rw [c1, ← hT]; exact (tv0 (by decide)).symm⟩
  · -- 1 case 3
    refine g_tableIn (off := 75) (t := 76) dX5_count_1 (by omega) (by omega) (by rw [c1]; rfl) (by decide) ?_
    refine g_aload_n0 dX5_count_76 rfl ?_
    refine g_getr dX5_count_77 rfl fX5_10 hA.1 rfl ?_
    refine g_geti dX5_count_80 rfl fX5_122 (hg_town hA).1 rfl ?_
    refine g_toX ?_
    refine g_iret dX5_count_83 rfl ?_
    exact ⟨_, rfl, rfl, by omega, by rw [c1, ← hT]; exact (tv0 (by decide)).symm⟩
  · -- 1 case 4
    refine g_tableIn (off := 83) (t := 84) dX5_count_1 (by omega) (by omega) (by rw [c1]; rfl) (by decide) ?_
    refine g_aload_n0 dX5_count_84 rfl ?_
    refine g_getr dX5_count_85 rfl fX5_10 hA.1 rfl ?_
    refine g_geti dX5_count_88 rfl fX5_125 (hg_town hA).1 rfl ?_
    refine g_toX ?_
    refine g_iret dX5_count_91 rfl ?_
    exact ⟨_, rfl, rfl, by omega, by rw [c1, ← hT]; exact (tv0 (by decide)).symm⟩
  · -- 1 case 5
    refine g_tableIn (off := 91) (t := 92) dX5_count_1 (by omega) (by omega) (by rw [c1]; rfl) (by decide) ?_
    refine g_aload_n0 dX5_count_92 rfl ?_
    refine g_getr dX5_count_93 rfl fX5_22 hA.1 rfl ?_
    refine g_callVi0 dX5_count_96 rfl vX5_128 (hg_book hA).1 rfl (c_bkLength (hg_book hA)) (g_rmX (by omega)) (Nat.le_of_ble_eq_true rfl) (fun z96 M96 e96 => ?_)
    obtain ⟨hMM, e96⟩ := e96
    subst M96
    refine g_toX ?_
    refine g_iret dX5_count_99 rfl ?_
    exact ⟨_, rfl, rfl, by omega, by rw [c1, e96]; rfl⟩
  · -- 1 case 6
    refine g_tableIn (off := 99) (t := 100) dX5_count_1 (by omega) (by omega) (by rw [c1]; rfl) (by decide) ?_
    refine g_aload_n0 dX5_count_100 rfl ?_
    refine g_getr dX5_count_101 rfl fX5_52 hA.1 rfl ?_
    refine g_callVi0 dX5_count_104 rfl vX5_91 (hg_tape hA).1 rfl (c_tpLength (hg_tape hA)) (g_rmX (by omega)) (Nat.le_of_ble_eq_true rfl) (fun z104 M104 e104 => ?_)
    obtain ⟨hMM, e104⟩ := e104
    subst M104
    refine g_toX ?_
    refine g_iret dX5_count_107 rfl ?_
    exact ⟨_, rfl, rfl, by omega, by rw [c1, e104]; rfl⟩
  · -- 1 case 7
    refine g_tableIn (off := 107) (t := 108) dX5_count_1 (by omega) (by omega) (by rw [c1]; rfl) (by decide) ?_
    refine g_aload_n0 dX5_count_108 rfl ?_
    refine g_geti dX5_count_109 rfl fX5_26 hA.1 rfl ?_
    refine g_toX ?_
    refine g_iret dX5_count_112 rfl ?_
    exact ⟨_, rfl, rfl, by omega, by rw [c1]; rfl⟩
  · -- 1 case 8
    refine g_tableIn (off := 112) (t := 113) dX5_count_1 (by omega) (by omega) (by rw [c1]; rfl) (by decide) ?_
    refine g_aload_n0 dX5_count_113 rfl ?_
    refine g_geti dX5_count_114 rfl fX5_30 hA.1 rfl ?_
    refine g_toX ?_
    refine g_iret dX5_count_117 rfl ?_
    exact ⟨_, rfl, rfl, by omega, by rw [c1]; rfl⟩
  · -- 1 default
    refine g_tableOut (t := 118) dX5_count_1 (by omega) (by decide) ?_
    refine g_throw thN dX5_count_118 dX5_count_121 dX5_count_122 dX5_count_125 rfl rfl rfl ⟨by show 7 ≤ _ + 8; omega, by show 100 ≤ 150 + 50 * _; omega, Nat.le_refl _, Nat.le_refl _⟩ (Nat.le_of_ble_eq_true rfl) ?_
    exact ⟨rfl, rfl, by omega⟩
set_option maxHeartbeats 1200000 in
theorem x_person {Γ : gW} {gt : Option Nat} {M : gM} (hA : g_HG Γ gt) {T : gTw} (hT : tv M 100 = T) (hB : TB M 100) {p w : Int32} : CtX Γ yX5_person μX5_person 1 [.ref 0, .int p, .int w] M (g_qi (fun z M1 => M1 = M ∧ (0 ≤ p.toInt ∧ p.toInt < T 0 0 ∧ 0 ≤ w.toInt ∧ w.toInt ≤ 6) ∧ z.toInt = perT T p.toInt.toNat w.toInt)) (nseX M (¬ (0 ≤ p.toInt ∧ p.toInt < T 0 0 ∧ 0 ≤ w.toInt ∧ w.toInt ≤ 6))) := by
  have hO : TOK T := by rw [← hT]; exact TOK.of hB
  have hb0 := hO.1
  have hb1 := hO.2.1
  have t00 : (M.1 100 0).toInt = T 0 0 := by rw [← hT]; exact (tv0 (by decide)).symm
  have t01 : (M.1 100 1).toInt = T 0 1 := by rw [← hT]; exact (tv0 (by decide)).symm
  refine g_enterX rfl rfl rfl (Nat.le_of_ble_eq_true rfl) ?_
  show G Γ _ _ _ _ 0 [some (.ref 0), some (.int p), some (.int w)] [] M
  refine g_aload_n0 dX5_person_0 rfl ?_
  refine g_iload_n1 dX5_person_1 rfl ?_
  refine g_callXv1 dX5_person_2 rfl vX5_132 hA.1 rfl (x_reqP hA t00) (g_rmY (by omega)) (Nat.le_of_ble_eq_true rfl) (fun E M1 h => ⟨h.1, h.2.1, by have := h.2.2; omega⟩) (fun M2 e2 => ?_)
  obtain ⟨hMM, q2⟩ := e2
  subst M2
  have hp6 : p.toInt.toNat < 6 := by omega
  have hbp := hO.2.2.2.2.2.2.1 p.toInt.toNat hp6
  have hh6 : T 6 p.toInt.toNat = (M.1 (100 + 6) p.toInt.toNat).toInt := by rw [← hT]; exact tvp (by decide) hp6
  refine g_iload_n2 dX5_person_5 rfl ?_
  rcases (show w.toInt = 0 ∨ w.toInt = 1 ∨ w.toInt = 2 ∨ w.toInt = 3 ∨ w.toInt = 4 ∨ w.toInt = 5 ∨ w.toInt = 6 ∨ (w.toInt < 0 ∨ 6 < w.toInt) by omega) with c6 | c6 | c6 | c6 | c6 | c6 | c6 | c6
  · -- 6 case 0
    refine g_tableIn (off := 42) (t := 48) dX5_person_6 (by omega) (by omega) (by rw [c6]; rfl) (by decide) ?_
    refine g_aload_n0 dX5_person_48 rfl ?_
    refine g_getr dX5_person_49 rfl fX5_10 hA.1 rfl ?_
    refine g_getr dX5_person_52 rfl fX5_135 (hg_town hA).1 rfl ?_
    refine g_iload_n1 dX5_person_55 rfl ?_
    refine g_ialdI dX5_person_56 rfl (tw_kind (hg_town hA)) ⟨by omega, by omega⟩ ?_
    refine g_toX ?_
    refine g_iret dX5_person_57 rfl ?_
    exact ⟨_, rfl, rfl, by omega, by rw [c6, ← hT]; exact (tvp (f := 1) (by decide) hp6).symm⟩
  · -- 6 case 1
    refine g_tableIn (off := 52) (t := 58) dX5_person_6 (by omega) (by omega) (by rw [c6]; rfl) (by decide) ?_
    refine g_aload_n0 dX5_person_58 rfl ?_
    refine g_getr dX5_person_59 rfl fX5_10 hA.1 rfl ?_
    refine g_getr dX5_person_62 rfl fX5_138 (hg_town hA).1 rfl ?_
    refine g_iload_n1 dX5_person_65 rfl ?_
    refine g_ialdI dX5_person_66 rfl (tw_sand (hg_town hA)) ⟨by omega, by omega⟩ ?_
    refine g_toX ?_
    refine g_iret dX5_person_67 rfl ?_
    exact ⟨_, rfl, rfl, by omega, by rw [c6, ← hT]; exact (tvp (f := 3) (by decide) hp6).symm⟩
  · -- 6 case 2
    refine g_tableIn (off := 62) (t := 68) dX5_person_6 (by omega) (by omega) (by rw [c6]; rfl) (by decide) ?_
    refine g_aload_n0 dX5_person_68 rfl ?_
    refine g_getr dX5_person_69 rfl fX5_10 hA.1 rfl ?_
    refine g_getr dX5_person_72 rfl fX5_141 (hg_town hA).1 rfl ?_
    refine g_iload_n1 dX5_person_75 rfl ?_
    refine g_ialdI dX5_person_76 rfl (tw_owed (hg_town hA)) ⟨by omega, by omega⟩ ?_
    refine g_toX ?_
    refine g_iret dX5_person_77 rfl ?_
    exact ⟨_, rfl, rfl, by omega, by rw [c6, ← hT]; exact (tvp (f := 4) (by decide) hp6).symm⟩
  · -- 6 case 3
    refine g_tableIn (off := 72) (t := 78) dX5_person_6 (by omega) (by omega) (by rw [c6]; rfl) (by decide) ?_
    refine g_aload_n0 dX5_person_78 rfl ?_
    refine g_getr dX5_person_79 rfl fX5_10 hA.1 rfl ?_
    refine g_getr dX5_person_82 rfl fX5_144 (hg_town hA).1 rfl ?_
    refine g_iload_n1 dX5_person_85 rfl ?_
    refine g_ialdI dX5_person_86 rfl (tw_owedTo (hg_town hA)) ⟨by omega, by omega⟩ ?_
    refine g_toX ?_
    refine g_iret dX5_person_87 rfl ?_
    exact ⟨_, rfl, rfl, by omega, by rw [c6, ← hT]; exact (tvp (f := 5) (by decide) hp6).symm⟩
  · -- 6 case 4
    refine g_tableIn (off := 82) (t := 88) dX5_person_6 (by omega) (by omega) (by rw [c6]; rfl) (by decide) ?_
    refine g_aload_n0 dX5_person_88 rfl ?_
    refine g_getr dX5_person_89 rfl fX5_10 hA.1 rfl ?_
    refine g_getr dX5_person_92 rfl fX5_147 (hg_town hA).1 rfl ?_
    refine g_iload_n1 dX5_person_95 rfl ?_
    refine g_ialdI dX5_person_96 rfl (tw_has (hg_town hA)) ⟨by omega, by omega⟩ ?_
    refine g_toX ?_
    refine g_iret dX5_person_97 rfl ?_
    refine ⟨_, rfl, rfl, by omega, ?_⟩
    rw [c6]
    show _ = ((hasT T p.toInt.toNat : Nat) : Int)
    rw [hasT]; omega
  · -- 6 case 5
    refine g_tableIn (off := 92) (t := 98) dX5_person_6 (by omega) (by omega) (by rw [c6]; rfl) (by decide) ?_
    refine g_aload_n0 dX5_person_98 rfl ?_
    refine g_getr dX5_person_99 rfl fX5_10 hA.1 rfl ?_
    refine g_aload_n0 dX5_person_102 rfl ?_
    refine g_getr dX5_person_103 rfl fX5_10 hA.1 rfl ?_
    refine g_getr dX5_person_106 rfl fX5_147 (hg_town hA).1 rfl ?_
    refine g_iload_n1 dX5_person_109 rfl ?_
    refine g_ialdI dX5_person_110 rfl (tw_has (hg_town hA)) ⟨by omega, by omega⟩ ?_
    refine g_callVi1 dX5_person_111 rfl vX5_150 (hg_town hA).1 rfl (c_worthOf (hg_town hA) hB (by omega)) (g_rmX (by omega)) (Nat.le_of_ble_eq_true rfl) (fun z111 M111 e111 => ?_)
    obtain ⟨hMM, e111⟩ := e111
    subst M111
    refine g_toX ?_
    refine g_iret dX5_person_114 rfl ?_
    refine ⟨_, rfl, rfl, by omega, ?_⟩
    rw [c6, e111]
    show worthS M 100 _ = woT T (hasT T p.toInt.toNat)
    rw [v_wo hB, hT, hasT, hh6]
  · -- 6 case 6
    refine g_tableIn (off := 109) (t := 115) dX5_person_6 (by omega) (by omega) (by rw [c6]; rfl) (by decide) ?_
    refine g_aload_n0 dX5_person_115 rfl ?_
    refine g_getr dX5_person_116 rfl fX5_10 hA.1 rfl ?_
    refine g_aload_n0 dX5_person_119 rfl ?_
    refine g_getr dX5_person_120 rfl fX5_10 hA.1 rfl ?_
    refine g_getr dX5_person_123 rfl fX5_147 (hg_town hA).1 rfl ?_
    refine g_iload_n1 dX5_person_126 rfl ?_
    refine g_ialdI dX5_person_127 rfl (tw_has (hg_town hA)) ⟨by omega, by omega⟩ ?_
    refine g_callVi1 dX5_person_128 rfl vX5_153 (hg_town hA).1 rfl (c_weightOf (hg_town hA) hB (by omega)) (g_rmX (by omega)) (Nat.le_of_ble_eq_true rfl) (fun z128 M128 e128 => ?_)
    obtain ⟨hMM, e128⟩ := e128
    subst M128
    refine g_toX ?_
    refine g_iret dX5_person_131 rfl ?_
    refine ⟨_, rfl, rfl, by omega, ?_⟩
    rw [c6, e128]
    show wt M 100 _ = wtT T (hasT T p.toInt.toNat)
    rw [v_wt, hT, hasT, hh6]
  · -- 6 default
    refine g_tableOut (t := 132) dX5_person_6 (by omega) (by decide) ?_
    refine g_throw thN dX5_person_132 dX5_person_135 dX5_person_136 dX5_person_139 rfl rfl rfl ⟨by show 7 ≤ _ + 8; omega, by show 100 ≤ 150 + 50 * _; omega, Nat.le_refl _, Nat.le_refl _⟩ (Nat.le_of_ble_eq_true rfl) ?_
    exact ⟨rfl, rfl, by omega⟩
