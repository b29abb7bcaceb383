def g_SJ (own : String) (idx : Nat) (y : MethodName) (μ : gY) (n : Nat) : Prop := (∀ w ∈ va_wsS own idx y [.code y μ.1 μ.2.2.1 μ.2.2.2], w ∈ g_UW) ∧ (y.cls ≠ "java/lang/invoke/MethodHandle" ∧ y.cls ≠ "java/lang/invoke/VarHandle" ∧ (parseMethodDescriptor y.desc).map (fun d => d.parameters.length) = some n) ∧ μ.2.2.1 ≤ 31
theorem g_goodJ {own : String} {idx : Nat} {y : MethodName} {x : Cond} (h : ∀ w ∈ va_wsS own idx y [x], w ∈ g_UW) : GoodIn g_UW (va_wsS own idx y (x :: g_UW)) := by
  refine g_uw_good fun w hw => ?_
  simp only [va_wsS, List.mem_append, List.mem_cons] at hw h
  rcases hw with hw | rfl | hw
  · exact h w (Or.inl hw)
  · exact h w (Or.inr (Or.inl rfl))
  · exact hw
section GJ
variable {Γ : gW} {μ : gY} {R : Room} {kn : Nat × Nat} {Z : gZ} {pc q : Nat} {lv : List (Option Value)} {st : List Value} {M : gM}
theorem g_callJ {idx n d' : Nat} {y : MethodName} {μ' : gY} {As : List Value} {Q : Option Value → gM → Prop} (hd : decode μ.1 pc = .ok (.invokestatic idx, 3)) (hv : g_SJ μ.2.1 idx y μ' n) (hn : As.length = n)
    (hc : Ct Γ y μ' d' As M Q) (hR : d' + 2 ≤ R.frames ∧ 90 + 50 * d' ≤ R.locals) (hst : (st.map fun v => v.category).sum ≤ 8)
    (k : ∀ (v : Option Value) (M' : gM), Q v M' → G Γ μ R kn Z (pc + 3) lv (v.toList ++ st) M') : G Γ μ R kn Z pc lv (As.reverse ++ st) M := by
  intro p l e s m args below meth c H locs A ls F X
  have hcat : ((st.map (g_v Γ.2.2.1)).map fun v => v.category) = st.map fun v => v.category := by
    rw [List.map_map]; exact List.map_congr_left fun v _ => g_cat v
  refine g_after (Q := Q) (a := (As.map (g_v Γ.2.2.1)).toArray) ?_ F X k
  exact va_runS (As := As.map (g_v Γ.2.2.1)) (rest := st.map (g_v Γ.2.2.1)) ⟨F.1, F.2.1, F.2.2.2.2.1, F.2.2.2.2.2.1, F.2.2.2.2.2.2.1⟩ (hc l H.size) (va_cwS n F.2.2.2.2.2.2.1 (g_goodJ hv.1) rfl rfl rfl hv.2.1 ⟨by show d' + 1 + 1 ≤ _; exact hR.1, by show _ + (40 + 50 * d') ≤ _; have := hv.2.2; have := hR.2; omega⟩)
      ⟨g_blind, fun U hU hW => ⟨rfl, by rw [hU], by rw [hU]; exact X.1, va_K.moved hW.alike F.2.2.2.2.2.2.2.1, X.2.1.weaken (fun _ _ _ _ => trivial), g_KHc F X hU hW⟩⟩
      rfl (by rw [List.length_map]; exact hn) X.2.2.2.1 (by show List.map _ _ = _; rw [List.map_append, List.map_reverse]) (lv_room (by rw [hcat]; exact hst)) hd ⟨F.2.2.2.2.2.2.2.2.2.1, F.2.2.2.2.2.2.2.2.2.2.1⟩
theorem g_callJi1 {idx d' : Nat} {y : MethodName} {μ' : gY} {v1 : Value} {P : Int32 → gM → Prop} (hd : decode μ.1 pc = .ok (.invokestatic idx, 3)) (hq : pc + 3 = q) (hv : g_SJ μ.2.1 idx y μ' 1) (hc : Ct Γ y μ' d' [v1] M (g_qi P)) (hR : d' + 2 ≤ R.frames ∧ 90 + 50 * d' ≤ R.locals) (hst : (st.map fun v => v.category).sum ≤ 8) (k : ∀ (z : Int32) (M' : gM), P z M' → G Γ μ R kn Z q lv (.int z :: st) M') : G Γ μ R kn Z pc lv (v1 :: st) M := by
  subst hq
  exact g_callJ (As := [v1]) hd hv rfl hc hR hst (fun v M' h => by obtain ⟨z, rfl, h⟩ := h; exact k z M' h)
theorem g_callJv2 {idx d' : Nat} {y : MethodName} {μ' : gY} {v1 v2 : Value} {P : gM → Prop} (hd : decode μ.1 pc = .ok (.invokestatic idx, 3)) (hq : pc + 3 = q) (hv : g_SJ μ.2.1 idx y μ' 2) (hc : Ct Γ y μ' d' [v1, v2] M (g_qv P)) (hR : d' + 2 ≤ R.frames ∧ 90 + 50 * d' ≤ R.locals) (hst : (st.map fun v => v.category).sum ≤ 8) (k : ∀ (M' : gM), P M' → G Γ μ R kn Z q lv st M') : G Γ μ R kn Z pc lv (v2 :: v1 :: st) M := by
  subst hq
  exact g_callJ (As := [v1, v2]) hd hv rfl hc hR hst (fun v M' h => by obtain ⟨rfl, h⟩ := h; exact k M' h)
/-- row i of the memory taken anew -/
def g_row (M : gM) (i : Nat) (f : Nat → Int32) : gM := (fun a b => if a = i then f b else M.1 a b, M.2)
theorem g_row_at {M : gM} {i : Nat} {f : Nat → Int32} : (g_row M i f).1 i = f := by funext b; simp [g_row]
theorem g_row_ne {M : gM} {i j : Nat} {f : Nat → Int32} (h : j ≠ i) : (g_row M i f).1 j = M.1 j := by funext b; simp [g_row, h]
theorem g_E_row {Γ : gW} {M : gM} {i j : Nat} {f : Nat → Int32} (h : j ≠ i) : g_E Γ (g_row M i f) j = g_E Γ M j := by
  simp only [g_E, g_row_ne h]; rfl
theorem g_acopy {idx i j n0 n1 : Nat} {sp dp n : Int32} (hd : decode μ.1 pc = .ok (.invokestatic idx, 3)) (hq : pc + 3 = q) (hl : Cond.methodLink μ.2.1 idx arraycopyName ∈ g_UW) (h2 : Cond.static arraycopyName ∈ g_UW) (h3 : Cond.initialized "java/lang/System" ∈ g_UW) (h4 : Cond.native arraycopyName ∈ g_UW) (ho : g_o Γ i (.inr (1, n1))) (hj : g_o Γ j (.inr (1, n0)))
    (b1 : 0 ≤ sp.toInt) (b2 : 0 ≤ dp.toInt) (b3 : 0 ≤ n.toInt) (b4 : sp.toInt + n.toInt ≤ n0) (b5 : dp.toInt + n.toInt ≤ n1) (hR : 1 ≤ R.frames ∧ (st.map fun v => v.category).sum + 18 ≤ R.locals)
    (k : G Γ μ R kn Z q lv st (g_row M i (va_cpy (M.1 j) (M.1 i) sp.toInt.toNat dp.toInt.toNat n.toInt.toNat))) : G Γ μ R kn Z pc lv (.int n :: .int dp :: .ref i :: .int sp :: .ref j :: st) M := by
  subst hq
  intro p l e s m args below meth c H locs A ls F X
  obtain ⟨hP, hD, hS, hL⟩ := X
  have hcat : ((st.map (g_v Γ.2.2.1)).map fun v => v.category) = st.map fun v => v.category := by
    rw [List.map_map]; exact List.map_congr_left fun v _ => g_cat v
  have hT := F.2.2.2.2.2.2.1
  obtain ⟨q1, h1, g1⟩ := g_ws_at (M := M) ho.1
  rw [g_E_arr ho.2 (by decide)] at g1
  obtain ⟨q0, h0, g0⟩ := g_ws_at (M := M) hj.1
  rw [g_E_arr hj.2 (by decide)] at g0
  have nn : ∀ x : Int32, 0 ≤ x.toInt → ¬ x < 0 := fun x hx h => by
    have := Int32.lt_iff_toInt_lt.mp h
    have e0 : (0 : Int32).toInt = 0 := rfl
    omega
  have e1 : (g_ws Γ M).set q1 (Γ.2.2.1 i, .inl (Γ.2.1 1, n1, .inl (va_cpy (M.1 j) (M.1 i) sp.toInt.toNat dp.toInt.toNat n.toInt.toNat))) = g_ws Γ (g_row M i (va_cpy (M.1 j) (M.1 i) sp.toInt.toNat dp.toInt.toNat n.toInt.toNat)) := g_ws_set hD h1 (by rw [g_E_arr ho.2 (by decide), g_row_at]) (fun j hj => g_E_row hj)
  refine va_copyi F.1 F.2.1 (by rw [F.2.2.2.2.1, hL.1]) F.2.2.2.2.2.1 (hT _ hl) (hT _ h4) (hT _ h2) (hT _ h3) F.2.2.2.2.2.2.2.1 hP hD hS q0 q1 1 1 g0 g1 rfl rfl rfl (nn sp b1) (nn dp b2) (nn n b3) (by show sp.toInt.toNat + n.toInt.toNat ≤ n0; omega) (by show dp.toInt.toNat + n.toInt.toNat ≤ n1; omega) (fun _ _ => rfl) hR.1 (by rw [hcat]; exact hR.2) hd (fun H1 locs1 hP1 hD1 hS1 => ?_)
  have hP2 : va_P Γ.1 vwCl ((g_ws Γ M).set q1 (Γ.2.2.1 i, .inl (Γ.2.1 1, n1, .inl (va_cpy (M.1 j) (M.1 i) sp.toInt.toNat dp.toInt.toNat n.toInt.toNat)))) H1 := hP1
  have hD2 : va_D A ((g_ws Γ M).set q1 (Γ.2.2.1 i, .inl (Γ.2.1 1, n1, .inl (va_cpy (M.1 j) (M.1 i) sp.toInt.toNat dp.toInt.toNat n.toInt.toNat)))) := hD1
  rw [e1] at hP2 hD2
  exact k p l e s m args below meth c H1 locs1 A ls F ⟨hP2, hD2, hS1, hL⟩
end GJ
theorem ja_s : Cond.static arraycopyName ∈ g_UW := g_uwR (ws := [Cond.static arraycopyName]) [434] (by decide +kernel) (by decide +kernel) _ List.mem_cons_self
theorem ja_n : Cond.native arraycopyName ∈ g_UW := g_uwR (ws := [Cond.native arraycopyName]) [435] (by decide +kernel) (by decide +kernel) _ List.mem_cons_self
theorem ja_i : Cond.initialized "java/lang/System" ∈ g_UW := g_uwR (ws := [Cond.initialized "java/lang/System"]) [106] (by decide +kernel) (by decide +kernel) _ List.mem_cons_self
theorem jaX3_70 : Cond.methodLink RX3 70 arraycopyName ∈ g_UW := g_uwR (ws := [Cond.methodLink RX3 70 arraycopyName]) [433] (by decide +kernel) (by decide +kernel) _ List.mem_cons_self
theorem jaX0_17 : Cond.methodLink RX0 17 arraycopyName ∈ g_UW := g_uwR (ws := [Cond.methodLink RX0 17 arraycopyName]) [518] (by decide +kernel) (by decide +kernel) _ List.mem_cons_self
theorem jaX1_101 : Cond.methodLink RX1 101 arraycopyName ∈ g_UW := g_uwR (ws := [Cond.methodLink RX1 101 arraycopyName]) [979] (by decide +kernel) (by decide +kernel) _ List.mem_cons_self
abbrev μJ6_bc : gY := (cJ6_bitCount_0f7a4, RJ6, 1, some .int)
abbrev μJ7_fi : gY := (cJ7_fill_53178, RJ7, 4, none)
abbrev μJ7_fs : gY := (cJ7_fill_fb410, RJ7, 4, none)
theorem kX3_122 : g_SJ RX3 122 yJ6_bitCount_0f7a4 μJ6_bc 1 := ⟨g_uwR [463, 464, 108, 465] (by decide +kernel) (by decide +kernel), by decide +kernel, by decide⟩
theorem kX3_61 : g_SJ RX3 61 yJ7_fill_53178 μJ7_fi 2 := ⟨g_uwR [604, 605, 101, 606] (by decide +kernel) (by decide +kernel), by decide +kernel, by decide⟩
theorem kX1_41 : g_SJ RX1 41 yJ7_fill_fb410 μJ7_fs 2 := ⟨g_uwR [959, 960, 101, 961] (by decide +kernel) (by decide +kernel), by decide +kernel, by decide⟩
theorem kX5_268 : g_SJ RX5 268 yJ6_bitCount_0f7a4 μJ6_bc 1 := ⟨g_uwR [1040, 464, 108, 465] (by decide +kernel) (by decide +kernel), by decide +kernel, by decide⟩
theorem kX5_279 : g_SJ RX5 279 yJ7_fill_53178 μJ7_fi 2 := ⟨g_uwR [1056, 605, 101, 606] (by decide +kernel) (by decide +kernel), by decide +kernel, by decide⟩
theorem jc_265 : Cond.constant RJ6 265 1431655765 ∈ g_UW := g_uwR (ws := [Cond.constant RJ6 265 1431655765]) [466] (by decide +kernel) (by decide +kernel) _ List.mem_cons_self
theorem jc_266 : Cond.constant RJ6 266 858993459 ∈ g_UW := g_uwR (ws := [Cond.constant RJ6 266 858993459]) [467] (by decide +kernel) (by decide +kernel) _ List.mem_cons_self
theorem jc_267 : Cond.constant RJ6 267 252645135 ∈ g_UW := g_uwR (ws := [Cond.constant RJ6 267 252645135]) [468] (by decide +kernel) (by decide +kernel) _ List.mem_cons_self
theorem dJ6_bitCount_0f7a4_0 : decode cJ6_bitCount_0f7a4 0 = .ok (.iload_n 0, 1) := by decide +kernel
theorem dJ6_bitCount_0f7a4_1 : decode cJ6_bitCount_0f7a4 1 = .ok (.iload_n 0, 1) := by decide +kernel
theorem dJ6_bitCount_0f7a4_2 : decode cJ6_bitCount_0f7a4 2 = .ok (.iconst 1, 1) := by decide +kernel
theorem dJ6_bitCount_0f7a4_3 : decode cJ6_bitCount_0f7a4 3 = .ok (.iushr, 1) := by decide +kernel
theorem dJ6_bitCount_0f7a4_4 : decode cJ6_bitCount_0f7a4 4 = .ok (.ldc_w 265, 3) := by decide +kernel
theorem dJ6_bitCount_0f7a4_7 : decode cJ6_bitCount_0f7a4 7 = .ok (.iand, 1) := by decide +kernel
theorem dJ6_bitCount_0f7a4_8 : decode cJ6_bitCount_0f7a4 8 = .ok (.isub, 1) := by decide +kernel
theorem dJ6_bitCount_0f7a4_9 : decode cJ6_bitCount_0f7a4 9 = .ok (.istore_n 0, 1) := by decide +kernel
theorem dJ6_bitCount_0f7a4_10 : decode cJ6_bitCount_0f7a4 10 = .ok (.iload_n 0, 1) := by decide +kernel
theorem dJ6_bitCount_0f7a4_11 : decode cJ6_bitCount_0f7a4 11 = .ok (.ldc_w 266, 3) := by decide +kernel
theorem dJ6_bitCount_0f7a4_14 : decode cJ6_bitCount_0f7a4 14 = .ok (.iand, 1) := by decide +kernel
theorem dJ6_bitCount_0f7a4_15 : decode cJ6_bitCount_0f7a4 15 = .ok (.iload_n 0, 1) := by decide +kernel
theorem dJ6_bitCount_0f7a4_16 : decode cJ6_bitCount_0f7a4 16 = .ok (.iconst 2, 1) := by decide +kernel
theorem dJ6_bitCount_0f7a4_17 : decode cJ6_bitCount_0f7a4 17 = .ok (.iushr, 1) := by decide +kernel
theorem dJ6_bitCount_0f7a4_18 : decode cJ6_bitCount_0f7a4 18 = .ok (.ldc_w 266, 3) := by decide +kernel
theorem dJ6_bitCount_0f7a4_21 : decode cJ6_bitCount_0f7a4 21 = .ok (.iand, 1) := by decide +kernel
theorem dJ6_bitCount_0f7a4_22 : decode cJ6_bitCount_0f7a4 22 = .ok (.iadd, 1) := by decide +kernel
theorem dJ6_bitCount_0f7a4_23 : decode cJ6_bitCount_0f7a4 23 = .ok (.istore_n 0, 1) := by decide +kernel
theorem dJ6_bitCount_0f7a4_24 : decode cJ6_bitCount_0f7a4 24 = .ok (.iload_n 0, 1) := by decide +kernel
theorem dJ6_bitCount_0f7a4_25 : decode cJ6_bitCount_0f7a4 25 = .ok (.iload_n 0, 1) := by decide +kernel
theorem dJ6_bitCount_0f7a4_26 : decode cJ6_bitCount_0f7a4 26 = .ok (.iconst 4, 1) := by decide +kernel
theorem dJ6_bitCount_0f7a4_27 : decode cJ6_bitCount_0f7a4 27 = .ok (.iushr, 1) := by decide +kernel
theorem dJ6_bitCount_0f7a4_28 : decode cJ6_bitCount_0f7a4 28 = .ok (.iadd, 1) := by decide +kernel
theorem dJ6_bitCount_0f7a4_29 : decode cJ6_bitCount_0f7a4 29 = .ok (.ldc_w 267, 3) := by decide +kernel
theorem dJ6_bitCount_0f7a4_32 : decode cJ6_bitCount_0f7a4 32 = .ok (.iand, 1) := by decide +kernel
theorem dJ6_bitCount_0f7a4_33 : decode cJ6_bitCount_0f7a4 33 = .ok (.istore_n 0, 1) := by decide +kernel
theorem dJ6_bitCount_0f7a4_34 : decode cJ6_bitCount_0f7a4 34 = .ok (.iload_n 0, 1) := by decide +kernel
theorem dJ6_bitCount_0f7a4_35 : decode cJ6_bitCount_0f7a4 35 = .ok (.iload_n 0, 1) := by decide +kernel
theorem dJ6_bitCount_0f7a4_36 : decode cJ6_bitCount_0f7a4 36 = .ok (.bipush 8, 2) := by decide +kernel
theorem dJ6_bitCount_0f7a4_38 : decode cJ6_bitCount_0f7a4 38 = .ok (.iushr, 1) := by decide +kernel
theorem dJ6_bitCount_0f7a4_39 : decode cJ6_bitCount_0f7a4 39 = .ok (.iadd, 1) := by decide +kernel
theorem dJ6_bitCount_0f7a4_40 : decode cJ6_bitCount_0f7a4 40 = .ok (.istore_n 0, 1) := by decide +kernel
theorem dJ6_bitCount_0f7a4_41 : decode cJ6_bitCount_0f7a4 41 = .ok (.iload_n 0, 1) := by decide +kernel
theorem dJ6_bitCount_0f7a4_42 : decode cJ6_bitCount_0f7a4 42 = .ok (.iload_n 0, 1) := by decide +kernel
theorem dJ6_bitCount_0f7a4_43 : decode cJ6_bitCount_0f7a4 43 = .ok (.bipush 16, 2) := by decide +kernel
theorem dJ6_bitCount_0f7a4_45 : decode cJ6_bitCount_0f7a4 45 = .ok (.iushr, 1) := by decide +kernel
theorem dJ6_bitCount_0f7a4_46 : decode cJ6_bitCount_0f7a4 46 = .ok (.iadd, 1) := by decide +kernel
theorem dJ6_bitCount_0f7a4_47 : decode cJ6_bitCount_0f7a4 47 = .ok (.istore_n 0, 1) := by decide +kernel
theorem dJ6_bitCount_0f7a4_48 : decode cJ6_bitCount_0f7a4 48 = .ok (.iload_n 0, 1) := by decide +kernel
theorem dJ6_bitCount_0f7a4_49 : decode cJ6_bitCount_0f7a4 49 = .ok (.bipush 63, 2) := by decide +kernel
theorem dJ6_bitCount_0f7a4_51 : decode cJ6_bitCount_0f7a4 51 = .ok (.iand, 1) := by decide +kernel
theorem dJ6_bitCount_0f7a4_52 : decode cJ6_bitCount_0f7a4 52 = .ok (.ireturn, 1) := by decide +kernel
theorem dJ7_fill_53178_0 : decode cJ7_fill_53178 0 = .ok (.iconst 0, 1) := by decide +kernel
theorem dJ7_fill_53178_1 : decode cJ7_fill_53178 1 = .ok (.istore_n 2, 1) := by decide +kernel
theorem dJ7_fill_53178_2 : decode cJ7_fill_53178 2 = .ok (.aload_n 0, 1) := by decide +kernel
theorem dJ7_fill_53178_3 : decode cJ7_fill_53178 3 = .ok (.arraylength, 1) := by decide +kernel
theorem dJ7_fill_53178_4 : decode cJ7_fill_53178 4 = .ok (.istore_n 3, 1) := by decide +kernel
theorem dJ7_fill_53178_5 : decode cJ7_fill_53178 5 = .ok (.iload_n 2, 1) := by decide +kernel
theorem dJ7_fill_53178_6 : decode cJ7_fill_53178 6 = .ok (.iload_n 3, 1) := by decide +kernel
theorem dJ7_fill_53178_7 : decode cJ7_fill_53178 7 = .ok (.if_icmp .ge 13, 3) := by decide +kernel
theorem dJ7_fill_53178_10 : decode cJ7_fill_53178 10 = .ok (.aload_n 0, 1) := by decide +kernel
theorem dJ7_fill_53178_11 : decode cJ7_fill_53178 11 = .ok (.iload_n 2, 1) := by decide +kernel
theorem dJ7_fill_53178_12 : decode cJ7_fill_53178 12 = .ok (.iload_n 1, 1) := by decide +kernel
theorem dJ7_fill_53178_13 : decode cJ7_fill_53178 13 = .ok (.iastore, 1) := by decide +kernel
theorem dJ7_fill_53178_14 : decode cJ7_fill_53178 14 = .ok (.iinc 2 1, 3) := by decide +kernel
theorem dJ7_fill_53178_17 : decode cJ7_fill_53178 17 = .ok (.goto (-12), 3) := by decide +kernel
theorem dJ7_fill_53178_20 : decode cJ7_fill_53178 20 = .ok (.return_, 1) := by decide +kernel
theorem dJ7_fill_fb410_0 : decode cJ7_fill_fb410 0 = .ok (.iconst 0, 1) := by decide +kernel
theorem dJ7_fill_fb410_1 : decode cJ7_fill_fb410 1 = .ok (.istore_n 2, 1) := by decide +kernel
theorem dJ7_fill_fb410_2 : decode cJ7_fill_fb410 2 = .ok (.aload_n 0, 1) := by decide +kernel
theorem dJ7_fill_fb410_3 : decode cJ7_fill_fb410 3 = .ok (.arraylength, 1) := by decide +kernel
theorem dJ7_fill_fb410_4 : decode cJ7_fill_fb410 4 = .ok (.istore_n 3, 1) := by decide +kernel
theorem dJ7_fill_fb410_5 : decode cJ7_fill_fb410 5 = .ok (.iload_n 2, 1) := by decide +kernel
theorem dJ7_fill_fb410_6 : decode cJ7_fill_fb410 6 = .ok (.iload_n 3, 1) := by decide +kernel
theorem dJ7_fill_fb410_7 : decode cJ7_fill_fb410 7 = .ok (.if_icmp .ge 13, 3) := by decide +kernel
theorem dJ7_fill_fb410_10 : decode cJ7_fill_fb410 10 = .ok (.aload_n 0, 1) := by decide +kernel
theorem dJ7_fill_fb410_11 : decode cJ7_fill_fb410 11 = .ok (.iload_n 2, 1) := by decide +kernel
theorem dJ7_fill_fb410_12 : decode cJ7_fill_fb410 12 = .ok (.iload_n 1, 1) := by decide +kernel
theorem dJ7_fill_fb410_13 : decode cJ7_fill_fb410 13 = .ok (.sastore, 1) := by decide +kernel
theorem dJ7_fill_fb410_14 : decode cJ7_fill_fb410 14 = .ok (.iinc 2 1, 3) := by decide +kernel
theorem dJ7_fill_fb410_17 : decode cJ7_fill_fb410 17 = .ok (.goto (-12), 3) := by decide +kernel
theorem dJ7_fill_fb410_20 : decode cJ7_fill_fb410 20 = .ok (.return_, 1) := by decide +kernel
