/-! String constants -/
abbrev μJ0_cod : gY := (cJ0_coder_7d493, RJ0, 1, some .byte)
abbrev μJ0_len : gY := (cJ0_length_8abf5, RJ0, 1, some .int)
abbrev μJ0_lat : gY := (cJ0_isLatin1_aae02, RJ0, 1, some .boolean)
abbrev μJ0_chk : gY := (cJ0_checkIndex_df160, RJ0, 2, none)
abbrev μJ0_cat : gY := (cJ0_charAt_5068e, RJ0, 2, some .char)
abbrev μJ1_cat : gY := (cJ1_charAt_3b067, RJ1, 2, some .char)
abbrev μJ3_chk : gY := (cJ3_checkIndex_8e157, RJ3, 3, some .int)
theorem js_9 : Cond.fieldLink RJ0 9 RJ0 "value" "[B" ∈ g_UW := g_uwR (ws := [Cond.fieldLink RJ0 9 RJ0 "value" "[B"]) [1578] (by decide +kernel) (by decide +kernel) _ List.mem_cons_self
theorem js_15 : Cond.fieldLink RJ0 15 RJ0 "coder" "B" ∈ g_UW := g_uwR (ws := [Cond.fieldLink RJ0 15 RJ0 "coder" "B"]) [1579] (by decide +kernel) (by decide +kernel) _ List.mem_cons_self
theorem js_38 : Cond.fieldLink RJ0 38 RJ0 "COMPACT_STRINGS" "Z" ∈ g_UW := g_uwR (ws := [Cond.fieldLink RJ0 38 RJ0 "COMPACT_STRINGS" "Z"]) [644] (by decide +kernel) (by decide +kernel) _ List.mem_cons_self
theorem js_1053 : Cond.fieldLink RJ0 1053 RJ3 "SIOOBE_FORMATTER" "Ljava/util/function/BiFunction;" ∈ g_UW := g_uwR (ws := [Cond.fieldLink RJ0 1053 RJ3 "SIOOBE_FORMATTER" "Ljava/util/function/BiFunction;"]) [660] (by decide +kernel) (by decide +kernel) _ List.mem_cons_self
theorem jv_335 : g_VL RJ0 335 RJ0 yJ0_coder_7d493 μJ0_cod 0 := ⟨g_uwR [640, 641, 642, 102, 643] (by decide +kernel) (by decide +kernel), by decide +kernel, by decide⟩
theorem jv_492 : g_VL RJ0 492 RJ0 yJ0_isLatin1_aae02 μJ0_lat 0 := ⟨g_uwR [650, 651, 652, 102, 653] (by decide +kernel) (by decide +kernel), by decide +kernel, by decide⟩
theorem jvX2_174 : g_VL RX2 174 RJ0 yJ0_length_8abf5 μJ0_len 0 := ⟨g_uwR [636, 637, 638, 102, 639] (by decide +kernel) (by decide +kernel), by decide +kernel, by decide⟩
theorem jvX2_178 : g_VL RX2 178 RJ0 yJ0_charAt_5068e μJ0_cat 1 := ⟨g_uwR [646, 647, 648, 102, 649] (by decide +kernel) (by decide +kernel), by decide +kernel, by decide⟩
theorem jvX6_180 : g_VL RX6 180 RJ0 yJ0_length_8abf5 μJ0_len 0 := ⟨g_uwR [1299, 637, 638, 102, 639] (by decide +kernel) (by decide +kernel), by decide +kernel, by decide⟩
theorem jvX6_184 : g_VL RX6 184 RJ0 yJ0_charAt_5068e μJ0_cat 1 := ⟨g_uwR [1300, 647, 648, 102, 649] (by decide +kernel) (by decide +kernel), by decide +kernel, by decide⟩
theorem jk_495 : g_SJ RJ0 495 yJ1_charAt_3b067 μJ1_cat 2 := ⟨g_uwR [654, 655, 103, 656] (by decide +kernel) (by decide +kernel), by decide +kernel, by decide⟩
theorem jk_9 : g_SJ RJ1 9 yJ0_checkIndex_df160 μJ0_chk 2 := ⟨g_uwR [657, 658, 102, 659] (by decide +kernel) (by decide +kernel), by decide +kernel, by decide⟩
theorem jk_1059 : g_SJ RJ0 1059 yJ3_checkIndex_8e157 μJ3_chk 3 := ⟨g_uwR [662, 663, 104, 664] (by decide +kernel) (by decide +kernel), by decide +kernel, by decide⟩
theorem dJ0_length_8abf5_0 : decode cJ0_length_8abf5 0 = .ok (.aload_n 0, 1) := by decide +kernel
theorem dJ0_length_8abf5_1 : decode cJ0_length_8abf5 1 = .ok (.getfield 9, 3) := by decide +kernel
theorem dJ0_length_8abf5_4 : decode cJ0_length_8abf5 4 = .ok (.arraylength, 1) := by decide +kernel
theorem dJ0_length_8abf5_5 : decode cJ0_length_8abf5 5 = .ok (.aload_n 0, 1) := by decide +kernel
theorem dJ0_length_8abf5_6 : decode cJ0_length_8abf5 6 = .ok (.invokevirtual 335, 3) := by decide +kernel
theorem dJ0_length_8abf5_9 : decode cJ0_length_8abf5 9 = .ok (.ishr, 1) := by decide +kernel
theorem dJ0_length_8abf5_10 : decode cJ0_length_8abf5 10 = .ok (.ireturn, 1) := by decide +kernel
theorem dJ0_charAt_5068e_0 : decode cJ0_charAt_5068e 0 = .ok (.aload_n 0, 1) := by decide +kernel
theorem dJ0_charAt_5068e_1 : decode cJ0_charAt_5068e 1 = .ok (.invokevirtual 492, 3) := by decide +kernel
theorem dJ0_charAt_5068e_4 : decode cJ0_charAt_5068e 4 = .ok (.ifCond .eq 12, 3) := by decide +kernel
theorem dJ0_charAt_5068e_7 : decode cJ0_charAt_5068e 7 = .ok (.aload_n 0, 1) := by decide +kernel
theorem dJ0_charAt_5068e_8 : decode cJ0_charAt_5068e 8 = .ok (.getfield 9, 3) := by decide +kernel
theorem dJ0_charAt_5068e_11 : decode cJ0_charAt_5068e 11 = .ok (.iload_n 1, 1) := by decide +kernel
theorem dJ0_charAt_5068e_12 : decode cJ0_charAt_5068e 12 = .ok (.invokestatic 495, 3) := by decide +kernel
theorem dJ0_charAt_5068e_15 : decode cJ0_charAt_5068e 15 = .ok (.ireturn, 1) := by decide +kernel
theorem dJ0_charAt_5068e_16 : decode cJ0_charAt_5068e 16 = .ok (.aload_n 0, 1) := by decide +kernel
theorem dJ0_charAt_5068e_17 : decode cJ0_charAt_5068e 17 = .ok (.getfield 9, 3) := by decide +kernel
theorem dJ0_charAt_5068e_20 : decode cJ0_charAt_5068e 20 = .ok (.iload_n 1, 1) := by decide +kernel
theorem dJ0_charAt_5068e_21 : decode cJ0_charAt_5068e 21 = .ok (.invokestatic 498, 3) := by decide +kernel
theorem dJ0_charAt_5068e_24 : decode cJ0_charAt_5068e 24 = .ok (.ireturn, 1) := by decide +kernel
theorem dJ0_coder_7d493_0 : decode cJ0_coder_7d493 0 = .ok (.getstatic 38, 3) := by decide +kernel
theorem dJ0_coder_7d493_3 : decode cJ0_coder_7d493 3 = .ok (.ifCond .eq 10, 3) := by decide +kernel
theorem dJ0_coder_7d493_6 : decode cJ0_coder_7d493 6 = .ok (.aload_n 0, 1) := by decide +kernel
theorem dJ0_coder_7d493_7 : decode cJ0_coder_7d493 7 = .ok (.getfield 15, 3) := by decide +kernel
theorem dJ0_coder_7d493_10 : decode cJ0_coder_7d493 10 = .ok (.goto 4, 3) := by decide +kernel
theorem dJ0_coder_7d493_13 : decode cJ0_coder_7d493 13 = .ok (.iconst 1, 1) := by decide +kernel
theorem dJ0_coder_7d493_14 : decode cJ0_coder_7d493 14 = .ok (.ireturn, 1) := by decide +kernel
theorem dJ0_isLatin1_aae02_0 : decode cJ0_isLatin1_aae02 0 = .ok (.getstatic 38, 3) := by decide +kernel
theorem dJ0_isLatin1_aae02_3 : decode cJ0_isLatin1_aae02 3 = .ok (.ifCond .eq 14, 3) := by decide +kernel
theorem dJ0_isLatin1_aae02_6 : decode cJ0_isLatin1_aae02 6 = .ok (.aload_n 0, 1) := by decide +kernel
theorem dJ0_isLatin1_aae02_7 : decode cJ0_isLatin1_aae02 7 = .ok (.getfield 15, 3) := by decide +kernel
theorem dJ0_isLatin1_aae02_10 : decode cJ0_isLatin1_aae02 10 = .ok (.ifCond .ne 7, 3) := by decide +kernel
theorem dJ0_isLatin1_aae02_13 : decode cJ0_isLatin1_aae02 13 = .ok (.iconst 1, 1) := by decide +kernel
theorem dJ0_isLatin1_aae02_14 : decode cJ0_isLatin1_aae02 14 = .ok (.goto 4, 3) := by decide +kernel
theorem dJ0_isLatin1_aae02_17 : decode cJ0_isLatin1_aae02 17 = .ok (.iconst 0, 1) := by decide +kernel
theorem dJ0_isLatin1_aae02_18 : decode cJ0_isLatin1_aae02 18 = .ok (.ireturn, 1) := by decide +kernel
theorem dJ0_checkIndex_df160_0 : decode cJ0_checkIndex_df160 0 = .ok (.iload_n 0, 1) := by decide +kernel
theorem dJ0_checkIndex_df160_1 : decode cJ0_checkIndex_df160 1 = .ok (.iload_n 1, 1) := by decide +kernel
theorem dJ0_checkIndex_df160_2 : decode cJ0_checkIndex_df160 2 = .ok (.getstatic 1053, 3) := by decide +kernel
theorem dJ0_checkIndex_df160_5 : decode cJ0_checkIndex_df160 5 = .ok (.invokestatic 1059, 3) := by decide +kernel
theorem dJ0_checkIndex_df160_8 : decode cJ0_checkIndex_df160 8 = .ok (.pop, 1) := by decide +kernel
theorem dJ0_checkIndex_df160_9 : decode cJ0_checkIndex_df160 9 = .ok (.return_, 1) := by decide +kernel
theorem dJ1_charAt_3b067_0 : decode cJ1_charAt_3b067 0 = .ok (.iload_n 1, 1) := by decide +kernel
theorem dJ1_charAt_3b067_1 : decode cJ1_charAt_3b067 1 = .ok (.aload_n 0, 1) := by decide +kernel
theorem dJ1_charAt_3b067_2 : decode cJ1_charAt_3b067 2 = .ok (.arraylength, 1) := by decide +kernel
theorem dJ1_charAt_3b067_3 : decode cJ1_charAt_3b067 3 = .ok (.invokestatic 9, 3) := by decide +kernel
theorem dJ1_charAt_3b067_6 : decode cJ1_charAt_3b067 6 = .ok (.aload_n 0, 1) := by decide +kernel
theorem dJ1_charAt_3b067_7 : decode cJ1_charAt_3b067 7 = .ok (.iload_n 1, 1) := by decide +kernel
theorem dJ1_charAt_3b067_8 : decode cJ1_charAt_3b067 8 = .ok (.baload, 1) := by decide +kernel
theorem dJ1_charAt_3b067_9 : decode cJ1_charAt_3b067 9 = .ok (.sipush 255, 3) := by decide +kernel
theorem dJ1_charAt_3b067_12 : decode cJ1_charAt_3b067 12 = .ok (.iand, 1) := by decide +kernel
theorem dJ1_charAt_3b067_13 : decode cJ1_charAt_3b067 13 = .ok (.i2c, 1) := by decide +kernel
theorem dJ1_charAt_3b067_14 : decode cJ1_charAt_3b067 14 = .ok (.ireturn, 1) := by decide +kernel
theorem dJ3_checkIndex_8e157_0 : decode cJ3_checkIndex_8e157 0 = .ok (.iload_n 0, 1) := by decide +kernel
theorem dJ3_checkIndex_8e157_1 : decode cJ3_checkIndex_8e157 1 = .ok (.ifCond .lt 8, 3) := by decide +kernel
theorem dJ3_checkIndex_8e157_4 : decode cJ3_checkIndex_8e157 4 = .ok (.iload_n 0, 1) := by decide +kernel
theorem dJ3_checkIndex_8e157_5 : decode cJ3_checkIndex_8e157 5 = .ok (.iload_n 1, 1) := by decide +kernel
theorem dJ3_checkIndex_8e157_6 : decode cJ3_checkIndex_8e157 6 = .ok (.if_icmp .lt 10, 3) := by decide +kernel
theorem dJ3_checkIndex_8e157_9 : decode cJ3_checkIndex_8e157 9 = .ok (.aload_n 2, 1) := by decide +kernel
theorem dJ3_checkIndex_8e157_10 : decode cJ3_checkIndex_8e157 10 = .ok (.iload_n 0, 1) := by decide +kernel
theorem dJ3_checkIndex_8e157_11 : decode cJ3_checkIndex_8e157 11 = .ok (.iload_n 1, 1) := by decide +kernel
theorem dJ3_checkIndex_8e157_12 : decode cJ3_checkIndex_8e157 12 = .ok (.invokestatic 95, 3) := by decide +kernel
theorem dJ3_checkIndex_8e157_15 : decode cJ3_checkIndex_8e157 15 = .ok (.athrow, 1) := by decide +kernel
theorem dJ3_checkIndex_8e157_16 : decode cJ3_checkIndex_8e157 16 = .ok (.iload_n 0, 1) := by decide +kernel
theorem dJ3_checkIndex_8e157_17 : decode cJ3_checkIndex_8e157 17 = .ok (.ireturn, 1) := by decide +kernel
section GStr
variable {Γ : gW} {μ : gY} {R : Room} {kn : Nat × Nat} {Z : gZ} {pc q : Nat} {lv : List (Option Value)} {st : List Value} {M : gM} {c : Nat} {q0 : String × Nat × String × List Int32}
theorem g_ldcS {idx : Nat} {tx : String} {bs : List Int32} (hd : decode μ.1 pc = .ok (.ldc idx, 2)) (hq : pc + 2 = q) (hc : gCs[c]? = some (μ.2.1, idx, tx, bs)) (k : G Γ μ R kn Z q lv (.ref (600 + c) :: st) M) : G Γ μ R kn Z pc lv st M := by
  subst hq
  intro p l e s m args below meth c0 H locs A ls F X
  exact va_ldcS F.1 F.2.1 F.2.2.2.2.2.1 (F.2.2.2.2.2.2.2.2.2.2.2.1 c _ hc).1 hd (k p l e s m args below meth c0 H locs A ls F X)
theorem g_sval (hc : gCs[c]? = some q0) (hd : decode μ.1 pc = .ok (.getfield 9, 3)) (hq : pc + 3 = q) (hl : Cond.fieldLink μ.2.1 9 RJ0 "value" "[B" ∈ g_UW) (k : G Γ μ R kn Z q lv (.ref (700 + c) :: st) M) : G Γ μ R kn Z pc lv (.ref (600 + c) :: st) M := by
  subst hq
  intro p l e s m args below meth c0 H locs A ls F X
  exact vk_getf F.1 F.2.1 (F.2.2.2.2.2.2.2.2.2.2.2.1 c _ hc).2.2.2.1 X.2.2.1 F.2.2.2.2.2.1 (F.2.2.2.2.2.2.1 _ hl) (fun x h => h) hd (k p l e s m args below meth c0 H locs A ls F X)
theorem g_scod (hc : gCs[c]? = some q0) (hd : decode μ.1 pc = .ok (.getfield 15, 3)) (hq : pc + 3 = q) (hl : Cond.fieldLink μ.2.1 15 RJ0 "coder" "B" ∈ g_UW) (k : G Γ μ R kn Z q lv (.int 0 :: st) M) : G Γ μ R kn Z pc lv (.ref (600 + c) :: st) M := by
  subst hq
  intro p l e s m args below meth c0 H locs A ls F X
  exact vk_getf F.1 F.2.1 (F.2.2.2.2.2.2.2.2.2.2.2.1 c _ hc).2.2.1 X.2.2.1 F.2.2.2.2.2.1 (F.2.2.2.2.2.2.1 _ hl) (fun x h => h) hd (k p l e s m args below meth c0 H locs A ls F X)
theorem g_slen (hc : gCs[c]? = some q0) (hd : decode μ.1 pc = .ok (.arraylength, 1)) (hq : pc + 1 = q) (k : G Γ μ R kn Z q lv (.int (Int32.ofNat q0.2.2.2.length) :: st) M) : G Γ μ R kn Z pc lv (.ref (700 + c) :: st) M := by
  subst hq
  intro p l e s m args below meth c0 H locs A ls F X
  exact va_tlen F.1 F.2.1 (F.2.2.2.2.2.2.2.2.2.2.2.1 c _ hc).2.2.2.2 X.2.2.1 rfl hd (k p l e s m args below meth c0 H locs A ls F X)
theorem g_sbal {x : Int32} (hc : gCs[c]? = some q0) (hd : decode μ.1 pc = .ok (.baload, 1)) (hq : pc + 1 = q) (h : 0 ≤ x.toInt ∧ x.toInt < q0.2.2.2.length) (k : G Γ μ R kn Z q lv (.int (q0.2.2.2.getD x.toInt.toNat 0) :: st) M) : G Γ μ R kn Z pc lv (.int x :: .ref (700 + c) :: st) M := by
  subst hq
  intro p l e s m args below meth c0 H locs A ls F X
  exact va_tb F.1 F.2.1 (F.2.2.2.2.2.2.2.2.2.2.2.1 c _ hc).2.2.2.2 X.2.2.1 (i_in h) rfl hd (k p l e s m args below meth c0 H locs A ls F X)
theorem g_scmp (hd : decode μ.1 pc = .ok (.getstatic 38, 3)) (hq : pc + 3 = q) (hl : Cond.fieldLink μ.2.1 38 RJ0 "COMPACT_STRINGS" "Z" ∈ g_UW) (k : G Γ μ R kn Z q lv (.int 1 :: st) M) : G Γ μ R kn Z pc lv st M := by
  subst hq
  intro p l e s m args below meth c0 H locs A ls F X
  exact va_gets F.1 F.2.1 F.2.2.2.2.2.2.2.2.2.2.2.2.1.1 X.2.2.1 F.2.2.2.2.2.1 (F.2.2.2.2.2.2.1 _ hl) (fun x h => h) hd (k p l e s m args below meth c0 H locs A ls F X)
theorem g_sfmt (hd : decode μ.1 pc = .ok (.getstatic 1053, 3)) (hq : pc + 3 = q) (hl : Cond.fieldLink μ.2.1 1053 RJ3 "SIOOBE_FORMATTER" "Ljava/util/function/BiFunction;" ∈ g_UW) (k : ∀ v : Value, (v = .null ∨ v = .ref 599) → G Γ μ R kn Z q lv (v :: st) M) : G Γ μ R kn Z pc lv st M := by
  subst hq
  intro p l e s m args below meth c0 H locs A ls F X
  rcases F.2.2.2.2.2.2.2.2.2.2.2.2.1.2 with h | h
  · exact va_gets F.1 F.2.1 h X.2.2.1 F.2.2.2.2.2.1 (F.2.2.2.2.2.2.1 _ hl) (fun x h => h) hd (k .null (Or.inl rfl) p l e s m args below meth c0 H locs A ls F X)
  · exact va_gets F.1 F.2.1 h X.2.2.1 F.2.2.2.2.2.1 (F.2.2.2.2.2.2.1 _ hl) (fun x h => h) hd (k (.ref 599) (Or.inr rfl) p l e s m args below meth c0 H locs A ls F X)
theorem g_i2c {x : Int32} (hd : decode μ.1 pc = .ok (.i2c, 1)) (hq : pc + 1 = q)  (k : G Γ μ R kn Z q lv (.int ((x.toUInt32 % 65536).toInt32) :: st) M) : G Γ μ R kn Z pc lv (.int x :: st) M := by
  subst hq
  exact fun p l e s m args below meth c H locs A ls F X => lv_i2c F.1 F.2.1 hd rfl (k p l e s m args below meth c H locs A ls F X)
theorem g_callVS {idx n d' : Nat} {y : MethodName} {μ' : gY} {As : List Value} {Q : Option Value → gM → Prop} (hd : decode μ.1 pc = .ok (.invokevirtual idx, 3)) (hv : g_VL μ.2.1 idx RJ0 y μ' n) (hn : As.length = n) (hcc : gCs[c]? = some q0)
    (hc : Ct Γ y μ' d' (.ref (600 + c) :: As) M Q) (hR : d' + 2 ≤ R.frames ∧ 90 + 50 * d' ≤ R.locals) (hst : (st.map fun v => v.category).sum ≤ 8)
    (k : ∀ (v : Option Value) (M' : gM), Q v M' → G Γ μ R kn Z (pc + 3) lv (v.toList ++ st) M') : G Γ μ R kn Z pc lv (As.reverse ++ .ref (600 + c) :: st) M := by
  intro p l e s m args below meth c0 H locs A ls F X
  have hcat : ((st.map (g_v Γ.2.2.1)).map fun v => v.category) = st.map fun v => v.category := by
    rw [List.map_map]; exact List.map_congr_left fun v _ => g_cat v
  refine g_after (Q := Q) (a := (Value.ref (Γ.2.2.1 (600 + c)) :: As.map (g_v Γ.2.2.1)).toArray) ?_ F X k
  exact va_runV (As := As.map (g_v Γ.2.2.1)) (rest := st.map (g_v Γ.2.2.1)) ⟨F.1, F.2.1, F.2.2.2.2.1, F.2.2.2.2.2.1, F.2.2.2.2.2.2.1⟩ (hc l H.size) (cwV n F.2.2.2.2.2.2.1 (g_goodV hv.1) rfl rfl rfl hv.2.1 ⟨by show d' + 1 + 1 ≤ _; exact hR.1, by show _ + (40 + 50 * d') ≤ _; have := hv.2.2; have := hR.2; omega⟩)
      ⟨g_blind, va_Orecv (F.2.2.2.2.2.2.2.2.2.2.2.1 c _ hcc).2.1 X.2.2.1, fun U hU hW => ⟨rfl, by rw [hU], by rw [hU]; exact X.1, va_K.moved hW.alike F.2.2.2.2.2.2.2.1, X.2.1.weaken (fun _ _ _ _ => trivial), g_KHc F X hU hW⟩⟩
      rfl (by rw [List.length_map]; exact hn) X.2.2.2.1 (by show List.map _ _ = _; rw [List.map_append, List.map_cons, List.map_reverse]; rfl) (lv_room (by rw [hcat]; exact hst)) hd ⟨F.2.2.2.2.2.2.2.2.2.1, F.2.2.2.2.2.2.2.2.2.2.1⟩
theorem g_callVSi0 {idx d' : Nat} {y : MethodName} {μ' : gY} {P : Int32 → gM → Prop} (hd : decode μ.1 pc = .ok (.invokevirtual idx, 3)) (hq : pc + 3 = q) (hv : g_VL μ.2.1 idx RJ0 y μ' 0) (hcc : gCs[c]? = some q0) (hc : Ct Γ y μ' d' [.ref (600 + c)] M (g_qi P)) (hR : d' + 2 ≤ R.frames ∧ 90 + 50 * d' ≤ R.locals) (hst : (st.map fun v => v.category).sum ≤ 8) (k : ∀ (z : Int32) (M' : gM), P z M' → G Γ μ R kn Z q lv (.int z :: st) M') : G Γ μ R kn Z pc lv (.ref (600 + c) :: st) M := by
  subst hq
  exact g_callVS (As := []) hd hv rfl hcc hc hR hst (fun v M' h => by obtain ⟨z, rfl, h⟩ := h; exact k z M' h)
theorem g_callVSi1 {idx d' : Nat} {y : MethodName} {μ' : gY} {v1 : Value} {P : Int32 → gM → Prop} (hd : decode μ.1 pc = .ok (.invokevirtual idx, 3)) (hq : pc + 3 = q) (hv : g_VL μ.2.1 idx RJ0 y μ' 1) (hcc : gCs[c]? = some q0) (hc : Ct Γ y μ' d' [.ref (600 + c), v1] M (g_qi P)) (hR : d' + 2 ≤ R.frames ∧ 90 + 50 * d' ≤ R.locals) (hst : (st.map fun v => v.category).sum ≤ 8) (k : ∀ (z : Int32) (M' : gM), P z M' → G Γ μ R kn Z q lv (.int z :: st) M') : G Γ μ R kn Z pc lv (v1 :: .ref (600 + c) :: st) M := by
  subst hq
  exact g_callVS (As := [v1]) hd hv rfl hcc hc hR hst (fun v M' h => by obtain ⟨z, rfl, h⟩ := h; exact k z M' h)
end GStr
theorem gCs_ok : ∀ q ∈ gCs, q.2.2.2.length ≤ 6 ∧ ∀ b ∈ q.2.2.2, ((b &&& 255).toUInt32 % 65536).toInt32 = b ∧ narrow .char (.int b) = .int b ∧ (97 ≤ b.toInt ∧ b.toInt ≤ 122) := by decide +kernel
theorem gCs_at {c : Nat} {q0 : String × Nat × String × List Int32} (hc : gCs[c]? = some q0) : q0.2.2.2.length ≤ 6 ∧ ∀ k, k < q0.2.2.2.length → ((q0.2.2.2.getD k 0 &&& 255).toUInt32 % 65536).toInt32 = q0.2.2.2.getD k 0 ∧ narrow .char (.int (q0.2.2.2.getD k 0)) = .int (q0.2.2.2.getD k 0) ∧ (97 ≤ (q0.2.2.2.getD k 0).toInt ∧ (q0.2.2.2.getD k 0).toInt ≤ 122) := by
  have h := gCs_ok q0 (List.mem_of_getElem? hc)
  refine ⟨h.1, fun k hk => ?_⟩
  have e : q0.2.2.2.getD k 0 = q0.2.2.2[k] := by simp [List.getD, hk]
  rw [e]
  exact h.2 _ (List.getElem_mem hk)
theorem j_coder {Γ : gW} {M : gM} {c : Nat} {q0 : String × Nat × String × List Int32} (hc : gCs[c]? = some q0) : Ct Γ yJ0_coder_7d493 μJ0_cod 0 [.ref (600 + c)] M (g_qi (fun z M1 => M1 = M ∧ z = 0)) := by
  refine g_enter rfl rfl rfl (Nat.le_of_ble_eq_true rfl) ?_
  show G Γ _ _ _ _ 0 [some (.ref (600 + c))] [] M
  refine g_scmp dJ0_coder_7d493_0 rfl js_38 ?_
  refine g_if_eq dJ0_coder_7d493_3 rfl rfl (fun h => absurd h (by decide)) (fun _ => ?_)
  refine g_aload_n0 dJ0_coder_7d493_6 rfl ?_
  refine g_scod hc dJ0_coder_7d493_7 rfl js_15 ?_
  refine g_goto dJ0_coder_7d493_10 rfl ?_
  exact g_zret dJ0_coder_7d493_14 rfl rfl ⟨0, rfl, rfl, rfl⟩
theorem j_isLatin1 {Γ : gW} {M : gM} {c : Nat} {q0 : String × Nat × String × List Int32} (hc : gCs[c]? = some q0) : Ct Γ yJ0_isLatin1_aae02 μJ0_lat 0 [.ref (600 + c)] M (g_qi (fun z M1 => M1 = M ∧ z = 1)) := by
  refine g_enter rfl rfl rfl (Nat.le_of_ble_eq_true rfl) ?_
  show G Γ _ _ _ _ 0 [some (.ref (600 + c))] [] M
  refine g_scmp dJ0_isLatin1_aae02_0 rfl js_38 ?_
  refine g_if_eq dJ0_isLatin1_aae02_3 rfl rfl (fun h => absurd h (by decide)) (fun _ => ?_)
  refine g_aload_n0 dJ0_isLatin1_aae02_6 rfl ?_
  refine g_scod hc dJ0_isLatin1_aae02_7 rfl js_15 ?_
  refine g_if_ne dJ0_isLatin1_aae02_10 rfl rfl (fun h => absurd rfl h) (fun _ => ?_)
  refine g_iconst dJ0_isLatin1_aae02_13 rfl (v := 1) rfl ?_
  refine g_goto dJ0_isLatin1_aae02_14 rfl ?_
  exact g_zret dJ0_isLatin1_aae02_18 rfl rfl ⟨1, rfl, rfl, rfl⟩
theorem j_length {Γ : gW} {M : gM} {c : Nat} {q0 : String × Nat × String × List Int32} (hc : gCs[c]? = some q0) : Ct Γ yJ0_length_8abf5 μJ0_len 1 [.ref (600 + c)] M (g_qi (fun z M1 => M1 = M ∧ z.toInt = q0.2.2.2.length)) := by
  have h6 := (gCs_at hc).1
  refine g_enter rfl rfl rfl (Nat.le_of_ble_eq_true rfl) ?_
  show G Γ _ _ _ _ 0 [some (.ref (600 + c))] [] M
  refine g_aload_n0 dJ0_length_8abf5_0 rfl ?_
  refine g_sval hc dJ0_length_8abf5_1 rfl js_9 ?_
  refine g_slen hc dJ0_length_8abf5_4 rfl ?_
  refine g_aload_n0 dJ0_length_8abf5_5 rfl ?_
  refine g_callVSi0 dJ0_length_8abf5_6 rfl jv_335 hc (j_coder hc) (by decide) (Nat.le_of_ble_eq_true rfl) (fun z M1 h => ?_)
  obtain ⟨rfl, rfl⟩ := h
  refine g_ishr dJ0_length_8abf5_9 rfl ?_
  refine g_iret dJ0_length_8abf5_10 rfl ⟨_, rfl, rfl, ?_⟩
  rcases (show q0.2.2.2.length = 0 ∨ q0.2.2.2.length = 1 ∨ q0.2.2.2.length = 2 ∨ q0.2.2.2.length = 3 ∨ q0.2.2.2.length = 4 ∨ q0.2.2.2.length = 5 ∨ q0.2.2.2.length = 6 by omega) with h | h | h | h | h | h | h <;> rw [h] <;> decide
theorem j_check3 {Γ : gW} {M : gM} {i n : Int32} {v : Value} (hv : v = .null ∨ v = .ref 599) (h : 0 ≤ i.toInt ∧ i.toInt < n.toInt) : Ct Γ yJ3_checkIndex_8e157 μJ3_chk 0 [.int i, .int n, v] M (g_qi (fun _ M1 => M1 = M)) := by
  refine g_enter rfl rfl (by rcases hv with rfl | rfl <;> rfl) (Nat.le_of_ble_eq_true rfl) ?_
  show G Γ _ _ _ _ 0 [some (.int i), some (.int n), some v] [] M
  refine g_iload_n0 dJ3_checkIndex_8e157_0 rfl ?_
  refine g_if_ltI dJ3_checkIndex_8e157_1 rfl rfl (fun q => by omega) (fun _ => ?_)
  refine g_iload_n0 dJ3_checkIndex_8e157_4 rfl ?_
  refine g_iload_n1 dJ3_checkIndex_8e157_5 rfl ?_
  refine g_icmp_ltI dJ3_checkIndex_8e157_6 rfl rfl (fun _ => ?_) (fun q => by omega)
  refine g_iload_n0 dJ3_checkIndex_8e157_16 rfl ?_
  exact g_iret dJ3_checkIndex_8e157_17 rfl ⟨_, rfl, rfl⟩
theorem j_check {Γ : gW} {M : gM} {i n : Int32} (h : 0 ≤ i.toInt ∧ i.toInt < n.toInt) : Ct Γ yJ0_checkIndex_df160 μJ0_chk 1 [.int i, .int n] M (g_qv (fun M1 => M1 = M)) := by
  refine g_enter rfl rfl rfl (Nat.le_of_ble_eq_true rfl) ?_
  show G Γ _ _ _ _ 0 [some (.int i), some (.int n)] [] M
  refine g_iload_n0 dJ0_checkIndex_df160_0 rfl ?_
  refine g_iload_n1 dJ0_checkIndex_df160_1 rfl ?_
  refine g_sfmt dJ0_checkIndex_df160_2 rfl js_1053 (fun v hv => ?_)
  refine g_callJ (As := [.int i, .int n, v]) (st := []) dJ0_checkIndex_df160_5 jk_1059 rfl (j_check3 hv h) (by decide) (Nat.le_of_ble_eq_true rfl) (fun v M1 h => ?_)
  obtain ⟨z, rfl, rfl⟩ := h
  show G Γ _ _ _ _ 8 _ [.int z] M1
  refine g_pop dJ0_checkIndex_df160_8 rfl rfl ?_
  exact g_vret dJ0_checkIndex_df160_9 rfl ⟨rfl, rfl⟩
theorem j_charAt1 {Γ : gW} {M : gM} {c : Nat} {q0 : String × Nat × String × List Int32} {k : Int32} (hc : gCs[c]? = some q0) (hk : 0 ≤ k.toInt ∧ k.toInt < q0.2.2.2.length) : Ct Γ yJ1_charAt_3b067 μJ1_cat 2 [.ref (700 + c), .int k] M (g_qi (fun z M1 => M1 = M ∧ z = q0.2.2.2.getD k.toInt.toNat 0)) := by
  obtain ⟨h6, hb⟩ := gCs_at hc
  obtain ⟨b1, b2, -⟩ := hb k.toInt.toNat (by omega)
  have hl : (Int32.ofNat q0.2.2.2.length).toInt = q0.2.2.2.length := by
    rcases (show q0.2.2.2.length = 0 ∨ q0.2.2.2.length = 1 ∨ q0.2.2.2.length = 2 ∨ q0.2.2.2.length = 3 ∨ q0.2.2.2.length = 4 ∨ q0.2.2.2.length = 5 ∨ q0.2.2.2.length = 6 by omega) with h | h | h | h | h | h | h <;> rw [h] <;> decide
  refine g_enter rfl rfl rfl (Nat.le_of_ble_eq_true rfl) ?_
  show G Γ _ _ _ _ 0 [some (.ref (700 + c)), some (.int k)] [] M
  refine g_iload_n1 dJ1_charAt_3b067_0 rfl ?_
  refine g_aload_n0 dJ1_charAt_3b067_1 rfl ?_
  refine g_slen hc dJ1_charAt_3b067_2 rfl ?_
  refine g_callJv2 dJ1_charAt_3b067_3 rfl jk_9 (j_check ⟨hk.1, by rw [hl]; exact hk.2⟩) (by decide) (Nat.le_of_ble_eq_true rfl) (fun M1 h => ?_)
  subst h
  refine g_aload_n0 dJ1_charAt_3b067_6 rfl ?_
  refine g_iload_n1 dJ1_charAt_3b067_7 rfl ?_
  refine g_sbal hc dJ1_charAt_3b067_8 rfl hk ?_
  refine g_sipush dJ1_charAt_3b067_9 rfl (v := 255) rfl ?_
  refine g_iand dJ1_charAt_3b067_12 rfl ?_
  refine g_i2c dJ1_charAt_3b067_13 rfl ?_
  rw [b1]
  exact g_zret dJ1_charAt_3b067_14 rfl b2 ⟨_, rfl, rfl, rfl⟩
theorem j_charAt {Γ : gW} {M : gM} {c : Nat} {q0 : String × Nat × String × List Int32} {k : Int32} (hc : gCs[c]? = some q0) (hk : 0 ≤ k.toInt ∧ k.toInt < q0.2.2.2.length) : Ct Γ yJ0_charAt_5068e μJ0_cat 3 [.ref (600 + c), .int k] M (g_qi (fun z M1 => M1 = M ∧ z = q0.2.2.2.getD k.toInt.toNat 0)) := by
  obtain ⟨h6, hb⟩ := gCs_at hc
  obtain ⟨b1, b2, -⟩ := hb k.toInt.toNat (by omega)
  refine g_enter rfl rfl rfl (Nat.le_of_ble_eq_true rfl) ?_
  show G Γ _ _ _ _ 0 [some (.ref (600 + c)), some (.int k)] [] M
  refine g_aload_n0 dJ0_charAt_5068e_0 rfl ?_
  refine g_callVSi0 dJ0_charAt_5068e_1 rfl jv_492 hc (j_isLatin1 hc) (by decide) (Nat.le_of_ble_eq_true rfl) (fun z M1 h => ?_)
  obtain ⟨rfl, rfl⟩ := h
  refine g_if_eq dJ0_charAt_5068e_4 rfl rfl (fun h => absurd h (by decide)) (fun _ => ?_)
  refine g_aload_n0 dJ0_charAt_5068e_7 rfl ?_
  refine g_sval hc dJ0_charAt_5068e_8 rfl js_9 ?_
  refine g_iload_n1 dJ0_charAt_5068e_11 rfl ?_
  refine g_callJ (As := [.ref (700 + c), .int k]) (st := []) dJ0_charAt_5068e_12 jk_495 rfl (j_charAt1 hc hk) (by decide) (Nat.le_of_ble_eq_true rfl) (fun v M1 h => ?_)
  obtain ⟨z, rfl, rfl, rfl⟩ := h
  show G Γ _ _ _ _ 15 _ [.int _] _
  exact g_zret dJ0_charAt_5068e_15 rfl b2 ⟨_, rfl, rfl, rfl⟩
