/-! the law's start -/
theorem il_L_67 : g_IL RL 67 yX5_init μX5_init := ⟨g_uwR [114, 90, 112, 113] (by decide +kernel) (by decide +kernel), rfl, by decide +kernel, by decide, rfl⟩
theorem il_L_70 : g_IL RL 70 yX6_init μX6_init := ⟨g_uwR [1079, 95, 1077, 1078] (by decide +kernel) (by decide +kernel), rfl, by decide +kernel, by decide, rfl⟩
def M00 : gM := (fun a _ => if a = 400 then -1 else 0, fun _ _ => 0)
theorem M00_z {Ns : List Nat} (h : Ns.contains 400 = false) : gZ0 Ns M00 := fun j hj => ⟨fun k => if_neg (fun e => by subst e; rw [List.contains_iff_mem.mpr hj] at h; cases h), fun k => rfl⟩
theorem zL_n {b L : Nat} {xs : Nat → Int32} (b' : List Frame) (a : Array Value) (s : State) (A : Nat → Prop) (t : State) (h : ¬ PXN s) : g_ZL b L xs b' a s A t := fun hx => absurd hx.2.1.1 h
theorem n_callP {Γ0 Γ : gW} {L L' L2 : List (Nat × gSh)} {μ : gY} {R : Room} {kn kn' : Nat × Nat} {Z : gZ} {pc q : Nat} {lv : List (Option Value)} {st : List Value} {M M2 : gM} (hD : gD Γ0 Γ L) (hZ : ∀ b a s A t, ¬ PXN s → Z b a s A t) {idx d' i mc ms : Nat} {y : MethodName} {μ' : gY} (hd : decode μ.1 pc = .ok (.invokespecial idx, 3)) (hq : pc + 3 = q) (hv : g_IL μ.2.1 idx y μ') (hc : CtN PXN Γ y μ' d' mc ms [.ref i] M (fun Γ' M' => gD Γ Γ' L2 ∧ (gCl Γ' M' ∧ M' = M2))) (hL5 : L2.all (fun x => decide (x.1 < 599)) = true) (hi : i ∈ Γ.2.2.2.1) (hv2 : g_nrs (L2.map Prod.fst) lv st = true) (hR : d' + 9 ≤ R.frames ∧ 200 + 50 * d' ≤ R.locals) (hk : kn.1 + mc ≤ R.cells ∧ kn.2 + ms ≤ R.slots) (hkn : kn' = (kn.1 + mc, kn.2 + ms)) (hst : ((Value.ref i :: st).map fun v => v.category).sum ≤ 8) (hL : L' = L2 ++ L.filter (fun x => !((L2.map Prod.fst).contains x.1))) (k : ∀ Γ', gCl Γ' M2 → gD Γ0 Γ' L' → G Γ' μ R kn' Z q lv (.ref i :: st) M2) : G Γ μ R kn Z pc lv (.ref i :: .ref i :: st) M := by
  subst hkn
  simp only [g_nrs, Bool.and_eq_true] at hv2
  have nr : ∀ v, g_nr (L2.map Prod.fst) v = true → g_rf Γ L2 v := fun v hv => by
    cases v with
    | ref a =>
      refine Or.inr ?_
      simpa [g_nr] using hv
    | _ => trivial
  refine g_callIP (fun _ _ => PXN.w) (fun _ _ => PXN.b) hZ hd hq hv hc (fun x hx => by simpa using List.all_eq_true.mp hL5 x hx) (fun j v hj => nr v (by simpa using List.all_eq_true.mp hv2.1 _ (List.mem_of_getElem? hj))) (fun v hm => ?_) hR hk hst (fun Γ' M' g1 g2 => ?_)
  · rcases List.mem_cons.mp hm with e | e
    · rw [e]; exact Or.inl hi
    · exact nr v (List.all_eq_true.mp hv2.2 v e)
  · obtain ⟨g2, rfl⟩ := g2
    exact k Γ' g2 (hD.tr g1 hL)
def M01 : gM := g_u M00 0 11 (-1)
def M02 : gM := (rowI (g_u (g_u (g_u (g_u (g_u (g_u (g_u M01 400 0 615) 400 1 616) 400 2 617) 400 3 618) 400 4 619) 300 23 (-1)) 300 32 (-1)) 407 begRow 30)
theorem law_start {b L : Nat} {xs : Nat → Int32} {Γ : gW} (hl : Γ.2.2.2.1 = []) (hb : Γ.2.2.1 598 = b) (kk : ∀ (Γ' : gW), gE Γ Γ' → gCl Γ' M02 → gD Γ Γ' ([(500, .inr (2, 1))] ++ lRf ++ lHg) → G Γ' μL_law room_1 (100, 51387) (g_ZL b L xs) 20 [some (.ref 598), some (.ref 0), some (.ref 300), some (.ref 500), none, none, none] [] M02) : G Γ μL_law room_1 (0, 0) (g_ZL b L xs) 0 [some (.ref 598), none, none, none, none, none, none] [] M00 := by
  have hN : gN0 [0, 1, 2, 3, 100, 101, 102, 103, 104, 105, 106, 107, 108, 109, 110, 120, 121, 122, 123, 124, 125, 126, 127, 128, 129, 130, 140, 141, 142, 143, 144, 145, 146, 147, 148, 149, 150, 160, 161, 162, 163, 164, 165, 166, 167, 168, 169, 170, 180, 181, 182, 183, 184, 185, 186, 187, 188, 189, 190, 200, 201, 202, 203, 204, 205, 206, 207, 208, 209, 210, 220, 221, 222, 223, 230, 231, 240, 241, 250, 251, 252, 253, 300, 400, 402, 403, 404, 405, 406, 407, 408, 409, 410, 411, 413, 425, 426, 427, 428, 429, 430, 431, 438, 439, 440, 441, 442, 443, 446, 447, 451, 452, 453, 454, 500] Γ := fun j _ => by rw [hl]; exact List.not_mem_nil
  have hz : gZ0 [0, 1, 2, 3, 100, 101, 102, 103, 104, 105, 106, 107, 108, 109, 110, 120, 121, 122, 123, 124, 125, 126, 127, 128, 129, 130, 140, 141, 142, 143, 144, 145, 146, 147, 148, 149, 150, 160, 161, 162, 163, 164, 165, 166, 167, 168, 169, 170, 180, 181, 182, 183, 184, 185, 186, 187, 188, 189, 190, 200, 201, 202, 203, 204, 205, 206, 207, 208, 209, 210, 220, 221, 222, 223, 230, 231, 240, 241, 250, 251, 252, 253, 300, 402, 403, 404, 405, 406, 407, 408, 409, 410, 411, 413, 425, 426, 427, 428, 429, 430, 431, 438, 439, 440, 441, 442, 443, 446, 447, 451, 452, 453, 454, 500] M00 := M00_z (by decide +kernel)
  have hC : gCl Γ M00 := ⟨(fun j hj => by rw [hl] at hj; cases hj), fun k => Or.inl (by show (if (400 : Nat) = 400 then (-1 : Int32) else 0).toInt < 0; decide)⟩
  have hD : gD Γ Γ [] := gD.rf
  refine n_new hD (i := 0) (ci := 5) (t := nulX5) (kn' := (1, 18)) (hN.at 0 rfl) rfl dL_law_0 rfl rfl uwX5 tyX5_ok nw_L_8 nfX5 nrX5 (Nat.le_of_ble_eq_true rfl) hC (hz.at 0 rfl) rfl ⟨by decide, by decide⟩ rfl (fun Γ1 hC hD => ?_)
  refine g_dup dL_law_3 rfl rfl ?_
  refine n_callP (L' := lHg) (kn' := (67, 6384)) (M2 := M01) hD zL_n dL_law_4 rfl il_L_67 (k_Hg (d := 2) (by omega) (hD.o 0 rfl) (hN.gr hD (by decide +kernel)) hC (hz.sub (by decide +kernel))) (by decide +kernel) (hD.o 0 rfl).1 rfl ⟨by decide, by decide⟩ ⟨by decide, by decide⟩ rfl (Nat.le_of_ble_eq_true rfl) (by decide +kernel) (fun Γ2 hC hD => ?_)
  refine g_astore_n1 dL_law_7 rfl rfl ?_
  have hz : gZ0 [1, 2, 3, 100, 101, 102, 103, 104, 105, 106, 107, 108, 109, 110, 120, 121, 122, 123, 124, 125, 126, 127, 128, 129, 130, 140, 141, 142, 143, 144, 145, 146, 147, 148, 149, 150, 160, 161, 162, 163, 164, 165, 166, 167, 168, 169, 170, 180, 181, 182, 183, 184, 185, 186, 187, 188, 189, 190, 200, 201, 202, 203, 204, 205, 206, 207, 208, 209, 210, 220, 221, 222, 223, 230, 231, 240, 241, 250, 251, 252, 253, 300, 402, 403, 404, 405, 406, 407, 408, 409, 410, 411, 413, 425, 426, 427, 428, 429, 430, 431, 438, 439, 440, 441, 442, 443, 446, 447, 451, 452, 453, 454, 500] M01 := (hz.sub (by decide +kernel)).u (by decide +kernel)
  refine n_new hD (i := 300) (ci := 6) (t := nulX6) (kn' := (68, 6439)) (hN.at 300 rfl) (by decide +kernel) dL_law_8 rfl rfl uwX6 tyX6_ok nw_L_68 nfX6 nrX6 (Nat.le_of_ble_eq_true rfl) hC (hz.at 300 rfl) rfl ⟨by decide, by decide⟩ rfl (fun Γ3 hC hD => ?_)
  refine g_dup dL_law_11 rfl rfl ?_
  refine n_callP (L' := lRf ++ lHg) (kn' := (99, 51386)) (M2 := M02) hD zL_n dL_law_12 rfl il_L_70 (k_Rf (d := 1) (by omega) (hD.o 0 rfl) (hN.gr hD (by decide +kernel)) hC (hz.sub (by decide +kernel)) (fun k => by show (if (400 : Nat) = 400 then (-1 : Int32) else 0).toInt < 0; decide)) (by decide +kernel) (hD.o 0 rfl).1 rfl ⟨by decide, by decide⟩ ⟨by decide, by decide⟩ rfl (Nat.le_of_ble_eq_true rfl) (by decide +kernel) (fun Γ4 hC hD => ?_)
  refine g_astore_n2 dL_law_15 rfl rfl ?_
  refine g_iconst (v := 1) dL_law_16 rfl rfl ?_
  refine n_newa2 hD (i := 500) (n := 1) (kn' := (100, 51387)) (hN.at 500 rfl) (by decide +kernel) dL_law_17 rfl w_al rfl (Nat.le_of_ble_eq_true rfl) (Nat.le_of_ble_eq_true rfl) hC (fun k => rfl) rfl ⟨by decide, by decide⟩ rfl (fun Γ5 hC hD => ?_)
  refine g_astore_n3 dL_law_19 rfl rfl ?_
  exact kk Γ5 (hD.e (by decide +kernel)) hC hD
