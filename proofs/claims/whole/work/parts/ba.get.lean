/-! get -/
def lGet : List (Nat × gSh) := (0, .inl (5, [some (some 100), some (some 120), some (some 220), none, none, none, some (some 140), some (some 222), none, none, some (some 230), none, some (some 240), some (some 1), none, some (some 250), some (some 2), some (some 3)])) :: lGt
theorem tw_get100 {Γ Γ' : gW} (hD : gD Γ Γ' lGet) (h : g_Town Γ 100) : g_Town Γ' 100 := ⟨hD.old h.1 rfl, hD.old h.2.1 rfl, hD.old h.2.2.1 rfl, hD.old h.2.2.2.1 rfl, hD.old h.2.2.2.2.1 rfl, hD.old h.2.2.2.2.2.1 rfl, hD.old h.2.2.2.2.2.2.1 rfl, hD.old h.2.2.2.2.2.2.2.1 rfl, hD.old h.2.2.2.2.2.2.2.2.1 rfl, hD.old h.2.2.2.2.2.2.2.2.2.1 rfl, hD.old h.2.2.2.2.2.2.2.2.2.2 rfl⟩
theorem tw_get120 {Γ Γ' : gW} (hD : gD Γ Γ' lGet) (h : g_Town Γ 120) : g_Town Γ' 120 := ⟨hD.old h.1 rfl, hD.old h.2.1 rfl, hD.old h.2.2.1 rfl, hD.old h.2.2.2.1 rfl, hD.old h.2.2.2.2.1 rfl, hD.old h.2.2.2.2.2.1 rfl, hD.old h.2.2.2.2.2.2.1 rfl, hD.old h.2.2.2.2.2.2.2.1 rfl, hD.old h.2.2.2.2.2.2.2.2.1 rfl, hD.old h.2.2.2.2.2.2.2.2.2.1 rfl, hD.old h.2.2.2.2.2.2.2.2.2.2 rfl⟩
theorem tw_get140 {Γ Γ' : gW} (hD : gD Γ Γ' lGet) (h : g_Town Γ 140) : g_Town Γ' 140 := ⟨hD.old h.1 rfl, hD.old h.2.1 rfl, hD.old h.2.2.1 rfl, hD.old h.2.2.2.1 rfl, hD.old h.2.2.2.2.1 rfl, hD.old h.2.2.2.2.2.1 rfl, hD.old h.2.2.2.2.2.2.1 rfl, hD.old h.2.2.2.2.2.2.2.1 rfl, hD.old h.2.2.2.2.2.2.2.2.1 rfl, hD.old h.2.2.2.2.2.2.2.2.2.1 rfl, hD.old h.2.2.2.2.2.2.2.2.2.2 rfl⟩
theorem tw_get160 {Γ Γ' : gW} (hD : gD Γ Γ' lGet) (h : g_Town Γ 160) : g_Town Γ' 160 := ⟨hD.old h.1 rfl, hD.old h.2.1 rfl, hD.old h.2.2.1 rfl, hD.old h.2.2.2.1 rfl, hD.old h.2.2.2.2.1 rfl, hD.old h.2.2.2.2.2.1 rfl, hD.old h.2.2.2.2.2.2.1 rfl, hD.old h.2.2.2.2.2.2.2.1 rfl, hD.old h.2.2.2.2.2.2.2.2.1 rfl, hD.old h.2.2.2.2.2.2.2.2.2.1 rfl, hD.old h.2.2.2.2.2.2.2.2.2.2 rfl⟩
theorem tw_get180 {Γ Γ' : gW} (hD : gD Γ Γ' lGet) (h : g_Town Γ 180) : g_Town Γ' 180 := ⟨hD.old h.1 rfl, hD.old h.2.1 rfl, hD.old h.2.2.1 rfl, hD.old h.2.2.2.1 rfl, hD.old h.2.2.2.2.1 rfl, hD.old h.2.2.2.2.2.1 rfl, hD.old h.2.2.2.2.2.2.1 rfl, hD.old h.2.2.2.2.2.2.2.1 rfl, hD.old h.2.2.2.2.2.2.2.2.1 rfl, hD.old h.2.2.2.2.2.2.2.2.2.1 rfl, hD.old h.2.2.2.2.2.2.2.2.2.2 rfl⟩
theorem bk_get220 {Γ Γ' : gW} (hD : gD Γ Γ' lGet) (h : g_Book Γ 220) : g_Book Γ' 220 := ⟨hD.old h.1 rfl, hD.old h.2 rfl⟩
theorem bk_get222 {Γ Γ' : gW} (hD : gD Γ Γ' lGet) (h : g_Book Γ 222) : g_Book Γ' 222 := ⟨hD.old h.1 rfl, hD.old h.2 rfl⟩
theorem rf_get {Γ Γ' : gW} (hD : gD Γ Γ' lGet) (h : g_Ref Γ) : g_Ref Γ' := ⟨hD.old h.1 rfl, hD.old h.2.1 rfl, hD.old h.2.2.1 rfl, hD.old h.2.2.2.1 rfl, hD.old h.2.2.2.2.1 rfl, hD.old h.2.2.2.2.2.1 rfl, hD.old h.2.2.2.2.2.2.1 rfl, hD.old h.2.2.2.2.2.2.2.1 rfl, hD.old h.2.2.2.2.2.2.2.2.1 rfl, hD.old h.2.2.2.2.2.2.2.2.2.1 rfl, hD.old h.2.2.2.2.2.2.2.2.2.2.1 rfl, hD.old h.2.2.2.2.2.2.2.2.2.2.2.1 rfl, hD.old h.2.2.2.2.2.2.2.2.2.2.2.2.1 rfl, hD.old h.2.2.2.2.2.2.2.2.2.2.2.2.2.1 rfl, hD.old h.2.2.2.2.2.2.2.2.2.2.2.2.2.2.1 rfl, hD.old h.2.2.2.2.2.2.2.2.2.2.2.2.2.2.2.1 rfl, hD.old h.2.2.2.2.2.2.2.2.2.2.2.2.2.2.2.2.1 rfl, hD.old h.2.2.2.2.2.2.2.2.2.2.2.2.2.2.2.2.2.1 rfl, hD.old h.2.2.2.2.2.2.2.2.2.2.2.2.2.2.2.2.2.2.1 rfl, hD.old h.2.2.2.2.2.2.2.2.2.2.2.2.2.2.2.2.2.2.2.1 rfl, hD.old h.2.2.2.2.2.2.2.2.2.2.2.2.2.2.2.2.2.2.2.2.1 rfl, hD.old h.2.2.2.2.2.2.2.2.2.2.2.2.2.2.2.2.2.2.2.2.2.1 rfl, hD.old h.2.2.2.2.2.2.2.2.2.2.2.2.2.2.2.2.2.2.2.2.2.2.1 rfl, hD.old h.2.2.2.2.2.2.2.2.2.2.2.2.2.2.2.2.2.2.2.2.2.2.2.1 rfl, hD.old h.2.2.2.2.2.2.2.2.2.2.2.2.2.2.2.2.2.2.2.2.2.2.2.2.1 rfl, hD.old h.2.2.2.2.2.2.2.2.2.2.2.2.2.2.2.2.2.2.2.2.2.2.2.2.2.1 rfl, hD.old h.2.2.2.2.2.2.2.2.2.2.2.2.2.2.2.2.2.2.2.2.2.2.2.2.2.2.1 rfl, hD.old h.2.2.2.2.2.2.2.2.2.2.2.2.2.2.2.2.2.2.2.2.2.2.2.2.2.2.2.1 rfl, hD.old h.2.2.2.2.2.2.2.2.2.2.2.2.2.2.2.2.2.2.2.2.2.2.2.2.2.2.2.2.1 rfl, hD.old h.2.2.2.2.2.2.2.2.2.2.2.2.2.2.2.2.2.2.2.2.2.2.2.2.2.2.2.2.2.1 rfl, hD.old h.2.2.2.2.2.2.2.2.2.2.2.2.2.2.2.2.2.2.2.2.2.2.2.2.2.2.2.2.2.2 rfl⟩
theorem hg_get {Γ Γ' : gW} (hD : gD Γ Γ' lGet) (h : g_HG Γ none) : g_HG Γ' (some 250) := by
  obtain ⟨h0, h1, h2, h3, h4, h5, h6, h7, h8, h9, h10, -⟩ := h
  refine ⟨hD.o 0 rfl, tw_get100 hD h1, tw_get120 hD h2, tw_get140 hD h3, bk_get220 hD h4, bk_get222 hD h5, ⟨hD.old h6.1 rfl, hD.old h6.2.1 rfl, tw_get160 hD h6.2.2⟩, ⟨hD.old h7.1 rfl, hD.old h7.2.1 rfl, tw_get180 hD h7.2.2⟩, hD.old h8 rfl, hD.old h9 rfl, hD.old h10 rfl, Or.inr ⟨rfl, ⟨hD.o 14 rfl, hD.o 15 rfl, hD.o 13 rfl, hD.o 12 rfl, ⟨hD.o 10 rfl, hD.o 11 rfl, hD.o 9 rfl, hD.o 8 rfl, hD.o 7 rfl, hD.o 6 rfl, hD.o 5 rfl, hD.o 4 rfl, hD.o 3 rfl, hD.o 2 rfl, hD.o 1 rfl⟩⟩⟩⟩
theorem x_get1 {Γ : gW} {M : gM} (hA : g_HG Γ (some 250)) {T : gTw} (hT : tv M 100 = T) (hB : TB M 100) (hI : INV T) {a b : Int32} : CtX Γ yX5_get μX5_get 8 [.ref 0, .int a, .int b] M (g_qi (fun z M1 => ((0 ≤ a.toInt ∧ a.toInt < T 0 0) ∧ 0 ≤ b.toInt ∧ b.toInt < T 0 1) ∧ frZ M M1 ∧ z.toInt = getZ T a.toInt.toNat b.toInt.toNat)) (nseX M (¬ ((0 ≤ a.toInt ∧ a.toInt < T 0 0) ∧ 0 ≤ b.toInt ∧ b.toInt < T 0 1))) := by
  have hO : TOK T := by rw [← hT]; exact TOK.of hB
  have hb0 := hO.1
  have hb1 := hO.2.1
  have t00 : (M.1 100 0).toInt = T 0 0 := by rw [← hT]; exact (tv0 (by decide)).symm
  have t01 : (M.1 100 1).toInt = T 0 1 := by rw [← hT]; exact (tv0 (by decide)).symm
  have hG : g_Get Γ := by
    rcases hA.2.2.2.2.2.2.2.2.2.2.2 with e | e
    · cases e
    · exact e.2
  refine g_enterX (by decide +kernel) rfl rfl (Nat.le_of_ble_eq_true rfl) ?_
  show G _ _ _ _ _ _ [some (.ref 0), some (.int a), some (.int b)] _ _
  refine g_aload_n0 dX5_get_0 rfl ?_
  refine g_iload_n1 dX5_get_1 rfl ?_
  refine g_callXv1 dX5_get_2 rfl vX5_132 hA.1 rfl (x_reqP hA t00) (g_rmY (by omega)) (Nat.le_of_ble_eq_true rfl) (fun E M1 h => ⟨h.1, h.2.1, by have := h.2.2; omega⟩) (fun M2 e2 => ?_)
  obtain ⟨hM2, q2⟩ := e2
  subst M2
  refine g_aload_n0 dX5_get_5 rfl ?_
  refine g_iload_n2 dX5_get_6 rfl ?_
  refine g_callXv1 dX5_get_7 rfl vX5_156 hA.1 rfl (x_reqT hA t01) (g_rmY (by omega)) (Nat.le_of_ble_eq_true rfl) (fun E M1 h => ⟨h.1, h.2.1, by have := h.2.2; omega⟩) (fun M7 e7 => ?_)
  obtain ⟨hM7, q7⟩ := e7
  subst M7
  refine g_aload_n0 dX5_get_10 rfl ?_
  refine g_getr (j := 250) dX5_get_11 rfl fX5_73 hA.1 rfl ?_
  refine g_nonnull (q := 28) dX5_get_14 rfl ?_
  refine g_aload_n0 dX5_get_28 rfl ?_
  refine g_getr (j := 250) dX5_get_29 rfl fX5_73 hA.1 rfl ?_
  refine g_aload_n0 dX5_get_32 rfl ?_
  refine g_getr (j := 100) dX5_get_33 rfl fX5_10 hA.1 rfl ?_
  refine g_iload_n1 dX5_get_36 rfl ?_
  refine g_iload_n2 dX5_get_37 rfl ?_
  refine g_callVi3 dX5_get_38 rfl vX5_247 hG.1 rfl (c_fewestGifts hG hI (who := a.toInt.toNat) (thing := b.toInt.toNat) (by omega) (by omega) (by omega) (by omega) hA.2.1 (Or.inr (by decide)) hT hB.2.2.2) (g_rmX (by omega)) (Nat.le_of_ble_eq_true rfl) (fun z M3 e3 => ?_)
  exact g_toX (g_iret dX5_get_41 rfl ⟨_, rfl, ⟨q2, q7⟩, e3.2, e3.1⟩)
theorem x_get0 {Γ : gW} {M : gM} (hA : g_HG Γ none) {T : gTw} (hT : tv M 100 = T) (hB : TB M 100) (hI : INV T) (hC : gCl Γ M) (hN : gN0 [200, 201, 202, 203, 204, 205, 206, 207, 208, 209, 210, 250, 251, 252, 253] Γ) (hz : gZ0 [200, 201, 202, 203, 204, 205, 206, 207, 208, 209, 210, 250, 251, 252, 253] M) {a b : Int32} : CtY Γ yX5_get μX5_get 8 15 8264 [.ref 0, .int a, .int b] M (fun Γ' v M1 => gD Γ Γ' lGet ∧ gCl Γ' M1 ∧ ∃ z : Int32, v = some (.int z) ∧ ((0 ≤ a.toInt ∧ a.toInt < T 0 0) ∧ 0 ≤ b.toInt ∧ b.toInt < T 0 1) ∧ frZ M M1 ∧ z.toInt = getZ T a.toInt.toNat b.toInt.toNat) (nseX M (¬ ((0 ≤ a.toInt ∧ a.toInt < T 0 0) ∧ 0 ≤ b.toInt ∧ b.toInt < T 0 1))) := by
  have hO : TOK T := by rw [← hT]; exact TOK.of hB
  have hb0 := hO.1
  have hb1 := hO.2.1
  have t00 : (M.1 100 0).toInt = T 0 0 := by rw [← hT]; exact (tv0 (by decide)).symm
  have t01 : (M.1 100 1).toInt = T 0 1 := by rw [← hT]; exact (tv0 (by decide)).symm
  refine g_enterY (by decide +kernel) rfl rfl (Nat.le_of_ble_eq_true rfl) ?_
  show G _ _ _ _ _ _ [some (.ref 0), some (.int a), some (.int b)] _ _
  refine g_aload_n0 dX5_get_0 rfl ?_
  refine g_iload_n1 dX5_get_1 rfl ?_
  refine g_callYX (As := [.int a]) dX5_get_2 vX5_132 rfl hA.1 rfl (x_reqP hA t00) ⟨by decide, by decide, by decide, by decide⟩ (Nat.le_of_ble_eq_true rfl) ⟨by decide, by decide⟩ (fun E M1 h => ⟨h.1, h.2.1, by have := h.2.2; omega⟩) (fun v M2 e2 => ?_)
  obtain ⟨rfl, hM2, q2⟩ := e2
  subst M2
  show G _ _ _ _ _ 5 _ [] _
  refine g_aload_n0 dX5_get_5 rfl ?_
  refine g_iload_n2 dX5_get_6 rfl ?_
  refine g_callYX (As := [.int b]) dX5_get_7 vX5_156 rfl hA.1 rfl (x_reqT hA t01) ⟨by decide, by decide, by decide, by decide⟩ (Nat.le_of_ble_eq_true rfl) ⟨by decide, by decide⟩ (fun E M1 h => ⟨h.1, h.2.1, by have := h.2.2; omega⟩) (fun v M7 e7 => ?_)
  obtain ⟨rfl, hM7, q7⟩ := e7
  subst M7
  show G _ _ _ _ _ 10 _ [] _
  refine g_aload_n0 dX5_get_10 rfl ?_
  refine g_get (v := .null) dX5_get_11 rfl fX5_73 hA.1 rfl rfl ?_
  refine g_nonnullN dX5_get_14 rfl ?_
  refine g_aload_n0 dX5_get_17 rfl ?_
  have hD : gD Γ Γ [] := gD.rf
  refine n_new hD (i := 250) (ci := 1) (t := nulX1) (kn' := (1, 6)) (hN.at 250 rfl) rfl dX5_get_18 rfl rfl uwX1 tyX1_ok nw_X5_244 nfX1 nrX1 (Nat.le_of_ble_eq_true rfl) hC (hz.at 250 rfl) rfl ⟨Nat.le_of_ble_eq_true rfl, Nat.le_of_ble_eq_true rfl⟩ rfl (fun Γ18 hC hD => ?_)
  refine g_dup dX5_get_21 rfl rfl ?_
  refine n_call (L' := lGt) (kn' := (15, 8264)) hD (fun _ _ _ _ _ h hx => absurd hx.2 h) dX5_get_22 rfl in_X5_246 4 rfl (k_Gt (d := 1) (by omega) (hD.o 0 rfl) (hN.gr hD (by decide +kernel)) hC (hz.sub (by decide +kernel))) (by decide +kernel) (hD.o 0 rfl).1 rfl ⟨by decide, by decide⟩ ⟨Nat.le_of_ble_eq_true rfl, Nat.le_of_ble_eq_true rfl⟩ rfl (Nat.le_of_ble_eq_true rfl) (by decide +kernel) (fun Γ22 hC hD => ?_)
  refine n_putR0 hD hA.1 rfl (hD.o 13 rfl).1 (t' := [some (some 100), some (some 120), some (some 220), none, none, none, some (some 140), some (some 222), none, none, some (some 230), none, some (some 240), some (some 1), none, some (some 250), some (some 2), some (some 3)]) rfl dX5_get_25 rfl fX5_73 (Nat.le_of_ble_eq_true rfl) (fun _ => rfl) (fun _ => rfl) hC (fun Γ25 hC hD => ?_)
  have hH := hg_get hD hA
  have hG : g_Get Γ25 := by
    rcases hH.2.2.2.2.2.2.2.2.2.2.2 with e | e
    · cases e
    · exact e.2
  refine g_aload_n0 dX5_get_28 rfl ?_
  refine g_getr (j := 250) dX5_get_29 rfl fX5_73 hH.1 rfl ?_
  refine g_aload_n0 dX5_get_32 rfl ?_
  refine g_getr (j := 100) dX5_get_33 rfl fX5_10 hH.1 rfl ?_
  refine g_iload_n1 dX5_get_36 rfl ?_
  refine g_iload_n2 dX5_get_37 rfl ?_
  refine g_callVi3 dX5_get_38 rfl vX5_247 hG.1 rfl (c_fewestGifts hG hI (who := a.toInt.toNat) (thing := b.toInt.toNat) (by omega) (by omega) (by omega) (by omega) hH.2.1 (Or.inr (by decide)) hT hB.2.2.2) ⟨by decide, by decide⟩ (Nat.le_of_ble_eq_true rfl) (fun z M3 e3 => ?_)
  exact g_iretY dX5_get_41 rfl ⟨Nat.le_of_ble_eq_true rfl, Nat.le_of_ble_eq_true rfl⟩ ⟨hD, hC.m (e3.2.1 400 (by decide) (by decide) (Or.inr (by decide))), _, rfl, ⟨q2, q7⟩, e3.2, e3.1⟩
abbrev qL_get0 (Γ : gW) (Qc : gW → Option Value → gM → Prop) (XPc : String → gM → Prop) : gW → Option Value → gM → Prop := fun Γ' v M' => (∃ (z : Int32) (M1 : gM), Qc Γ' (some (.int z)) M1 ∧ v = some (.int 0) ∧ M' = g_ul M1 500 0 z.toInt64) ∨ (Γ' = Γ ∧ v = some (.int 1) ∧ XPc nNSE M')
theorem h_get0 {Γ : gW} {M : gM} {gt : Option Nat} (hA : g_HG Γ gt) (ho : g_o Γ 500 (.inr (2, 1))) {Qc : gW → Option Value → gM → Prop} {XPc : String → gM → Prop} {p0 p1 : Int32} (hc : CtY Γ yX5_get μX5_get 8 15 8264 [.ref 0, .int p0, .int p1] M Qc XPc) (hgd : ∀ Γ' v M', Qc Γ' v M' → gD Γ Γ' lGet ∧ ∃ z : Int32, v = some (.int z)) (kx : ∀ E M', XPc E M' → E = nNSE) : CtL Γ yL_get μL_get hhL_get 9 15 8264 [.ref 0, .int p0, .int p1, .ref 500] M (qL_get0 Γ Qc XPc) := by
  refine g_enterL (by decide +kernel) rfl rfl (Nat.le_of_ble_eq_true rfl) ?_
  show G _ _ _ _ _ _ [some (.ref 0), some (.int p0), some (.int p1), some (.ref 500), none] _ _
  refine g_aload_n3 dL_get_0 rfl ?_
  refine g_iconst (v := 0) dL_get_1 rfl rfl ?_
  refine g_aload_n0 dL_get_2 rfl ?_
  refine g_iload_n1 dL_get_3 rfl ?_
  refine g_iload_n2 dL_get_4 rfl ?_
  refine g_callWY (As := [.int p0, .int p1]) dL_get_5 vL_45 rfl hA.1 rfl hc (fun Γ' v M' h => (hgd Γ' v M' h).1) (by decide +kernel) (fun k v hk => ?_) (fun v hv => ?_) ⟨by decide, by decide, by decide, by decide⟩ (Nat.le_of_ble_eq_true rfl) ⟨by decide, by decide⟩ (fun E M' hx => ?_) (fun Γ' v M1 hv => ?_)
  · have hm := List.mem_of_getElem? hk
    simp only [List.mem_cons, List.not_mem_nil, or_false, Option.some.injEq, reduceCtorEq] at hm
    rcases hm with rfl | rfl | rfl | rfl
    · exact Or.inl hA.1.1
    · trivial
    · trivial
    · exact Or.inl ho.1
  · simp only [List.mem_cons, List.not_mem_nil, or_false] at hv
    rcases hv with rfl | rfl
    · trivial
    · exact Or.inl ho.1
  · cases kx E M' hx
    exact ⟨_, aL_get0, Or.inr ⟨rfl, rfl, hx⟩⟩
  · obtain ⟨hD, z, rfl⟩ := hgd Γ' v M1 hv
    refine g_i2l dL_get_8 rfl ?_
    refine g_last dL_get_9 rfl (hD.old ho rfl) (i_in (by decide)) ?_
    refine g_goto (t := 17) dL_get_10 rfl ?_
    refine g_iconst (v := 0) dL_get_17 rfl rfl ?_
    exact g_iretG dL_get_18 rfl ⟨Nat.le_of_ble_eq_true rfl, Nat.le_of_ble_eq_true rfl⟩ (Or.inl ⟨z, M1, hv, rfl, rfl⟩)
