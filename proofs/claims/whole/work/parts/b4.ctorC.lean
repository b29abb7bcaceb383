def lT100 : List (Nat × gSh) := ([(110, .inr (1, 64)), (109, .inr (1, 64)), (108, .inr (1, 12)), (107, .inr (1, 12)), (106, .inr (1, 6)), (105, .inr (1, 6)), (104, .inr (1, 6)), (103, .inr (1, 6)), (102, .inr (1, 6)), (100, .inl (3, [none, none, none, none, none, none, some (some 101), some (some 102), some (some 103), some (some 104), some (some 105), some (some 106), some (some 107), some (some 108), some (some 109), some (some 110)])), (101, .inr (1, 6))] : List (Nat × gSh))
theorem k_T100 {Γ : gW} {M : gM} {d : Nat} (ho : g_o Γ 100 (.inl (3, nulX3))) (hN : gN0 [101, 102, 103, 104, 105, 106, 107, 108, 109, 110] Γ) (hC : gCl Γ M) (hz : gZ0 [100, 101, 102, 103, 104, 105, 106, 107, 108, 109, 110] M) : CtN PXN Γ yX3_init μX3_init d 10 188 [.ref 100] M (fun Γ' M' => gD Γ Γ' lT100 ∧ (gCl Γ' M' ∧ M' = M)) := by
  refine g_enterN (by decide +kernel) rfl rfl rfl (by decide) ?_
  show G _ _ _ _ _ _ [some (.ref 100)] _ _
  have hD : gD Γ Γ [] := gD.rf
  refine g_aload_n0 dX3_init_0 rfl ?_
  refine g_objInit dX3_init_1 rfl oi_X3 oi_i oi_c ⟨by show 1 ≤ d + 8; omega, by show 0 + 12 ≤ 150 + 50 * d; omega⟩ ?_
  refine g_aload_n0 dX3_init_4 rfl ?_
  refine g_iconst (v := 0) dX3_init_5 rfl rfl ?_
  refine n_put0 dX3_init_6 rfl fX3_9 (hD.old ho rfl) rfl rfl rfl (hz.at 100 rfl 0) ?_
  refine g_aload_n0 dX3_init_9 rfl ?_
  refine g_iconst (v := 0) dX3_init_10 rfl rfl ?_
  refine n_put0 dX3_init_11 rfl fX3_15 (hD.old ho rfl) rfl rfl rfl (hz.at 100 rfl 1) ?_
  refine g_aload_n0 dX3_init_14 rfl ?_
  refine g_iconst (v := 0) dX3_init_15 rfl rfl ?_
  refine n_put0 dX3_init_16 rfl fX3_18 (hD.old ho rfl) rfl rfl rfl (hz.at 100 rfl 2) ?_
  refine g_aload_n0 dX3_init_19 rfl ?_
  refine g_iconst (v := 0) dX3_init_20 rfl rfl ?_
  refine n_put0 dX3_init_21 rfl fX3_21 (hD.old ho rfl) rfl rfl rfl (hz.at 100 rfl 3) ?_
  refine g_aload_n0 dX3_init_24 rfl ?_
  refine g_iconst (v := 0) dX3_init_25 rfl rfl ?_
  refine n_put0 dX3_init_26 rfl fX3_24 (hD.old ho rfl) rfl rfl rfl (hz.at 100 rfl 4) ?_
  refine g_aload_n0 dX3_init_29 rfl ?_
  refine g_iconst (v := 0) dX3_init_30 rfl rfl ?_
  refine n_put0 dX3_init_31 rfl fX3_27 (hD.old ho rfl) rfl rfl rfl (hz.at 100 rfl 5) ?_
  refine g_aload_n0 dX3_init_34 rfl ?_
  refine g_bipush (v := 6) dX3_init_35 rfl rfl ?_
  refine n_newa1 hD (i := 101) (n := 6) (kn' := (1, 6)) (hN.at 101 rfl) rfl dX3_init_37 rfl w_ai rfl (Nat.le_of_ble_eq_true rfl) (Nat.le_of_ble_eq_true rfl) hC (hz.at 101 rfl) rfl ⟨Nat.le_of_ble_eq_true rfl, Nat.le_of_ble_eq_true rfl⟩ rfl (fun Γ37 hC hD => ?_)
  refine n_putF0 hD ho rfl (hD.o 0 rfl).1 (t' := [none, none, none, none, none, none, some (some 101), some none, some none, some none, some none, some none, some none, some none, some none, some none]) rfl (fun _ _ _ h => h.1) dX3_init_39 rfl fX3_30 (fun C T N h => by cases h; rfl) (Nat.le_of_ble_eq_true rfl) (fun _ => rfl) (fun _ => rfl) hC (fun Γ39 hC hD => ?_)
  refine g_aload_n0 dX3_init_42 rfl ?_
  refine g_bipush (v := 6) dX3_init_43 rfl rfl ?_
  refine n_newa1 hD (i := 102) (n := 6) (kn' := (2, 12)) (hN.at 102 rfl) rfl dX3_init_45 rfl w_ai rfl (Nat.le_of_ble_eq_true rfl) (Nat.le_of_ble_eq_true rfl) hC (hz.at 102 rfl) rfl ⟨Nat.le_of_ble_eq_true rfl, Nat.le_of_ble_eq_true rfl⟩ rfl (fun Γ45 hC hD => ?_)
  refine n_putF (L' := ([(102, .inr (1, 6)), (100, .inl (3, [none, none, none, none, none, none, some (some 101), some (some 102), some none, some none, some none, some none, some none, some none, some none, some none])), (101, .inr (1, 6))] : List (Nat × gSh))) hD (hD.o 1 rfl) rfl (hD.o 0 rfl).1 (t' := [none, none, none, none, none, none, some (some 101), some (some 102), some none, some none, some none, some none, some none, some none, some none, some none]) rfl (by decide +kernel) (fun _ _ _ h => h.1) dX3_init_47 rfl fX3_34 (fun C T N h => by cases h; rfl) (Nat.le_of_ble_eq_true rfl) (fun _ => rfl) (fun _ => rfl) hC (fun Γ47 hC hD => ?_)
  refine g_aload_n0 dX3_init_50 rfl ?_
  refine g_bipush (v := 6) dX3_init_51 rfl rfl ?_
  refine n_newa1 hD (i := 103) (n := 6) (kn' := (3, 18)) (hN.at 103 rfl) rfl dX3_init_53 rfl w_ai rfl (Nat.le_of_ble_eq_true rfl) (Nat.le_of_ble_eq_true rfl) hC (hz.at 103 rfl) rfl ⟨Nat.le_of_ble_eq_true rfl, Nat.le_of_ble_eq_true rfl⟩ rfl (fun Γ53 hC hD => ?_)
  refine n_putF (L' := ([(103, .inr (1, 6)), (102, .inr (1, 6)), (100, .inl (3, [none, none, none, none, none, none, some (some 101), some (some 102), some (some 103), some none, some none, some none, some none, some none, some none, some none])), (101, .inr (1, 6))] : List (Nat × gSh))) hD (hD.o 2 rfl) rfl (hD.o 0 rfl).1 (t' := [none, none, none, none, none, none, some (some 101), some (some 102), some (some 103), some none, some none, some none, some none, some none, some none, some none]) rfl (by decide +kernel) (fun _ _ _ h => h.1) dX3_init_55 rfl fX3_37 (fun C T N h => by cases h; rfl) (Nat.le_of_ble_eq_true rfl) (fun _ => rfl) (fun _ => rfl) hC (fun Γ55 hC hD => ?_)
  refine g_aload_n0 dX3_init_58 rfl ?_
  refine g_bipush (v := 6) dX3_init_59 rfl rfl ?_
  refine n_newa1 hD (i := 104) (n := 6) (kn' := (4, 24)) (hN.at 104 rfl) rfl dX3_init_61 rfl w_ai rfl (Nat.le_of_ble_eq_true rfl) (Nat.le_of_ble_eq_true rfl) hC (hz.at 104 rfl) rfl ⟨Nat.le_of_ble_eq_true rfl, Nat.le_of_ble_eq_true rfl⟩ rfl (fun Γ61 hC hD => ?_)
  refine n_putF (L' := ([(104, .inr (1, 6)), (103, .inr (1, 6)), (102, .inr (1, 6)), (100, .inl (3, [none, none, none, none, none, none, some (some 101), some (some 102), some (some 103), some (some 104), some none, some none, some none, some none, some none, some none])), (101, .inr (1, 6))] : List (Nat × gSh))) hD (hD.o 3 rfl) rfl (hD.o 0 rfl).1 (t' := [none, none, none, none, none, none, some (some 101), some (some 102), some (some 103), some (some 104), some none, some none, some none, some none, some none, some none]) rfl (by decide +kernel) (fun _ _ _ h => h.1) dX3_init_63 rfl fX3_40 (fun C T N h => by cases h; rfl) (Nat.le_of_ble_eq_true rfl) (fun _ => rfl) (fun _ => rfl) hC (fun Γ63 hC hD => ?_)
  refine g_aload_n0 dX3_init_66 rfl ?_
  refine g_bipush (v := 6) dX3_init_67 rfl rfl ?_
  refine n_newa1 hD (i := 105) (n := 6) (kn' := (5, 30)) (hN.at 105 rfl) rfl dX3_init_69 rfl w_ai rfl (Nat.le_of_ble_eq_true rfl) (Nat.le_of_ble_eq_true rfl) hC (hz.at 105 rfl) rfl ⟨Nat.le_of_ble_eq_true rfl, Nat.le_of_ble_eq_true rfl⟩ rfl (fun Γ69 hC hD => ?_)
  refine n_putF (L' := ([(105, .inr (1, 6)), (104, .inr (1, 6)), (103, .inr (1, 6)), (102, .inr (1, 6)), (100, .inl (3, [none, none, none, none, none, none, some (some 101), some (some 102), some (some 103), some (some 104), some (some 105), some none, some none, some none, some none, some none])), (101, .inr (1, 6))] : List (Nat × gSh))) hD (hD.o 4 rfl) rfl (hD.o 0 rfl).1 (t' := [none, none, none, none, none, none, some (some 101), some (some 102), some (some 103), some (some 104), some (some 105), some none, some none, some none, some none, some none]) rfl (by decide +kernel) (fun _ _ _ h => h.1) dX3_init_71 rfl fX3_43 (fun C T N h => by cases h; rfl) (Nat.le_of_ble_eq_true rfl) (fun _ => rfl) (fun _ => rfl) hC (fun Γ71 hC hD => ?_)
  refine g_aload_n0 dX3_init_74 rfl ?_
  refine g_bipush (v := 6) dX3_init_75 rfl rfl ?_
  refine n_newa1 hD (i := 106) (n := 6) (kn' := (6, 36)) (hN.at 106 rfl) rfl dX3_init_77 rfl w_ai rfl (Nat.le_of_ble_eq_true rfl) (Nat.le_of_ble_eq_true rfl) hC (hz.at 106 rfl) rfl ⟨Nat.le_of_ble_eq_true rfl, Nat.le_of_ble_eq_true rfl⟩ rfl (fun Γ77 hC hD => ?_)
  refine n_putF (L' := ([(106, .inr (1, 6)), (105, .inr (1, 6)), (104, .inr (1, 6)), (103, .inr (1, 6)), (102, .inr (1, 6)), (100, .inl (3, [none, none, none, none, none, none, some (some 101), some (some 102), some (some 103), some (some 104), some (some 105), some (some 106), some none, some none, some none, some none])), (101, .inr (1, 6))] : List (Nat × gSh))) hD (hD.o 5 rfl) rfl (hD.o 0 rfl).1 (t' := [none, none, none, none, none, none, some (some 101), some (some 102), some (some 103), some (some 104), some (some 105), some (some 106), some none, some none, some none, some none]) rfl (by decide +kernel) (fun _ _ _ h => h.1) dX3_init_79 rfl fX3_46 (fun C T N h => by cases h; rfl) (Nat.le_of_ble_eq_true rfl) (fun _ => rfl) (fun _ => rfl) hC (fun Γ79 hC hD => ?_)
  refine g_aload_n0 dX3_init_82 rfl ?_
  refine g_bipush (v := 12) dX3_init_83 rfl rfl ?_
  refine n_newa1 hD (i := 107) (n := 12) (kn' := (7, 48)) (hN.at 107 rfl) rfl dX3_init_85 rfl w_ai rfl (Nat.le_of_ble_eq_true rfl) (Nat.le_of_ble_eq_true rfl) hC (hz.at 107 rfl) rfl ⟨Nat.le_of_ble_eq_true rfl, Nat.le_of_ble_eq_true rfl⟩ rfl (fun Γ85 hC hD => ?_)
  refine n_putF (L' := ([(107, .inr (1, 12)), (106, .inr (1, 6)), (105, .inr (1, 6)), (104, .inr (1, 6)), (103, .inr (1, 6)), (102, .inr (1, 6)), (100, .inl (3, [none, none, none, none, none, none, some (some 101), some (some 102), some (some 103), some (some 104), some (some 105), some (some 106), some (some 107), some none, some none, some none])), (101, .inr (1, 6))] : List (Nat × gSh))) hD (hD.o 6 rfl) rfl (hD.o 0 rfl).1 (t' := [none, none, none, none, none, none, some (some 101), some (some 102), some (some 103), some (some 104), some (some 105), some (some 106), some (some 107), some none, some none, some none]) rfl (by decide +kernel) (fun _ _ _ h => h.1) dX3_init_87 rfl fX3_49 (fun C T N h => by cases h; rfl) (Nat.le_of_ble_eq_true rfl) (fun _ => rfl) (fun _ => rfl) hC (fun Γ87 hC hD => ?_)
  refine g_aload_n0 dX3_init_90 rfl ?_
  refine g_bipush (v := 12) dX3_init_91 rfl rfl ?_
  refine n_newa1 hD (i := 108) (n := 12) (kn' := (8, 60)) (hN.at 108 rfl) rfl dX3_init_93 rfl w_ai rfl (Nat.le_of_ble_eq_true rfl) (Nat.le_of_ble_eq_true rfl) hC (hz.at 108 rfl) rfl ⟨Nat.le_of_ble_eq_true rfl, Nat.le_of_ble_eq_true rfl⟩ rfl (fun Γ93 hC hD => ?_)
  refine n_putF (L' := ([(108, .inr (1, 12)), (107, .inr (1, 12)), (106, .inr (1, 6)), (105, .inr (1, 6)), (104, .inr (1, 6)), (103, .inr (1, 6)), (102, .inr (1, 6)), (100, .inl (3, [none, none, none, none, none, none, some (some 101), some (some 102), some (some 103), some (some 104), some (some 105), some (some 106), some (some 107), some (some 108), some none, some none])), (101, .inr (1, 6))] : List (Nat × gSh))) hD (hD.o 7 rfl) rfl (hD.o 0 rfl).1 (t' := [none, none, none, none, none, none, some (some 101), some (some 102), some (some 103), some (some 104), some (some 105), some (some 106), some (some 107), some (some 108), some none, some none]) rfl (by decide +kernel) (fun _ _ _ h => h.1) dX3_init_95 rfl fX3_52 (fun C T N h => by cases h; rfl) (Nat.le_of_ble_eq_true rfl) (fun _ => rfl) (fun _ => rfl) hC (fun Γ95 hC hD => ?_)
  refine g_aload_n0 dX3_init_98 rfl ?_
  refine g_bipush (v := 64) dX3_init_99 rfl rfl ?_
  refine n_newa1 hD (i := 109) (n := 64) (kn' := (9, 124)) (hN.at 109 rfl) rfl dX3_init_101 rfl w_ai rfl (Nat.le_of_ble_eq_true rfl) (Nat.le_of_ble_eq_true rfl) hC (hz.at 109 rfl) rfl ⟨Nat.le_of_ble_eq_true rfl, Nat.le_of_ble_eq_true rfl⟩ rfl (fun Γ101 hC hD => ?_)
  refine n_putF (L' := ([(109, .inr (1, 64)), (108, .inr (1, 12)), (107, .inr (1, 12)), (106, .inr (1, 6)), (105, .inr (1, 6)), (104, .inr (1, 6)), (103, .inr (1, 6)), (102, .inr (1, 6)), (100, .inl (3, [none, none, none, none, none, none, some (some 101), some (some 102), some (some 103), some (some 104), some (some 105), some (some 106), some (some 107), some (some 108), some (some 109), some none])), (101, .inr (1, 6))] : List (Nat × gSh))) hD (hD.o 8 rfl) rfl (hD.o 0 rfl).1 (t' := [none, none, none, none, none, none, some (some 101), some (some 102), some (some 103), some (some 104), some (some 105), some (some 106), some (some 107), some (some 108), some (some 109), some none]) rfl (by decide +kernel) (fun _ _ _ h => h.1) dX3_init_103 rfl fX3_55 (fun C T N h => by cases h; rfl) (Nat.le_of_ble_eq_true rfl) (fun _ => rfl) (fun _ => rfl) hC (fun Γ103 hC hD => ?_)
  refine g_aload_n0 dX3_init_106 rfl ?_
  refine g_bipush (v := 64) dX3_init_107 rfl rfl ?_
  refine n_newa1 hD (i := 110) (n := 64) (kn' := (10, 188)) (hN.at 110 rfl) rfl dX3_init_109 rfl w_ai rfl (Nat.le_of_ble_eq_true rfl) (Nat.le_of_ble_eq_true rfl) hC (hz.at 110 rfl) rfl ⟨Nat.le_of_ble_eq_true rfl, Nat.le_of_ble_eq_true rfl⟩ rfl (fun Γ109 hC hD => ?_)
  refine n_putF (L' := ([(110, .inr (1, 64)), (109, .inr (1, 64)), (108, .inr (1, 12)), (107, .inr (1, 12)), (106, .inr (1, 6)), (105, .inr (1, 6)), (104, .inr (1, 6)), (103, .inr (1, 6)), (102, .inr (1, 6)), (100, .inl (3, [none, none, none, none, none, none, some (some 101), some (some 102), some (some 103), some (some 104), some (some 105), some (some 106), some (some 107), some (some 108), some (some 109), some (some 110)])), (101, .inr (1, 6))] : List (Nat × gSh))) hD (hD.o 9 rfl) rfl (hD.o 0 rfl).1 (t' := [none, none, none, none, none, none, some (some 101), some (some 102), some (some 103), some (some 104), some (some 105), some (some 106), some (some 107), some (some 108), some (some 109), some (some 110)]) rfl (by decide +kernel) (fun _ _ _ h => h.1) dX3_init_111 rfl fX3_58 (fun C T N h => by cases h; rfl) (Nat.le_of_ble_eq_true rfl) (fun _ => rfl) (fun _ => rfl) hC (fun Γ111 hC hD => ?_)
  exact g_vretN dX3_init_114 rfl ⟨Nat.le_of_ble_eq_true rfl, Nat.le_of_ble_eq_true rfl⟩ ⟨hD, hC, rfl⟩
def lT120 : List (Nat × gSh) := ([(130, .inr (1, 64)), (129, .inr (1, 64)), (128, .inr (1, 12)), (127, .inr (1, 12)), (126, .inr (1, 6)), (125, .inr (1, 6)), (124, .inr (1, 6)), (123, .inr (1, 6)), (122, .inr (1, 6)), (120, .inl (3, [none, none, none, none, none, none, some (some 121), some (some 122), some (some 123), some (some 124), some (some 125), some (some 126), some (some 127), some (some 128), some (some 129), some (some 130)])), (121, .inr (1, 6))] : List (Nat × gSh))
theorem k_T120 {Γ : gW} {M : gM} {d : Nat} (ho : g_o Γ 120 (.inl (3, nulX3))) (hN : gN0 [121, 122, 123, 124, 125, 126, 127, 128, 129, 130] Γ) (hC : gCl Γ M) (hz : gZ0 [120, 121, 122, 123, 124, 125, 126, 127, 128, 129, 130] M) : CtN PXN Γ yX3_init μX3_init d 10 188 [.ref 120] M (fun Γ' M' => gD Γ Γ' lT120 ∧ (gCl Γ' M' ∧ M' = M)) := by
  refine g_enterN (by decide +kernel) rfl rfl rfl (by decide) ?_
  show G _ _ _ _ _ _ [some (.ref 120)] _ _
  have hD : gD Γ Γ [] := gD.rf
  refine g_aload_n0 dX3_init_0 rfl ?_
  refine g_objInit dX3_init_1 rfl oi_X3 oi_i oi_c ⟨by show 1 ≤ d + 8; omega, by show 0 + 12 ≤ 150 + 50 * d; omega⟩ ?_
  refine g_aload_n0 dX3_init_4 rfl ?_
  refine g_iconst (v := 0) dX3_init_5 rfl rfl ?_
  refine n_put0 dX3_init_6 rfl fX3_9 (hD.old ho rfl) rfl rfl rfl (hz.at 120 rfl 0) ?_
  refine g_aload_n0 dX3_init_9 rfl ?_
  refine g_iconst (v := 0) dX3_init_10 rfl rfl ?_
  refine n_put0 dX3_init_11 rfl fX3_15 (hD.old ho rfl) rfl rfl rfl (hz.at 120 rfl 1) ?_
  refine g_aload_n0 dX3_init_14 rfl ?_
  refine g_iconst (v := 0) dX3_init_15 rfl rfl ?_
  refine n_put0 dX3_init_16 rfl fX3_18 (hD.old ho rfl) rfl rfl rfl (hz.at 120 rfl 2) ?_
  refine g_aload_n0 dX3_init_19 rfl ?_
  refine g_iconst (v := 0) dX3_init_20 rfl rfl ?_
  refine n_put0 dX3_init_21 rfl fX3_21 (hD.old ho rfl) rfl rfl rfl (hz.at 120 rfl 3) ?_
  refine g_aload_n0 dX3_init_24 rfl ?_
  refine g_iconst (v := 0) dX3_init_25 rfl rfl ?_
  refine n_put0 dX3_init_26 rfl fX3_24 (hD.old ho rfl) rfl rfl rfl (hz.at 120 rfl 4) ?_
  refine g_aload_n0 dX3_init_29 rfl ?_
  refine g_iconst (v := 0) dX3_init_30 rfl rfl ?_
  refine n_put0 dX3_init_31 rfl fX3_27 (hD.old ho rfl) rfl rfl rfl (hz.at 120 rfl 5) ?_
  refine g_aload_n0 dX3_init_34 rfl ?_
  refine g_bipush (v := 6) dX3_init_35 rfl rfl ?_
  refine n_newa1 hD (i := 121) (n := 6) (kn' := (1, 6)) (hN.at 121 rfl) rfl dX3_init_37 rfl w_ai rfl (Nat.le_of_ble_eq_true rfl) (Nat.le_of_ble_eq_true rfl) hC (hz.at 121 rfl) rfl ⟨Nat.le_of_ble_eq_true rfl, Nat.le_of_ble_eq_true rfl⟩ rfl (fun Γ37 hC hD => ?_)
  refine n_putF0 hD ho rfl (hD.o 0 rfl).1 (t' := [none, none, none, none, none, none, some (some 121), some none, some none, some none, some none, some none, some none, some none, some none, some none]) rfl (fun _ _ _ h => h.1) dX3_init_39 rfl fX3_30 (fun C T N h => by cases h; rfl) (Nat.le_of_ble_eq_true rfl) (fun _ => rfl) (fun _ => rfl) hC (fun Γ39 hC hD => ?_)
  refine g_aload_n0 dX3_init_42 rfl ?_
  refine g_bipush (v := 6) dX3_init_43 rfl rfl ?_
  refine n_newa1 hD (i := 122) (n := 6) (kn' := (2, 12)) (hN.at 122 rfl) rfl dX3_init_45 rfl w_ai rfl (Nat.le_of_ble_eq_true rfl) (Nat.le_of_ble_eq_true rfl) hC (hz.at 122 rfl) rfl ⟨Nat.le_of_ble_eq_true rfl, Nat.le_of_ble_eq_true rfl⟩ rfl (fun Γ45 hC hD => ?_)
  refine n_putF (L' := ([(122, .inr (1, 6)), (120, .inl (3, [none, none, none, none, none, none, some (some 121), some (some 122), some none, some none, some none, some none, some none, some none, some none, some none])), (121, .inr (1, 6))] : List (Nat × gSh))) hD (hD.o 1 rfl) rfl (hD.o 0 rfl).1 (t' := [none, none, none, none, none, none, some (some 121), some (some 122), some none, some none, some none, some none, some none, some none, some none, some none]) rfl (by decide +kernel) (fun _ _ _ h => h.1) dX3_init_47 rfl fX3_34 (fun C T N h => by cases h; rfl) (Nat.le_of_ble_eq_true rfl) (fun _ => rfl) (fun _ => rfl) hC (fun Γ47 hC hD => ?_)
  refine g_aload_n0 dX3_init_50 rfl ?_
  refine g_bipush (v := 6) dX3_init_51 rfl rfl ?_
  refine n_newa1 hD (i := 123) (n := 6) (kn' := (3, 18)) (hN.at 123 rfl) rfl dX3_init_53 rfl w_ai rfl (Nat.le_of_ble_eq_true rfl) (Nat.le_of_ble_eq_true rfl) hC (hz.at 123 rfl) rfl ⟨Nat.le_of_ble_eq_true rfl, Nat.le_of_ble_eq_true rfl⟩ rfl (fun Γ53 hC hD => ?_)
  refine n_putF (L' := ([(123, .inr (1, 6)), (122, .inr (1, 6)), (120, .inl (3, [none, none, none, none, none, none, some (some 121), some (some 122), some (some 123), some none, some none, some none, some none, some none, some none, some none])), (121, .inr (1, 6))] : List (Nat × gSh))) hD (hD.o 2 rfl) rfl (hD.o 0 rfl).1 (t' := [none, none, none, none, none, none, some (some 121), some (some 122), some (some 123), some none, some none, some none, some none, some none, some none, some none]) rfl (by decide +kernel) (fun _ _ _ h => h.1) dX3_init_55 rfl fX3_37 (fun C T N h => by cases h; rfl) (Nat.le_of_ble_eq_true rfl) (fun _ => rfl) (fun _ => rfl) hC (fun Γ55 hC hD => ?_)
  refine g_aload_n0 dX3_init_58 rfl ?_
  refine g_bipush (v := 6) dX3_init_59 rfl rfl ?_
  refine n_newa1 hD (i := 124) (n := 6) (kn' := (4, 24)) (hN.at 124 rfl) rfl dX3_init_61 rfl w_ai rfl (Nat.le_of_ble_eq_true rfl) (Nat.le_of_ble_eq_true rfl) hC (hz.at 124 rfl) rfl ⟨Nat.le_of_ble_eq_true rfl, Nat.le_of_ble_eq_true rfl⟩ rfl (fun Γ61 hC hD => ?_)
  refine n_putF (L' := ([(124, .inr (1, 6)), (123, .inr (1, 6)), (122, .inr (1, 6)), (120, .inl (3, [none, none, none, none, none, none, some (some 121), some (some 122), some (some 123), some (some 124), some none, some none, some none, some none, some none, some none])), (121, .inr (1, 6))] : List (Nat × gSh))) hD (hD.o 3 rfl) rfl (hD.o 0 rfl).1 (t' := [none, none, none, none, none, none, some (some 121), some (some 122), some (some 123), some (some 124), some none, some none, some none, some none, some none, some none]) rfl (by decide +kernel) (fun _ _ _ h => h.1) dX3_init_63 rfl fX3_40 (fun C T N h => by cases h; rfl) (Nat.le_of_ble_eq_true rfl) (fun _ => rfl) (fun _ => rfl) hC (fun Γ63 hC hD => ?_)
  refine g_aload_n0 dX3_init_66 rfl ?_
  refine g_bipush (v := 6) dX3_init_67 rfl rfl ?_
  refine n_newa1 hD (i := 125) (n := 6) (kn' := (5, 30)) (hN.at 125 rfl) rfl dX3_init_69 rfl w_ai rfl (Nat.le_of_ble_eq_true rfl) (Nat.le_of_ble_eq_true rfl) hC (hz.at 125 rfl) rfl ⟨Nat.le_of_ble_eq_true rfl, Nat.le_of_ble_eq_true rfl⟩ rfl (fun Γ69 hC hD => ?_)
  refine n_putF (L' := ([(125, .inr (1, 6)), (124, .inr (1, 6)), (123, .inr (1, 6)), (122, .inr (1, 6)), (120, .inl (3, [none, none, none, none, none, none, some (some 121), some (some 122), some (some 123), some (some 124), some (some 125), some none, some none, some none, some none, some none])), (121, .inr (1, 6))] : List (Nat × gSh))) hD (hD.o 4 rfl) rfl (hD.o 0 rfl).1 (t' := [none, none, none, none, none, none, some (some 121), some (some 122), some (some 123), some (some 124), some (some 125), some none, some none, some none, some none, some none]) rfl (by decide +kernel) (fun _ _ _ h => h.1) dX3_init_71 rfl fX3_43 (fun C T N h => by cases h; rfl) (Nat.le_of_ble_eq_true rfl) (fun _ => rfl) (fun _ => rfl) hC (fun Γ71 hC hD => ?_)
  refine g_aload_n0 dX3_init_74 rfl ?_
  refine g_bipush (v := 6) dX3_init_75 rfl rfl ?_
  refine n_newa1 hD (i := 126) (n := 6) (kn' := (6, 36)) (hN.at 126 rfl) rfl dX3_init_77 rfl w_ai rfl (Nat.le_of_ble_eq_true rfl) (Nat.le_of_ble_eq_true rfl) hC (hz.at 126 rfl) rfl ⟨Nat.le_of_ble_eq_true rfl, Nat.le_of_ble_eq_true rfl⟩ rfl (fun Γ77 hC hD => ?_)
  refine n_putF (L' := ([(126, .inr (1, 6)), (125, .inr (1, 6)), (124, .inr (1, 6)), (123, .inr (1, 6)), (122, .inr (1, 6)), (120, .inl (3, [none, none, none, none, none, none, some (some 121), some (some 122), some (some 123), some (some 124), some (some 125), some (some 126), some none, some none, some none, some none])), (121, .inr (1, 6))] : List (Nat × gSh))) hD (hD.o 5 rfl) rfl (hD.o 0 rfl).1 (t' := [none, none, none, none, none, none, some (some 121), some (some 122), some (some 123), some (some 124), some (some 125), some (some 126), some none, some none, some none, some none]) rfl (by decide +kernel) (fun _ _ _ h => h.1) dX3_init_79 rfl fX3_46 (fun C T N h => by cases h; rfl) (Nat.le_of_ble_eq_true rfl) (fun _ => rfl) (fun _ => rfl) hC (fun Γ79 hC hD => ?_)
  refine g_aload_n0 dX3_init_82 rfl ?_
  refine g_bipush (v := 12) dX3_init_83 rfl rfl ?_
  refine n_newa1 hD (i := 127) (n := 12) (kn' := (7, 48)) (hN.at 127 rfl) rfl dX3_init_85 rfl w_ai rfl (Nat.le_of_ble_eq_true rfl) (Nat.le_of_ble_eq_true rfl) hC (hz.at 127 rfl) rfl ⟨Nat.le_of_ble_eq_true rfl, Nat.le_of_ble_eq_true rfl⟩ rfl (fun Γ85 hC hD => ?_)
  refine n_putF (L' := ([(127, .inr (1, 12)), (126, .inr (1, 6)), (125, .inr (1, 6)), (124, .inr (1, 6)), (123, .inr (1, 6)), (122, .inr (1, 6)), (120, .inl (3, [none, none, none, none, none, none, some (some 121), some (some 122), some (some 123), some (some 124), some (some 125), some (some 126), some (some 127), some none, some none, some none])), (121, .inr (1, 6))] : List (Nat × gSh))) hD (hD.o 6 rfl) rfl (hD.o 0 rfl).1 (t' := [none, none, none, none, none, none, some (some 121), some (some 122), some (some 123), some (some 124), some (some 125), some (some 126), some (some 127), some none, some none, some none]) rfl (by decide +kernel) (fun _ _ _ h => h.1) dX3_init_87 rfl fX3_49 (fun C T N h => by cases h; rfl) (Nat.le_of_ble_eq_true rfl) (fun _ => rfl) (fun _ => rfl) hC (fun Γ87 hC hD => ?_)
  refine g_aload_n0 dX3_init_90 rfl ?_
  refine g_bipush (v := 12) dX3_init_91 rfl rfl ?_
  refine n_newa1 hD (i := 128) (n := 12) (kn' := (8, 60)) (hN.at 128 rfl) rfl dX3_init_93 rfl w_ai rfl (Nat.le_of_ble_eq_true rfl) (Nat.le_of_ble_eq_true rfl) hC (hz.at 128 rfl) rfl ⟨Nat.le_of_ble_eq_true rfl, Nat.le_of_ble_eq_true rfl⟩ rfl (fun Γ93 hC hD => ?_)
  refine n_putF (L' := ([(128, .inr (1, 12)), (127, .inr (1, 12)), (126, .inr (1, 6)), (125, .inr (1, 6)), (124, .inr (1, 6)), (123, .inr (1, 6)), (122, .inr (1, 6)), (120, .inl (3, [none, none, none, none, none, none, some (some 121), some (some 122), some (some 123), some (some 124), some (some 125), some (some 126), some (some 127), some (some 128), some none, some none])), (121, .inr (1, 6))] : List (Nat × gSh))) hD (hD.o 7 rfl) rfl (hD.o 0 rfl).1 (t' := [none, none, none, none, none, none, some (some 121), some (some 122), some (some 123), some (some 124), some (some 125), some (some 126), some (some 127), some (some 128), some none, some none]) rfl (by decide +kernel) (fun _ _ _ h => h.1) dX3_init_95 rfl fX3_52 (fun C T N h => by cases h; rfl) (Nat.le_of_ble_eq_true rfl) (fun _ => rfl) (fun _ => rfl) hC (fun Γ95 hC hD => ?_)
  refine g_aload_n0 dX3_init_98 rfl ?_
  refine g_bipush (v := 64) dX3_init_99 rfl rfl ?_
  refine n_newa1 hD (i := 129) (n := 64) (kn' := (9, 124)) (hN.at 129 rfl) rfl dX3_init_101 rfl w_ai rfl (Nat.le_of_ble_eq_true rfl) (Nat.le_of_ble_eq_true rfl) hC (hz.at 129 rfl) rfl ⟨Nat.le_of_ble_eq_true rfl, Nat.le_of_ble_eq_true rfl⟩ rfl (fun Γ101 hC hD => ?_)
  refine n_putF (L' := ([(129, .inr (1, 64)), (128, .inr (1, 12)), (127, .inr (1, 12)), (126, .inr (1, 6)), (125, .inr (1, 6)), (124, .inr (1, 6)), (123, .inr (1, 6)), (122, .inr (1, 6)), (120, .inl (3, [none, none, none, none, none, none, some (some 121), some (some 122), some (some 123), some (some 124), some (some 125), some (some 126), some (some 127), some (some 128), some (some 129), some none])), (121, .inr (1, 6))] : List (Nat × gSh))) hD (hD.o 8 rfl) rfl (hD.o 0 rfl).1 (t' := [none, none, none, none, none, none, some (some 121), some (some 122), some (some 123), some (some 124), some (some 125), some (some 126), some (some 127), some (some 128), some (some 129), some none]) rfl (by decide +kernel) (fun _ _ _ h => h.1) dX3_init_103 rfl fX3_55 (fun C T N h => by cases h; rfl) (Nat.le_of_ble_eq_true rfl) (fun _ => rfl) (fun _ => rfl) hC (fun Γ103 hC hD => ?_)
  refine g_aload_n0 dX3_init_106 rfl ?_
  refine g_bipush (v := 64) dX3_init_107 rfl rfl ?_
  refine n_newa1 hD (i := 130) (n := 64) (kn' := (10, 188)) (hN.at 130 rfl) rfl dX3_init_109 rfl w_ai rfl (Nat.le_of_ble_eq_true rfl) (Nat.le_of_ble_eq_true rfl) hC (hz.at 130 rfl) rfl ⟨Nat.le_of_ble_eq_true rfl, Nat.le_of_ble_eq_true rfl⟩ rfl (fun Γ109 hC hD => ?_)
  refine n_putF (L' := ([(130, .inr (1, 64)), (129, .inr (1, 64)), (128, .inr (1, 12)), (127, .inr (1, 12)), (126, .inr (1, 6)), (125, .inr (1, 6)), (124, .inr (1, 6)), (123, .inr (1, 6)), (122, .inr (1, 6)), (120, .inl (3, [none, none, none, none, none, none, some (some 121), some (some 122), some (some 123), some (some 124), some (some 125), some (some 126), some (some 127), some (some 128), some (some 129), some (some 130)])), (121, .inr (1, 6))] : List (Nat × gSh))) hD (hD.o 9 rfl) rfl (hD.o 0 rfl).1 (t' := [none, none, none, none, none, none, some (some 121), some (some 122), some (some 123), some (some 124), some (some 125), some (some 126), some (some 127), some (some 128), some (some 129), some (some 130)]) rfl (by decide +kernel) (fun _ _ _ h => h.1) dX3_init_111 rfl fX3_58 (fun C T N h => by cases h; rfl) (Nat.le_of_ble_eq_true rfl) (fun _ => rfl) (fun _ => rfl) hC (fun Γ111 hC hD => ?_)
  exact g_vretN dX3_init_114 rfl ⟨Nat.le_of_ble_eq_true rfl, Nat.le_of_ble_eq_true rfl⟩ ⟨hD, hC, rfl⟩
def lT140 : List (Nat × gSh) := ([(150, .inr (1, 64)), (149, .inr (1, 64)), (148, .inr (1, 12)), (147, .inr (1, 12)), (146, .inr (1, 6)), (145, .inr (1, 6)), (144, .inr (1, 6)), (143, .inr (1, 6)), (142, .inr (1, 6)), (140, .inl (3, [none, none, none, none, none, none, some (some 141), some (some 142), some (some 143), some (some 144), some (some 145), some (some 146), some (some 147), some (some 148), some (some 149), some (some 150)])), (141, .inr (1, 6))] : List (Nat × gSh))
theorem k_T140 {Γ : gW} {M : gM} {d : Nat} (ho : g_o Γ 140 (.inl (3, nulX3))) (hN : gN0 [141, 142, 143, 144, 145, 146, 147, 148, 149, 150] Γ) (hC : gCl Γ M) (hz : gZ0 [140, 141, 142, 143, 144, 145, 146, 147, 148, 149, 150] M) : CtN PXN Γ yX3_init μX3_init d 10 188 [.ref 140] M (fun Γ' M' => gD Γ Γ' lT140 ∧ (gCl Γ' M' ∧ M' = M)) := by
  refine g_enterN (by decide +kernel) rfl rfl rfl (by decide) ?_
  show G _ _ _ _ _ _ [some (.ref 140)] _ _
  have hD : gD Γ Γ [] := gD.rf
  refine g_aload_n0 dX3_init_0 rfl ?_
  refine g_objInit dX3_init_1 rfl oi_X3 oi_i oi_c ⟨by show 1 ≤ d + 8; omega, by show 0 + 12 ≤ 150 + 50 * d; omega⟩ ?_
  refine g_aload_n0 dX3_init_4 rfl ?_
  refine g_iconst (v := 0) dX3_init_5 rfl rfl ?_
  refine n_put0 dX3_init_6 rfl fX3_9 (hD.old ho rfl) rfl rfl rfl (hz.at 140 rfl 0) ?_
  refine g_aload_n0 dX3_init_9 rfl ?_
  refine g_iconst (v := 0) dX3_init_10 rfl rfl ?_
  refine n_put0 dX3_init_11 rfl fX3_15 (hD.old ho rfl) rfl rfl rfl (hz.at 140 rfl 1) ?_
  refine g_aload_n0 dX3_init_14 rfl ?_
  refine g_iconst (v := 0) dX3_init_15 rfl rfl ?_
  refine n_put0 dX3_init_16 rfl fX3_18 (hD.old ho rfl) rfl rfl rfl (hz.at 140 rfl 2) ?_
  refine g_aload_n0 dX3_init_19 rfl ?_
  refine g_iconst (v := 0) dX3_init_20 rfl rfl ?_
  refine n_put0 dX3_init_21 rfl fX3_21 (hD.old ho rfl) rfl rfl rfl (hz.at 140 rfl 3) ?_
  refine g_aload_n0 dX3_init_24 rfl ?_
  refine g_iconst (v := 0) dX3_init_25 rfl rfl ?_
  refine n_put0 dX3_init_26 rfl fX3_24 (hD.old ho rfl) rfl rfl rfl (hz.at 140 rfl 4) ?_
  refine g_aload_n0 dX3_init_29 rfl ?_
  refine g_iconst (v := 0) dX3_init_30 rfl rfl ?_
  refine n_put0 dX3_init_31 rfl fX3_27 (hD.old ho rfl) rfl rfl rfl (hz.at 140 rfl 5) ?_
  refine g_aload_n0 dX3_init_34 rfl ?_
  refine g_bipush (v := 6) dX3_init_35 rfl rfl ?_
  refine n_newa1 hD (i := 141) (n := 6) (kn' := (1, 6)) (hN.at 141 rfl) rfl dX3_init_37 rfl w_ai rfl (Nat.le_of_ble_eq_true rfl) (Nat.le_of_ble_eq_true rfl) hC (hz.at 141 rfl) rfl ⟨Nat.le_of_ble_eq_true rfl, Nat.le_of_ble_eq_true rfl⟩ rfl (fun Γ37 hC hD => ?_)
  refine n_putF0 hD ho rfl (hD.o 0 rfl).1 (t' := [none, none, none, none, none, none, some (some 141), some none, some none, some none, some none, some none, some none, some none, some none, some none]) rfl (fun _ _ _ h => h.1) dX3_init_39 rfl fX3_30 (fun C T N h => by cases h; rfl) (Nat.le_of_ble_eq_true rfl) (fun _ => rfl) (fun _ => rfl) hC (fun Γ39 hC hD => ?_)
  refine g_aload_n0 dX3_init_42 rfl ?_
  refine g_bipush (v := 6) dX3_init_43 rfl rfl ?_
  refine n_newa1 hD (i := 142) (n := 6) (kn' := (2, 12)) (hN.at 142 rfl) rfl dX3_init_45 rfl w_ai rfl (Nat.le_of_ble_eq_true rfl) (Nat.le_of_ble_eq_true rfl) hC (hz.at 142 rfl) rfl ⟨Nat.le_of_ble_eq_true rfl, Nat.le_of_ble_eq_true rfl⟩ rfl (fun Γ45 hC hD => ?_)
  refine n_putF (L' := ([(142, .inr (1, 6)), (140, .inl (3, [none, none, none, none, none, none, some (some 141), some (some 142), some none, some none, some none, some none, some none, some none, some none, some none])), (141, .inr (1, 6))] : List (Nat × gSh))) hD (hD.o 1 rfl) rfl (hD.o 0 rfl).1 (t' := [none, none, none, none, none, none, some (some 141), some (some 142), some none, some none, some none, some none, some none, some none, some none, some none]) rfl (by decide +kernel) (fun _ _ _ h => h.1) dX3_init_47 rfl fX3_34 (fun C T N h => by cases h; rfl) (Nat.le_of_ble_eq_true rfl) (fun _ => rfl) (fun _ => rfl) hC (fun Γ47 hC hD => ?_)
  refine g_aload_n0 dX3_init_50 rfl ?_
  refine g_bipush (v := 6) dX3_init_51 rfl rfl ?_
  refine n_newa1 hD (i := 143) (n := 6) (kn' := (3, 18)) (hN.at 143 rfl) rfl dX3_init_53 rfl w_ai rfl (Nat.le_of_ble_eq_true rfl) (Nat.le_of_ble_eq_true rfl) hC (hz.at 143 rfl) rfl ⟨Nat.le_of_ble_eq_true rfl, Nat.le_of_ble_eq_true rfl⟩ rfl (fun Γ53 hC hD => ?_)
  refine n_putF (L' := ([(143, .inr (1, 6)), (142, .inr (1, 6)), (140, .inl (3, [none, none, none, none, none, none, some (some 141), some (some 142), some (some 143), some none, some none, some none, some none, some none, some none, some none])), (141, .inr (1, 6))] : List (Nat × gSh))) hD (hD.o 2 rfl) rfl (hD.o 0 rfl).1 (t' := [none, none, none, none, none, none, some (some 141), some (some 142), some (some 143), some none, some none, some none, some none, some none, some none, some none]) rfl (by decide +kernel) (fun _ _ _ h => h.1) dX3_init_55 rfl fX3_37 (fun C T N h => by cases h; rfl) (Nat.le_of_ble_eq_true rfl) (fun _ => rfl) (fun _ => rfl) hC (fun Γ55 hC hD => ?_)
  refine g_aload_n0 dX3_init_58 rfl ?_
  refine g_bipush (v := 6) dX3_init_59 rfl rfl ?_
  refine n_newa1 hD (i := 144) (n := 6) (kn' := (4, 24)) (hN.at 144 rfl) rfl dX3_init_61 rfl w_ai rfl (Nat.le_of_ble_eq_true rfl) (Nat.le_of_ble_eq_true rfl) hC (hz.at 144 rfl) rfl ⟨Nat.le_of_ble_eq_true rfl, Nat.le_of_ble_eq_true rfl⟩ rfl (fun Γ61 hC hD => ?_)
  refine n_putF (L' := ([(144, .inr (1, 6)), (143, .inr (1, 6)), (142, .inr (1, 6)), (140, .inl (3, [none, none, none, none, none, none, some (some 141), some (some 142), some (some 143), some (some 144), some none, some none, some none, some none, some none, some none])), (141, .inr (1, 6))] : List (Nat × gSh))) hD (hD.o 3 rfl) rfl (hD.o 0 rfl).1 (t' := [none, none, none, none, none, none, some (some 141), some (some 142), some (some 143), some (some 144), some none, some none, some none, some none, some none, some none]) rfl (by decide +kernel) (fun _ _ _ h => h.1) dX3_init_63 rfl fX3_40 (fun C T N h => by cases h; rfl) (Nat.le_of_ble_eq_true rfl) (fun _ => rfl) (fun _ => rfl) hC (fun Γ63 hC hD => ?_)
  refine g_aload_n0 dX3_init_66 rfl ?_
  refine g_bipush (v := 6) dX3_init_67 rfl rfl ?_
  refine n_newa1 hD (i := 145) (n := 6) (kn' := (5, 30)) (hN.at 145 rfl) rfl dX3_init_69 rfl w_ai rfl (Nat.le_of_ble_eq_true rfl) (Nat.le_of_ble_eq_true rfl) hC (hz.at 145 rfl) rfl ⟨Nat.le_of_ble_eq_true rfl, Nat.le_of_ble_eq_true rfl⟩ rfl (fun Γ69 hC hD => ?_)
  refine n_putF (L' := ([(145, .inr (1, 6)), (144, .inr (1, 6)), (143, .inr (1, 6)), (142, .inr (1, 6)), (140, .inl (3, [none, none, none, none, none, none, some (some 141), some (some 142), some (some 143), some (some 144), some (some 145), some none, some none, some none, some none, some none])), (141, .inr (1, 6))] : List (Nat × gSh))) hD (hD.o 4 rfl) rfl (hD.o 0 rfl).1 (t' := [none, none, none, none, none, none, some (some 141), some (some 142), some (some 143), some (some 144), some (some 145), some none, some none, some none, some none, some none]) rfl (by decide +kernel) (fun _ _ _ h => h.1) dX3_init_71 rfl fX3_43 (fun C T N h => by cases h; rfl) (Nat.le_of_ble_eq_true rfl) (fun _ => rfl) (fun _ => rfl) hC (fun Γ71 hC hD => ?_)
  refine g_aload_n0 dX3_init_74 rfl ?_
  refine g_bipush (v := 6) dX3_init_75 rfl rfl ?_
  refine n_newa1 hD (i := 146) (n := 6) (kn' := (6, 36)) (hN.at 146 rfl) rfl dX3_init_77 rfl w_ai rfl (Nat.le_of_ble_eq_true rfl) (Nat.le_of_ble_eq_true rfl) hC (hz.at 146 rfl) rfl ⟨Nat.le_of_ble_eq_true rfl, Nat.le_of_ble_eq_true rfl⟩ rfl (fun Γ77 hC hD => ?_)
  refine n_putF (L' := ([(146, .inr (1, 6)), (145, .inr (1, 6)), (144, .inr (1, 6)), (143, .inr (1, 6)), (142, .inr (1, 6)), (140, .inl (3, [none, none, none, none, none, none, some (some 141), some (some 142), some (some 143), some (some 144), some (some 145), some (some 146), some none, some none, some none, some none])), (141, .inr (1, 6))] : List (Nat × gSh))) hD (hD.o 5 rfl) rfl (hD.o 0 rfl).1 (t' := [none, none, none, none, none, none, some (some 141), some (some 142), some (some 143), some (some 144), some (some 145), some (some 146), some none, some none, some none, some none]) rfl (by decide +kernel) (fun _ _ _ h => h.1) dX3_init_79 rfl fX3_46 (fun C T N h => by cases h; rfl) (Nat.le_of_ble_eq_true rfl) (fun _ => rfl) (fun _ => rfl) hC (fun Γ79 hC hD => ?_)
  refine g_aload_n0 dX3_init_82 rfl ?_
  refine g_bipush (v := 12) dX3_init_83 rfl rfl ?_
  refine n_newa1 hD (i := 147) (n := 12) (kn' := (7, 48)) (hN.at 147 rfl) rfl dX3_init_85 rfl w_ai rfl (Nat.le_of_ble_eq_true rfl) (Nat.le_of_ble_eq_true rfl) hC (hz.at 147 rfl) rfl ⟨Nat.le_of_ble_eq_true rfl, Nat.le_of_ble_eq_true rfl⟩ rfl (fun Γ85 hC hD => ?_)
  refine n_putF (L' := ([(147, .inr (1, 12)), (146, .inr (1, 6)), (145, .inr (1, 6)), (144, .inr (1, 6)), (143, .inr (1, 6)), (142, .inr (1, 6)), (140, .inl (3, [none, none, none, none, none, none, some (some 141), some (some 142), some (some 143), some (some 144), some (some 145), some (some 146), some (some 147), some none, some none, some none])), (141, .inr (1, 6))] : List (Nat × gSh))) hD (hD.o 6 rfl) rfl (hD.o 0 rfl).1 (t' := [none, none, none, none, none, none, some (some 141), some (some 142), some (some 143), some (some 144), some (some 145), some (some 146), some (some 147), some none, some none, some none]) rfl (by decide +kernel) (fun _ _ _ h => h.1) dX3_init_87 rfl fX3_49 (fun C T N h => by cases h; rfl) (Nat.le_of_ble_eq_true rfl) (fun _ => rfl) (fun _ => rfl) hC (fun Γ87 hC hD => ?_)
  refine g_aload_n0 dX3_init_90 rfl ?_
  refine g_bipush (v := 12) dX3_init_91 rfl rfl ?_
  refine n_newa1 hD (i := 148) (n := 12) (kn' := (8, 60)) (hN.at 148 rfl) rfl dX3_init_93 rfl w_ai rfl (Nat.le_of_ble_eq_true rfl) (Nat.le_of_ble_eq_true rfl) hC (hz.at 148 rfl) rfl ⟨Nat.le_of_ble_eq_true rfl, Nat.le_of_ble_eq_true rfl⟩ rfl (fun Γ93 hC hD => ?_)
  refine n_putF (L' := ([(148, .inr (1, 12)), (147, .inr (1, 12)), (146, .inr (1, 6)), (145, .inr (1, 6)), (144, .inr (1, 6)), (143, .inr (1, 6)), (142, .inr (1, 6)), (140, .inl (3, [none, none, none, none, none, none, some (some 141), some (some 142), some (some 143), some (some 144), some (some 145), some (some 146), some (some 147), some (some 148), some none, some none])), (141, .inr (1, 6))] : List (Nat × gSh))) hD (hD.o 7 rfl) rfl (hD.o 0 rfl).1 (t' := [none, none, none, none, none, none, some (some 141), some (some 142), some (some 143), some (some 144), some (some 145), some (some 146), some (some 147), some (some 148), some none, some none]) rfl (by decide +kernel) (fun _ _ _ h => h.1) dX3_init_95 rfl fX3_52 (fun C T N h => by cases h; rfl) (Nat.le_of_ble_eq_true rfl) (fun _ => rfl) (fun _ => rfl) hC (fun Γ95 hC hD => ?_)
  refine g_aload_n0 dX3_init_98 rfl ?_
  refine g_bipush (v := 64) dX3_init_99 rfl rfl ?_
  refine n_newa1 hD (i := 149) (n := 64) (kn' := (9, 124)) (hN.at 149 rfl) rfl dX3_init_101 rfl w_ai rfl (Nat.le_of_ble_eq_true rfl) (Nat.le_of_ble_eq_true rfl) hC (hz.at 149 rfl) rfl ⟨Nat.le_of_ble_eq_true rfl, Nat.le_of_ble_eq_true rfl⟩ rfl (fun Γ101 hC hD => ?_)
  refine n_putF (L' := ([(149, .inr (1, 64)), (148, .inr (1, 12)), (147, .inr (1, 12)), (146, .inr (1, 6)), (145, .inr (1, 6)), (144, .inr (1, 6)), (143, .inr (1, 6)), (142, .inr (1, 6)), (140, .inl (3, [none, none, none, none, none, none, some (some 141), some (some 142), some (some 143), some (some 144), some (some 145), some (some 146), some (some 147), some (some 148), some (some 149), some none])), (141, .inr (1, 6))] : List (Nat × gSh))) hD (hD.o 8 rfl) rfl (hD.o 0 rfl).1 (t' := [none, none, none, none, none, none, some (some 141), some (some 142), some (some 143), some (some 144), some (some 145), some (some 146), some (some 147), some (some 148), some (some 149), some none]) rfl (by decide +kernel) (fun _ _ _ h => h.1) dX3_init_103 rfl fX3_55 (fun C T N h => by cases h; rfl) (Nat.le_of_ble_eq_true rfl) (fun _ => rfl) (fun _ => rfl) hC (fun Γ103 hC hD => ?_)
  refine g_aload_n0 dX3_init_106 rfl ?_
  refine g_bipush (v := 64) dX3_init_107 rfl rfl ?_
  refine n_newa1 hD (i := 150) (n := 64) (kn' := (10, 188)) (hN.at 150 rfl) rfl dX3_init_109 rfl w_ai rfl (Nat.le_of_ble_eq_true rfl) (Nat.le_of_ble_eq_true rfl) hC (hz.at 150 rfl) rfl ⟨Nat.le_of_ble_eq_true rfl, Nat.le_of_ble_eq_true rfl⟩ rfl (fun Γ109 hC hD => ?_)
  refine n_putF (L' := ([(150, .inr (1, 64)), (149, .inr (1, 64)), (148, .inr (1, 12)), (147, .inr (1, 12)), (146, .inr (1, 6)), (145, .inr (1, 6)), (144, .inr (1, 6)), (143, .inr (1, 6)), (142, .inr (1, 6)), (140, .inl (3, [none, none, none, none, none, none, some (some 141), some (some 142), some (some 143), some (some 144), some (some 145), some (some 146), some (some 147), some (some 148), some (some 149), some (some 150)])), (141, .inr (1, 6))] : List (Nat × gSh))) hD (hD.o 9 rfl) rfl (hD.o 0 rfl).1 (t' := [none, none, none, none, none, none, some (some 141), some (some 142), some (some 143), some (some 144), some (some 145), some (some 146), some (some 147), some (some 148), some (some 149), some (some 150)]) rfl (by decide +kernel) (fun _ _ _ h => h.1) dX3_init_111 rfl fX3_58 (fun C T N h => by cases h; rfl) (Nat.le_of_ble_eq_true rfl) (fun _ => rfl) (fun _ => rfl) hC (fun Γ111 hC hD => ?_)
  exact g_vretN dX3_init_114 rfl ⟨Nat.le_of_ble_eq_true rfl, Nat.le_of_ble_eq_true rfl⟩ ⟨hD, hC, rfl⟩
def lT160 : List (Nat × gSh) := ([(170, .inr (1, 64)), (169, .inr (1, 64)), (168, .inr (1, 12)), (167, .inr (1, 12)), (166, .inr (1, 6)), (165, .inr (1, 6)), (164, .inr (1, 6)), (163, .inr (1, 6)), (162, .inr (1, 6)), (160, .inl (3, [none, none, none, none, none, none, some (some 161), some (some 162), some (some 163), some (some 164), some (some 165), some (some 166), some (some 167), some (some 168), some (some 169), some (some 170)])), (161, .inr (1, 6))] : List (Nat × gSh))
theorem k_T160 {Γ : gW} {M : gM} {d : Nat} (ho : g_o Γ 160 (.inl (3, nulX3))) (hN : gN0 [161, 162, 163, 164, 165, 166, 167, 168, 169, 170] Γ) (hC : gCl Γ M) (hz : gZ0 [160, 161, 162, 163, 164, 165, 166, 167, 168, 169, 170] M) : CtN PXN Γ yX3_init μX3_init d 10 188 [.ref 160] M (fun Γ' M' => gD Γ Γ' lT160 ∧ (gCl Γ' M' ∧ M' = M)) := by
  refine g_enterN (by decide +kernel) rfl rfl rfl (by decide) ?_
  show G _ _ _ _ _ _ [some (.ref 160)] _ _
  have hD : gD Γ Γ [] := gD.rf
  refine g_aload_n0 dX3_init_0 rfl ?_
  refine g_objInit dX3_init_1 rfl oi_X3 oi_i oi_c ⟨by show 1 ≤ d + 8; omega, by show 0 + 12 ≤ 150 + 50 * d; omega⟩ ?_
  refine g_aload_n0 dX3_init_4 rfl ?_
  refine g_iconst (v := 0) dX3_init_5 rfl rfl ?_
  refine n_put0 dX3_init_6 rfl fX3_9 (hD.old ho rfl) rfl rfl rfl (hz.at 160 rfl 0) ?_
  refine g_aload_n0 dX3_init_9 rfl ?_
  refine g_iconst (v := 0) dX3_init_10 rfl rfl ?_
  refine n_put0 dX3_init_11 rfl fX3_15 (hD.old ho rfl) rfl rfl rfl (hz.at 160 rfl 1) ?_
  refine g_aload_n0 dX3_init_14 rfl ?_
  refine g_iconst (v := 0) dX3_init_15 rfl rfl ?_
  refine n_put0 dX3_init_16 rfl fX3_18 (hD.old ho rfl) rfl rfl rfl (hz.at 160 rfl 2) ?_
  refine g_aload_n0 dX3_init_19 rfl ?_
  refine g_iconst (v := 0) dX3_init_20 rfl rfl ?_
  refine n_put0 dX3_init_21 rfl fX3_21 (hD.old ho rfl) rfl rfl rfl (hz.at 160 rfl 3) ?_
  refine g_aload_n0 dX3_init_24 rfl ?_
  refine g_iconst (v := 0) dX3_init_25 rfl rfl ?_
  refine n_put0 dX3_init_26 rfl fX3_24 (hD.old ho rfl) rfl rfl rfl (hz.at 160 rfl 4) ?_
  refine g_aload_n0 dX3_init_29 rfl ?_
  refine g_iconst (v := 0) dX3_init_30 rfl rfl ?_
  refine n_put0 dX3_init_31 rfl fX3_27 (hD.old ho rfl) rfl rfl rfl (hz.at 160 rfl 5) ?_
  refine g_aload_n0 dX3_init_34 rfl ?_
  refine g_bipush (v := 6) dX3_init_35 rfl rfl ?_
  refine n_newa1 hD (i := 161) (n := 6) (kn' := (1, 6)) (hN.at 161 rfl) rfl dX3_init_37 rfl w_ai rfl (Nat.le_of_ble_eq_true rfl) (Nat.le_of_ble_eq_true rfl) hC (hz.at 161 rfl) rfl ⟨Nat.le_of_ble_eq_true rfl, Nat.le_of_ble_eq_true rfl⟩ rfl (fun Γ37 hC hD => ?_)
  refine n_putF0 hD ho rfl (hD.o 0 rfl).1 (t' := [none, none, none, none, none, none, some (some 161), some none, some none, some none, some none, some none, some none, some none, some none, some none]) rfl (fun _ _ _ h => h.1) dX3_init_39 rfl fX3_30 (fun C T N h => by cases h; rfl) (Nat.le_of_ble_eq_true rfl) (fun _ => rfl) (fun _ => rfl) hC (fun Γ39 hC hD => ?_)
  refine g_aload_n0 dX3_init_42 rfl ?_
  refine g_bipush (v := 6) dX3_init_43 rfl rfl ?_
  refine n_newa1 hD (i := 162) (n := 6) (kn' := (2, 12)) (hN.at 162 rfl) rfl dX3_init_45 rfl w_ai rfl (Nat.le_of_ble_eq_true rfl) (Nat.le_of_ble_eq_true rfl) hC (hz.at 162 rfl) rfl ⟨Nat.le_of_ble_eq_true rfl, Nat.le_of_ble_eq_true rfl⟩ rfl (fun Γ45 hC hD => ?_)
  refine n_putF (L' := ([(162, .inr (1, 6)), (160, .inl (3, [none, none, none, none, none, none, some (some 161), some (some 162), some none, some none, some none, some none, some none, some none, some none, some none])), (161, .inr (1, 6))] : List (Nat × gSh))) hD (hD.o 1 rfl) rfl (hD.o 0 rfl).1 (t' := [none, none, none, none, none, none, some (some 161), some (some 162), some none, some none, some none, some none, some none, some none, some none, some none]) rfl (by decide +kernel) (fun _ _ _ h => h.1) dX3_init_47 rfl fX3_34 (fun C T N h => by cases h; rfl) (Nat.le_of_ble_eq_true rfl) (fun _ => rfl) (fun _ => rfl) hC (fun Γ47 hC hD => ?_)
  refine g_aload_n0 dX3_init_50 rfl ?_
  refine g_bipush (v := 6) dX3_init_51 rfl rfl ?_
  refine n_newa1 hD (i := 163) (n := 6) (kn' := (3, 18)) (hN.at 163 rfl) rfl dX3_init_53 rfl w_ai rfl (Nat.le_of_ble_eq_true rfl) (Nat.le_of_ble_eq_true rfl) hC (hz.at 163 rfl) rfl ⟨Nat.le_of_ble_eq_true rfl, Nat.le_of_ble_eq_true rfl⟩ rfl (fun Γ53 hC hD => ?_)
  refine n_putF (L' := ([(163, .inr (1, 6)), (162, .inr (1, 6)), (160, .inl (3, [none, none, none, none, none, none, some (some 161), some (some 162), some (some 163), some none, some none, some none, some none, some none, some none, some none])), (161, .inr (1, 6))] : List (Nat × gSh))) hD (hD.o 2 rfl) rfl (hD.o 0 rfl).1 (t' := [none, none, none, none, none, none, some (some 161), some (some 162), some (some 163), some none, some none, some none, some none, some none, some none, some none]) rfl (by decide +kernel) (fun _ _ _ h => h.1) dX3_init_55 rfl fX3_37 (fun C T N h => by cases h; rfl) (Nat.le_of_ble_eq_true rfl) (fun _ => rfl) (fun _ => rfl) hC (fun Γ55 hC hD => ?_)
  refine g_aload_n0 dX3_init_58 rfl ?_
  refine g_bipush (v := 6) dX3_init_59 rfl rfl ?_
  refine n_newa1 hD (i := 164) (n := 6) (kn' := (4, 24)) (hN.at 164 rfl) rfl dX3_init_61 rfl w_ai rfl (Nat.le_of_ble_eq_true rfl) (Nat.le_of_ble_eq_true rfl) hC (hz.at 164 rfl) rfl ⟨Nat.le_of_ble_eq_true rfl, Nat.le_of_ble_eq_true rfl⟩ rfl (fun Γ61 hC hD => ?_)
  refine n_putF (L' := ([(164, .inr (1, 6)), (163, .inr (1, 6)), (162, .inr (1, 6)), (160, .inl (3, [none, none, none, none, none, none, some (some 161), some (some 162), some (some 163), some (some 164), some none, some none, some none, some none, some none, some none])), (161, .inr (1, 6))] : List (Nat × gSh))) hD (hD.o 3 rfl) rfl (hD.o 0 rfl).1 (t' := [none, none, none, none, none, none, some (some 161), some (some 162), some (some 163), some (some 164), some none, some none, some none, some none, some none, some none]) rfl (by decide +kernel) (fun _ _ _ h => h.1) dX3_init_63 rfl fX3_40 (fun C T N h => by cases h; rfl) (Nat.le_of_ble_eq_true rfl) (fun _ => rfl) (fun _ => rfl) hC (fun Γ63 hC hD => ?_)
  refine g_aload_n0 dX3_init_66 rfl ?_
  refine g_bipush (v := 6) dX3_init_67 rfl rfl ?_
  refine n_newa1 hD (i := 165) (n := 6) (kn' := (5, 30)) (hN.at 165 rfl) rfl dX3_init_69 rfl w_ai rfl (Nat.le_of_ble_eq_true rfl) (Nat.le_of_ble_eq_true rfl) hC (hz.at 165 rfl) rfl ⟨Nat.le_of_ble_eq_true rfl, Nat.le_of_ble_eq_true rfl⟩ rfl (fun Γ69 hC hD => ?_)
  refine n_putF (L' := ([(165, .inr (1, 6)), (164, .inr (1, 6)), (163, .inr (1, 6)), (162, .inr (1, 6)), (160, .inl (3, [none, none, none, none, none, none, some (some 161), some (some 162), some (some 163), some (some 164), some (some 165), some none, some none, some none, some none, some none])), (161, .inr (1, 6))] : List (Nat × gSh))) hD (hD.o 4 rfl) rfl (hD.o 0 rfl).1 (t' := [none, none, none, none, none, none, some (some 161), some (some 162), some (some 163), some (some 164), some (some 165), some none, some none, some none, some none, some none]) rfl (by decide +kernel) (fun _ _ _ h => h.1) dX3_init_71 rfl fX3_43 (fun C T N h => by cases h; rfl) (Nat.le_of_ble_eq_true rfl) (fun _ => rfl) (fun _ => rfl) hC (fun Γ71 hC hD => ?_)
  refine g_aload_n0 dX3_init_74 rfl ?_
  refine g_bipush (v := 6) dX3_init_75 rfl rfl ?_
  refine n_newa1 hD (i := 166) (n := 6) (kn' := (6, 36)) (hN.at 166 rfl) rfl dX3_init_77 rfl w_ai rfl (Nat.le_of_ble_eq_true rfl) (Nat.le_of_ble_eq_true rfl) hC (hz.at 166 rfl) rfl ⟨Nat.le_of_ble_eq_true rfl, Nat.le_of_ble_eq_true rfl⟩ rfl (fun Γ77 hC hD => ?_)
  refine n_putF (L' := ([(166, .inr (1, 6)), (165, .inr (1, 6)), (164, .inr (1, 6)), (163, .inr (1, 6)), (162, .inr (1, 6)), (160, .inl (3, [none, none, none, none, none, none, some (some 161), some (some 162), some (some 163), some (some 164), some (some 165), some (some 166), some none, some none, some none, some none])), (161, .inr (1, 6))] : List (Nat × gSh))) hD (hD.o 5 rfl) rfl (hD.o 0 rfl).1 (t' := [none, none, none, none, none, none, some (some 161), some (some 162), some (some 163), some (some 164), some (some 165), some (some 166), some none, some none, some none, some none]) rfl (by decide +kernel) (fun _ _ _ h => h.1) dX3_init_79 rfl fX3_46 (fun C T N h => by cases h; rfl) (Nat.le_of_ble_eq_true rfl) (fun _ => rfl) (fun _ => rfl) hC (fun Γ79 hC hD => ?_)
  refine g_aload_n0 dX3_init_82 rfl ?_
  refine g_bipush (v := 12) dX3_init_83 rfl rfl ?_
  refine n_newa1 hD (i := 167) (n := 12) (kn' := (7, 48)) (hN.at 167 rfl) rfl dX3_init_85 rfl w_ai rfl (Nat.le_of_ble_eq_true rfl) (Nat.le_of_ble_eq_true rfl) hC (hz.at 167 rfl) rfl ⟨Nat.le_of_ble_eq_true rfl, Nat.le_of_ble_eq_true rfl⟩ rfl (fun Γ85 hC hD => ?_)
  refine n_putF (L' := ([(167, .inr (1, 12)), (166, .inr (1, 6)), (165, .inr (1, 6)), (164, .inr (1, 6)), (163, .inr (1, 6)), (162, .inr (1, 6)), (160, .inl (3, [none, none, none, none, none, none, some (some 161), some (some 162), some (some 163), some (some 164), some (some 165), some (some 166), some (some 167), some none, some none, some none])), (161, .inr (1, 6))] : List (Nat × gSh))) hD (hD.o 6 rfl) rfl (hD.o 0 rfl).1 (t' := [none, none, none, none, none, none, some (some 161), some (some 162), some (some 163), some (some 164), some (some 165), some (some 166), some (some 167), some none, some none, some none]) rfl (by decide +kernel) (fun _ _ _ h => h.1) dX3_init_87 rfl fX3_49 (fun C T N h => by cases h; rfl) (Nat.le_of_ble_eq_true rfl) (fun _ => rfl) (fun _ => rfl) hC (fun Γ87 hC hD => ?_)
  refine g_aload_n0 dX3_init_90 rfl ?_
  refine g_bipush (v := 12) dX3_init_91 rfl rfl ?_
  refine n_newa1 hD (i := 168) (n := 12) (kn' := (8, 60)) (hN.at 168 rfl) rfl dX3_init_93 rfl w_ai rfl (Nat.le_of_ble_eq_true rfl) (Nat.le_of_ble_eq_true rfl) hC (hz.at 168 rfl) rfl ⟨Nat.le_of_ble_eq_true rfl, Nat.le_of_ble_eq_true rfl⟩ rfl (fun Γ93 hC hD => ?_)
  refine n_putF (L' := ([(168, .inr (1, 12)), (167, .inr (1, 12)), (166, .inr (1, 6)), (165, .inr (1, 6)), (164, .inr (1, 6)), (163, .inr (1, 6)), (162, .inr (1, 6)), (160, .inl (3, [none, none, none, none, none, none, some (some 161), some (some 162), some (some 163), some (some 164), some (some 165), some (some 166), some (some 167), some (some 168), some none, some none])), (161, .inr (1, 6))] : List (Nat × gSh))) hD (hD.o 7 rfl) rfl (hD.o 0 rfl).1 (t' := [none, none, none, none, none, none, some (some 161), some (some 162), some (some 163), some (some 164), some (some 165), some (some 166), some (some 167), some (some 168), some none, some none]) rfl (by decide +kernel) (fun _ _ _ h => h.1) dX3_init_95 rfl fX3_52 (fun C T N h => by cases h; rfl) (Nat.le_of_ble_eq_true rfl) (fun _ => rfl) (fun _ => rfl) hC (fun Γ95 hC hD => ?_)
  refine g_aload_n0 dX3_init_98 rfl ?_
  refine g_bipush (v := 64) dX3_init_99 rfl rfl ?_
  refine n_newa1 hD (i := 169) (n := 64) (kn' := (9, 124)) (hN.at 169 rfl) rfl dX3_init_101 rfl w_ai rfl (Nat.le_of_ble_eq_true rfl) (Nat.le_of_ble_eq_true rfl) hC (hz.at 169 rfl) rfl ⟨Nat.le_of_ble_eq_true rfl, Nat.le_of_ble_eq_true rfl⟩ rfl (fun Γ101 hC hD => ?_)
  refine n_putF (L' := ([(169, .inr (1, 64)), (168, .inr (1, 12)), (167, .inr (1, 12)), (166, .inr (1, 6)), (165, .inr (1, 6)), (164, .inr (1, 6)), (163, .inr (1, 6)), (162, .inr (1, 6)), (160, .inl (3, [none, none, none, none, none, none, some (some 161), some (some 162), some (some 163), some (some 164), some (some 165), some (some 166), some (some 167), some (some 168), some (some 169), some none])), (161, .inr (1, 6))] : List (Nat × gSh))) hD (hD.o 8 rfl) rfl (hD.o 0 rfl).1 (t' := [none, none, none, none, none, none, some (some 161), some (some 162), some (some 163), some (some 164), some (some 165), some (some 166), some (some 167), some (some 168), some (some 169), some none]) rfl (by decide +kernel) (fun _ _ _ h => h.1) dX3_init_103 rfl fX3_55 (fun C T N h => by cases h; rfl) (Nat.le_of_ble_eq_true rfl) (fun _ => rfl) (fun _ => rfl) hC (fun Γ103 hC hD => ?_)
  refine g_aload_n0 dX3_init_106 rfl ?_
  refine g_bipush (v := 64) dX3_init_107 rfl rfl ?_
  refine n_newa1 hD (i := 170) (n := 64) (kn' := (10, 188)) (hN.at 170 rfl) rfl dX3_init_109 rfl w_ai rfl (Nat.le_of_ble_eq_true rfl) (Nat.le_of_ble_eq_true rfl) hC (hz.at 170 rfl) rfl ⟨Nat.le_of_ble_eq_true rfl, Nat.le_of_ble_eq_true rfl⟩ rfl (fun Γ109 hC hD => ?_)
  refine n_putF (L' := ([(170, .inr (1, 64)), (169, .inr (1, 64)), (168, .inr (1, 12)), (167, .inr (1, 12)), (166, .inr (1, 6)), (165, .inr (1, 6)), (164, .inr (1, 6)), (163, .inr (1, 6)), (162, .inr (1, 6)), (160, .inl (3, [none, none, none, none, none, none, some (some 161), some (some 162), some (some 163), some (some 164), some (some 165), some (some 166), some (some 167), some (some 168), some (some 169), some (some 170)])), (161, .inr (1, 6))] : List (Nat × gSh))) hD (hD.o 9 rfl) rfl (hD.o 0 rfl).1 (t' := [none, none, none, none, none, none, some (some 161), some (some 162), some (some 163), some (some 164), some (some 165), some (some 166), some (some 167), some (some 168), some (some 169), some (some 170)]) rfl (by decide +kernel) (fun _ _ _ h => h.1) dX3_init_111 rfl fX3_58 (fun C T N h => by cases h; rfl) (Nat.le_of_ble_eq_true rfl) (fun _ => rfl) (fun _ => rfl) hC (fun Γ111 hC hD => ?_)
  exact g_vretN dX3_init_114 rfl ⟨Nat.le_of_ble_eq_true rfl, Nat.le_of_ble_eq_true rfl⟩ ⟨hD, hC, rfl⟩
def lT180 : List (Nat × gSh) := ([(190, .inr (1, 64)), (189, .inr (1, 64)), (188, .inr (1, 12)), (187, .inr (1, 12)), (186, .inr (1, 6)), (185, .inr (1, 6)), (184, .inr (1, 6)), (183, .inr (1, 6)), (182, .inr (1, 6)), (180, .inl (3, [none, none, none, none, none, none, some (some 181), some (some 182), some (some 183), some (some 184), some (some 185), some (some 186), some (some 187), some (some 188), some (some 189), some (some 190)])), (181, .inr (1, 6))] : List (Nat × gSh))
theorem k_T180 {Γ : gW} {M : gM} {d : Nat} (ho : g_o Γ 180 (.inl (3, nulX3))) (hN : gN0 [181, 182, 183, 184, 185, 186, 187, 188, 189, 190] Γ) (hC : gCl Γ M) (hz : gZ0 [180, 181, 182, 183, 184, 185, 186, 187, 188, 189, 190] M) : CtN PXN Γ yX3_init μX3_init d 10 188 [.ref 180] M (fun Γ' M' => gD Γ Γ' lT180 ∧ (gCl Γ' M' ∧ M' = M)) := by
  refine g_enterN (by decide +kernel) rfl rfl rfl (by decide) ?_
  show G _ _ _ _ _ _ [some (.ref 180)] _ _
  have hD : gD Γ Γ [] := gD.rf
  refine g_aload_n0 dX3_init_0 rfl ?_
  refine g_objInit dX3_init_1 rfl oi_X3 oi_i oi_c ⟨by show 1 ≤ d + 8; omega, by show 0 + 12 ≤ 150 + 50 * d; omega⟩ ?_
  refine g_aload_n0 dX3_init_4 rfl ?_
  refine g_iconst (v := 0) dX3_init_5 rfl rfl ?_
  refine n_put0 dX3_init_6 rfl fX3_9 (hD.old ho rfl) rfl rfl rfl (hz.at 180 rfl 0) ?_
  refine g_aload_n0 dX3_init_9 rfl ?_
  refine g_iconst (v := 0) dX3_init_10 rfl rfl ?_
  refine n_put0 dX3_init_11 rfl fX3_15 (hD.old ho rfl) rfl rfl rfl (hz.at 180 rfl 1) ?_
  refine g_aload_n0 dX3_init_14 rfl ?_
  refine g_iconst (v := 0) dX3_init_15 rfl rfl ?_
  refine n_put0 dX3_init_16 rfl fX3_18 (hD.old ho rfl) rfl rfl rfl (hz.at 180 rfl 2) ?_
  refine g_aload_n0 dX3_init_19 rfl ?_
  refine g_iconst (v := 0) dX3_init_20 rfl rfl ?_
  refine n_put0 dX3_init_21 rfl fX3_21 (hD.old ho rfl) rfl rfl rfl (hz.at 180 rfl 3) ?_
  refine g_aload_n0 dX3_init_24 rfl ?_
  refine g_iconst (v := 0) dX3_init_25 rfl rfl ?_
  refine n_put0 dX3_init_26 rfl fX3_24 (hD.old ho rfl) rfl rfl rfl (hz.at 180 rfl 4) ?_
  refine g_aload_n0 dX3_init_29 rfl ?_
  refine g_iconst (v := 0) dX3_init_30 rfl rfl ?_
  refine n_put0 dX3_init_31 rfl fX3_27 (hD.old ho rfl) rfl rfl rfl (hz.at 180 rfl 5) ?_
  refine g_aload_n0 dX3_init_34 rfl ?_
  refine g_bipush (v := 6) dX3_init_35 rfl rfl ?_
  refine n_newa1 hD (i := 181) (n := 6) (kn' := (1, 6)) (hN.at 181 rfl) rfl dX3_init_37 rfl w_ai rfl (Nat.le_of_ble_eq_true rfl) (Nat.le_of_ble_eq_true rfl) hC (hz.at 181 rfl) rfl ⟨Nat.le_of_ble_eq_true rfl, Nat.le_of_ble_eq_true rfl⟩ rfl (fun Γ37 hC hD => ?_)
  refine n_putF0 hD ho rfl (hD.o 0 rfl).1 (t' := [none, none, none, none, none, none, some (some 181), some none, some none, some none, some none, some none, some none, some none, some none, some none]) rfl (fun _ _ _ h => h.1) dX3_init_39 rfl fX3_30 (fun C T N h => by cases h; rfl) (Nat.le_of_ble_eq_true rfl) (fun _ => rfl) (fun _ => rfl) hC (fun Γ39 hC hD => ?_)
  refine g_aload_n0 dX3_init_42 rfl ?_
  refine g_bipush (v := 6) dX3_init_43 rfl rfl ?_
  refine n_newa1 hD (i := 182) (n := 6) (kn' := (2, 12)) (hN.at 182 rfl) rfl dX3_init_45 rfl w_ai rfl (Nat.le_of_ble_eq_true rfl) (Nat.le_of_ble_eq_true rfl) hC (hz.at 182 rfl) rfl ⟨Nat.le_of_ble_eq_true rfl, Nat.le_of_ble_eq_true rfl⟩ rfl (fun Γ45 hC hD => ?_)
  refine n_putF (L' := ([(182, .inr (1, 6)), (180, .inl (3, [none, none, none, none, none, none, some (some 181), some (some 182), some none, some none, some none, some none, some none, some none, some none, some none])), (181, .inr (1, 6))] : List (Nat × gSh))) hD (hD.o 1 rfl) rfl (hD.o 0 rfl).1 (t' := [none, none, none, none, none, none, some (some 181), some (some 182), some none, some none, some none, some none, some none, some none, some none, some none]) rfl (by decide +kernel) (fun _ _ _ h => h.1) dX3_init_47 rfl fX3_34 (fun C T N h => by cases h; rfl) (Nat.le_of_ble_eq_true rfl) (fun _ => rfl) (fun _ => rfl) hC (fun Γ47 hC hD => ?_)
  refine g_aload_n0 dX3_init_50 rfl ?_
  refine g_bipush (v := 6) dX3_init_51 rfl rfl ?_
  refine n_newa1 hD (i := 183) (n := 6) (kn' := (3, 18)) (hN.at 183 rfl) rfl dX3_init_53 rfl w_ai rfl (Nat.le_of_ble_eq_true rfl) (Nat.le_of_ble_eq_true rfl) hC (hz.at 183 rfl) rfl ⟨Nat.le_of_ble_eq_true rfl, Nat.le_of_ble_eq_true rfl⟩ rfl (fun Γ53 hC hD => ?_)
  refine n_putF (L' := ([(183, .inr (1, 6)), (182, .inr (1, 6)), (180, .inl (3, [none, none, none, none, none, none, some (some 181), some (some 182), some (some 183), some none, some none, some none, some none, some none, some none, some none])), (181, .inr (1, 6))] : List (Nat × gSh))) hD (hD.o 2 rfl) rfl (hD.o 0 rfl).1 (t' := [none, none, none, none, none, none, some (some 181), some (some 182), some (some 183), some none, some none, some none, some none, some none, some none, some none]) rfl (by decide +kernel) (fun _ _ _ h => h.1) dX3_init_55 rfl fX3_37 (fun C T N h => by cases h; rfl) (Nat.le_of_ble_eq_true rfl) (fun _ => rfl) (fun _ => rfl) hC (fun Γ55 hC hD => ?_)
  refine g_aload_n0 dX3_init_58 rfl ?_
  refine g_bipush (v := 6) dX3_init_59 rfl rfl ?_
  refine n_newa1 hD (i := 184) (n := 6) (kn' := (4, 24)) (hN.at 184 rfl) rfl dX3_init_61 rfl w_ai rfl (Nat.le_of_ble_eq_true rfl) (Nat.le_of_ble_eq_true rfl) hC (hz.at 184 rfl) rfl ⟨Nat.le_of_ble_eq_true rfl, Nat.le_of_ble_eq_true rfl⟩ rfl (fun Γ61 hC hD => ?_)
  refine n_putF (L' := ([(184, .inr (1, 6)), (183, .inr (1, 6)), (182, .inr (1, 6)), (180, .inl (3, [none, none, none, none, none, none, some (some 181), some (some 182), some (some 183), some (some 184), some none, some none, some none, some none, some none, some none])), (181, .inr (1, 6))] : List (Nat × gSh))) hD (hD.o 3 rfl) rfl (hD.o 0 rfl).1 (t' := [none, none, none, none, none, none, some (some 181), some (some 182), some (some 183), some (some 184), some none, some none, some none, some none, some none, some none]) rfl (by decide +kernel) (fun _ _ _ h => h.1) dX3_init_63 rfl fX3_40 (fun C T N h => by cases h; rfl) (Nat.le_of_ble_eq_true rfl) (fun _ => rfl) (fun _ => rfl) hC (fun Γ63 hC hD => ?_)
  refine g_aload_n0 dX3_init_66 rfl ?_
  refine g_bipush (v := 6) dX3_init_67 rfl rfl ?_
  refine n_newa1 hD (i := 185) (n := 6) (kn' := (5, 30)) (hN.at 185 rfl) rfl dX3_init_69 rfl w_ai rfl (Nat.le_of_ble_eq_true rfl) (Nat.le_of_ble_eq_true rfl) hC (hz.at 185 rfl) rfl ⟨Nat.le_of_ble_eq_true rfl, Nat.le_of_ble_eq_true rfl⟩ rfl (fun Γ69 hC hD => ?_)
  refine n_putF (L' := ([(185, .inr (1, 6)), (184, .inr (1, 6)), (183, .inr (1, 6)), (182, .inr (1, 6)), (180, .inl (3, [none, none, none, none, none, none, some (some 181), some (some 182), some (some 183), some (some 184), some (some 185), some none, some none, some none, some none, some none])), (181, .inr (1, 6))] : List (Nat × gSh))) hD (hD.o 4 rfl) rfl (hD.o 0 rfl).1 (t' := [none, none, none, none, none, none, some (some 181), some (some 182), some (some 183), some (some 184), some (some 185), some none, some none, some none, some none, some none]) rfl (by decide +kernel) (fun _ _ _ h => h.1) dX3_init_71 rfl fX3_43 (fun C T N h => by cases h; rfl) (Nat.le_of_ble_eq_true rfl) (fun _ => rfl) (fun _ => rfl) hC (fun Γ71 hC hD => ?_)
  refine g_aload_n0 dX3_init_74 rfl ?_
  refine g_bipush (v := 6) dX3_init_75 rfl rfl ?_
  refine n_newa1 hD (i := 186) (n := 6) (kn' := (6, 36)) (hN.at 186 rfl) rfl dX3_init_77 rfl w_ai rfl (Nat.le_of_ble_eq_true rfl) (Nat.le_of_ble_eq_true rfl) hC (hz.at 186 rfl) rfl ⟨Nat.le_of_ble_eq_true rfl, Nat.le_of_ble_eq_true rfl⟩ rfl (fun Γ77 hC hD => ?_)
  refine n_putF (L' := ([(186, .inr (1, 6)), (185, .inr (1, 6)), (184, .inr (1, 6)), (183, .inr (1, 6)), (182, .inr (1, 6)), (180, .inl (3, [none, none, none, none, none, none, some (some 181), some (some 182), some (some 183), some (some 184), some (some 185), some (some 186), some none, some none, some none, some none])), (181, .inr (1, 6))] : List (Nat × gSh))) hD (hD.o 5 rfl) rfl (hD.o 0 rfl).1 (t' := [none, none, none, none, none, none, some (some 181), some (some 182), some (some 183), some (some 184), some (some 185), some (some 186), some none, some none, some none, some none]) rfl (by decide +kernel) (fun _ _ _ h => h.1) dX3_init_79 rfl fX3_46 (fun C T N h => by cases h; rfl) (Nat.le_of_ble_eq_true rfl) (fun _ => rfl) (fun _ => rfl) hC (fun Γ79 hC hD => ?_)
  refine g_aload_n0 dX3_init_82 rfl ?_
  refine g_bipush (v := 12) dX3_init_83 rfl rfl ?_
  refine n_newa1 hD (i := 187) (n := 12) (kn' := (7, 48)) (hN.at 187 rfl) rfl dX3_init_85 rfl w_ai rfl (Nat.le_of_ble_eq_true rfl) (Nat.le_of_ble_eq_true rfl) hC (hz.at 187 rfl) rfl ⟨Nat.le_of_ble_eq_true rfl, Nat.le_of_ble_eq_true rfl⟩ rfl (fun Γ85 hC hD => ?_)
  refine n_putF (L' := ([(187, .inr (1, 12)), (186, .inr (1, 6)), (185, .inr (1, 6)), (184, .inr (1, 6)), (183, .inr (1, 6)), (182, .inr (1, 6)), (180, .inl (3, [none, none, none, none, none, none, some (some 181), some (some 182), some (some 183), some (some 184), some (some 185), some (some 186), some (some 187), some none, some none, some none])), (181, .inr (1, 6))] : List (Nat × gSh))) hD (hD.o 6 rfl) rfl (hD.o 0 rfl).1 (t' := [none, none, none, none, none, none, some (some 181), some (some 182), some (some 183), some (some 184), some (some 185), some (some 186), some (some 187), some none, some none, some none]) rfl (by decide +kernel) (fun _ _ _ h => h.1) dX3_init_87 rfl fX3_49 (fun C T N h => by cases h; rfl) (Nat.le_of_ble_eq_true rfl) (fun _ => rfl) (fun _ => rfl) hC (fun Γ87 hC hD => ?_)
  refine g_aload_n0 dX3_init_90 rfl ?_
  refine g_bipush (v := 12) dX3_init_91 rfl rfl ?_
  refine n_newa1 hD (i := 188) (n := 12) (kn' := (8, 60)) (hN.at 188 rfl) rfl dX3_init_93 rfl w_ai rfl (Nat.le_of_ble_eq_true rfl) (Nat.le_of_ble_eq_true rfl) hC (hz.at 188 rfl) rfl ⟨Nat.le_of_ble_eq_true rfl, Nat.le_of_ble_eq_true rfl⟩ rfl (fun Γ93 hC hD => ?_)
  refine n_putF (L' := ([(188, .inr (1, 12)), (187, .inr (1, 12)), (186, .inr (1, 6)), (185, .inr (1, 6)), (184, .inr (1, 6)), (183, .inr (1, 6)), (182, .inr (1, 6)), (180, .inl (3, [none, none, none, none, none, none, some (some 181), some (some 182), some (some 183), some (some 184), some (some 185), some (some 186), some (some 187), some (some 188), some none, some none])), (181, .inr (1, 6))] : List (Nat × gSh))) hD (hD.o 7 rfl) rfl (hD.o 0 rfl).1 (t' := [none, none, none, none, none, none, some (some 181), some (some 182), some (some 183), some (some 184), some (some 185), some (some 186), some (some 187), some (some 188), some none, some none]) rfl (by decide +kernel) (fun _ _ _ h => h.1) dX3_init_95 rfl fX3_52 (fun C T N h => by cases h; rfl) (Nat.le_of_ble_eq_true rfl) (fun _ => rfl) (fun _ => rfl) hC (fun Γ95 hC hD => ?_)
  refine g_aload_n0 dX3_init_98 rfl ?_
  refine g_bipush (v := 64) dX3_init_99 rfl rfl ?_
  refine n_newa1 hD (i := 189) (n := 64) (kn' := (9, 124)) (hN.at 189 rfl) rfl dX3_init_101 rfl w_ai rfl (Nat.le_of_ble_eq_true rfl) (Nat.le_of_ble_eq_true rfl) hC (hz.at 189 rfl) rfl ⟨Nat.le_of_ble_eq_true rfl, Nat.le_of_ble_eq_true rfl⟩ rfl (fun Γ101 hC hD => ?_)
  refine n_putF (L' := ([(189, .inr (1, 64)), (188, .inr (1, 12)), (187, .inr (1, 12)), (186, .inr (1, 6)), (185, .inr (1, 6)), (184, .inr (1, 6)), (183, .inr (1, 6)), (182, .inr (1, 6)), (180, .inl (3, [none, none, none, none, none, none, some (some 181), some (some 182), some (some 183), some (some 184), some (some 185), some (some 186), some (some 187), some (some 188), some (some 189), some none])), (181, .inr (1, 6))] : List (Nat × gSh))) hD (hD.o 8 rfl) rfl (hD.o 0 rfl).1 (t' := [none, none, none, none, none, none, some (some 181), some (some 182), some (some 183), some (some 184), some (some 185), some (some 186), some (some 187), some (some 188), some (some 189), some none]) rfl (by decide +kernel) (fun _ _ _ h => h.1) dX3_init_103 rfl fX3_55 (fun C T N h => by cases h; rfl) (Nat.le_of_ble_eq_true rfl) (fun _ => rfl) (fun _ => rfl) hC (fun Γ103 hC hD => ?_)
  refine g_aload_n0 dX3_init_106 rfl ?_
  refine g_bipush (v := 64) dX3_init_107 rfl rfl ?_
  refine n_newa1 hD (i := 190) (n := 64) (kn' := (10, 188)) (hN.at 190 rfl) rfl dX3_init_109 rfl w_ai rfl (Nat.le_of_ble_eq_true rfl) (Nat.le_of_ble_eq_true rfl) hC (hz.at 190 rfl) rfl ⟨Nat.le_of_ble_eq_true rfl, Nat.le_of_ble_eq_true rfl⟩ rfl (fun Γ109 hC hD => ?_)
  refine n_putF (L' := ([(190, .inr (1, 64)), (189, .inr (1, 64)), (188, .inr (1, 12)), (187, .inr (1, 12)), (186, .inr (1, 6)), (185, .inr (1, 6)), (184, .inr (1, 6)), (183, .inr (1, 6)), (182, .inr (1, 6)), (180, .inl (3, [none, none, none, none, none, none, some (some 181), some (some 182), some (some 183), some (some 184), some (some 185), some (some 186), some (some 187), some (some 188), some (some 189), some (some 190)])), (181, .inr (1, 6))] : List (Nat × gSh))) hD (hD.o 9 rfl) rfl (hD.o 0 rfl).1 (t' := [none, none, none, none, none, none, some (some 181), some (some 182), some (some 183), some (some 184), some (some 185), some (some 186), some (some 187), some (some 188), some (some 189), some (some 190)]) rfl (by decide +kernel) (fun _ _ _ h => h.1) dX3_init_111 rfl fX3_58 (fun C T N h => by cases h; rfl) (Nat.le_of_ble_eq_true rfl) (fun _ => rfl) (fun _ => rfl) hC (fun Γ111 hC hD => ?_)
  exact g_vretN dX3_init_114 rfl ⟨Nat.le_of_ble_eq_true rfl, Nat.le_of_ble_eq_true rfl⟩ ⟨hD, hC, rfl⟩
def lT200 : List (Nat × gSh) := ([(210, .inr (1, 64)), (209, .inr (1, 64)), (208, .inr (1, 12)), (207, .inr (1, 12)), (206, .inr (1, 6)), (205, .inr (1, 6)), (204, .inr (1, 6)), (203, .inr (1, 6)), (202, .inr (1, 6)), (200, .inl (3, [none, none, none, none, none, none, some (some 201), some (some 202), some (some 203), some (some 204), some (some 205), some (some 206), some (some 207), some (some 208), some (some 209), some (some 210)])), (201, .inr (1, 6))] : List (Nat × gSh))
theorem k_T200 {Γ : gW} {M : gM} {d : Nat} (ho : g_o Γ 200 (.inl (3, nulX3))) (hN : gN0 [201, 202, 203, 204, 205, 206, 207, 208, 209, 210] Γ) (hC : gCl Γ M) (hz : gZ0 [200, 201, 202, 203, 204, 205, 206, 207, 208, 209, 210] M) : CtN PXN Γ yX3_init μX3_init d 10 188 [.ref 200] M (fun Γ' M' => gD Γ Γ' lT200 ∧ (gCl Γ' M' ∧ M' = M)) := by
  refine g_enterN (by decide +kernel) rfl rfl rfl (by decide) ?_
  show G _ _ _ _ _ _ [some (.ref 200)] _ _
  have hD : gD Γ Γ [] := gD.rf
  refine g_aload_n0 dX3_init_0 rfl ?_
  refine g_objInit dX3_init_1 rfl oi_X3 oi_i oi_c ⟨by show 1 ≤ d + 8; omega, by show 0 + 12 ≤ 150 + 50 * d; omega⟩ ?_
  refine g_aload_n0 dX3_init_4 rfl ?_
  refine g_iconst (v := 0) dX3_init_5 rfl rfl ?_
  refine n_put0 dX3_init_6 rfl fX3_9 (hD.old ho rfl) rfl rfl rfl (hz.at 200 rfl 0) ?_
  refine g_aload_n0 dX3_init_9 rfl ?_
  refine g_iconst (v := 0) dX3_init_10 rfl rfl ?_
  refine n_put0 dX3_init_11 rfl fX3_15 (hD.old ho rfl) rfl rfl rfl (hz.at 200 rfl 1) ?_
  refine g_aload_n0 dX3_init_14 rfl ?_
  refine g_iconst (v := 0) dX3_init_15 rfl rfl ?_
  refine n_put0 dX3_init_16 rfl fX3_18 (hD.old ho rfl) rfl rfl rfl (hz.at 200 rfl 2) ?_
  refine g_aload_n0 dX3_init_19 rfl ?_
  refine g_iconst (v := 0) dX3_init_20 rfl rfl ?_
  refine n_put0 dX3_init_21 rfl fX3_21 (hD.old ho rfl) rfl rfl rfl (hz.at 200 rfl 3) ?_
  refine g_aload_n0 dX3_init_24 rfl ?_
  refine g_iconst (v := 0) dX3_init_25 rfl rfl ?_
  refine n_put0 dX3_init_26 rfl fX3_24 (hD.old ho rfl) rfl rfl rfl (hz.at 200 rfl 4) ?_
  refine g_aload_n0 dX3_init_29 rfl ?_
  refine g_iconst (v := 0) dX3_init_30 rfl rfl ?_
  refine n_put0 dX3_init_31 rfl fX3_27 (hD.old ho rfl) rfl rfl rfl (hz.at 200 rfl 5) ?_
  refine g_aload_n0 dX3_init_34 rfl ?_
  refine g_bipush (v := 6) dX3_init_35 rfl rfl ?_
  refine n_newa1 hD (i := 201) (n := 6) (kn' := (1, 6)) (hN.at 201 rfl) rfl dX3_init_37 rfl w_ai rfl (Nat.le_of_ble_eq_true rfl) (Nat.le_of_ble_eq_true rfl) hC (hz.at 201 rfl) rfl ⟨Nat.le_of_ble_eq_true rfl, Nat.le_of_ble_eq_true rfl⟩ rfl (fun Γ37 hC hD => ?_)
  refine n_putF0 hD ho rfl (hD.o 0 rfl).1 (t' := [none, none, none, none, none, none, some (some 201), some none, some none, some none, some none, some none, some none, some none, some none, some none]) rfl (fun _ _ _ h => h.1) dX3_init_39 rfl fX3_30 (fun C T N h => by cases h; rfl) (Nat.le_of_ble_eq_true rfl) (fun _ => rfl) (fun _ => rfl) hC (fun Γ39 hC hD => ?_)
  refine g_aload_n0 dX3_init_42 rfl ?_
  refine g_bipush (v := 6) dX3_init_43 rfl rfl ?_
  refine n_newa1 hD (i := 202) (n := 6) (kn' := (2, 12)) (hN.at 202 rfl) rfl dX3_init_45 rfl w_ai rfl (Nat.le_of_ble_eq_true rfl) (Nat.le_of_ble_eq_true rfl) hC (hz.at 202 rfl) rfl ⟨Nat.le_of_ble_eq_true rfl, Nat.le_of_ble_eq_true rfl⟩ rfl (fun Γ45 hC hD => ?_)
  refine n_putF (L' := ([(202, .inr (1, 6)), (200, .inl (3, [none, none, none, none, none, none, some (some 201), some (some 202), some none, some none, some none, some none, some none, some none, some none, some none])), (201, .inr (1, 6))] : List (Nat × gSh))) hD (hD.o 1 rfl) rfl (hD.o 0 rfl).1 (t' := [none, none, none, none, none, none, some (some 201), some (some 202), some none, some none, some none, some none, some none, some none, some none, some none]) rfl (by decide +kernel) (fun _ _ _ h => h.1) dX3_init_47 rfl fX3_34 (fun C T N h => by cases h; rfl) (Nat.le_of_ble_eq_true rfl) (fun _ => rfl) (fun _ => rfl) hC (fun Γ47 hC hD => ?_)
  refine g_aload_n0 dX3_init_50 rfl ?_
  refine g_bipush (v := 6) dX3_init_51 rfl rfl ?_
  refine n_newa1 hD (i := 203) (n := 6) (kn' := (3, 18)) (hN.at 203 rfl) rfl dX3_init_53 rfl w_ai rfl (Nat.le_of_ble_eq_true rfl) (Nat.le_of_ble_eq_true rfl) hC (hz.at 203 rfl) rfl ⟨Nat.le_of_ble_eq_true rfl, Nat.le_of_ble_eq_true rfl⟩ rfl (fun Γ53 hC hD => ?_)
  refine n_putF (L' := ([(203, .inr (1, 6)), (202, .inr (1, 6)), (200, .inl (3, [none, none, none, none, none, none, some (some 201), some (some 202), some (some 203), some none, some none, some none, some none, some none, some none, some none])), (201, .inr (1, 6))] : List (Nat × gSh))) hD (hD.o 2 rfl) rfl (hD.o 0 rfl).1 (t' := [none, none, none, none, none, none, some (some 201), some (some 202), some (some 203), some none, some none, some none, some none, some none, some none, some none]) rfl (by decide +kernel) (fun _ _ _ h => h.1) dX3_init_55 rfl fX3_37 (fun C T N h => by cases h; rfl) (Nat.le_of_ble_eq_true rfl) (fun _ => rfl) (fun _ => rfl) hC (fun Γ55 hC hD => ?_)
  refine g_aload_n0 dX3_init_58 rfl ?_
  refine g_bipush (v := 6) dX3_init_59 rfl rfl ?_
  refine n_newa1 hD (i := 204) (n := 6) (kn' := (4, 24)) (hN.at 204 rfl) rfl dX3_init_61 rfl w_ai rfl (Nat.le_of_ble_eq_true rfl) (Nat.le_of_ble_eq_true rfl) hC (hz.at 204 rfl) rfl ⟨Nat.le_of_ble_eq_true rfl, Nat.le_of_ble_eq_true rfl⟩ rfl (fun Γ61 hC hD => ?_)
  refine n_putF (L' := ([(204, .inr (1, 6)), (203, .inr (1, 6)), (202, .inr (1, 6)), (200, .inl (3, [none, none, none, none, none, none, some (some 201), some (some 202), some (some 203), some (some 204), some none, some none, some none, some none, some none, some none])), (201, .inr (1, 6))] : List (Nat × gSh))) hD (hD.o 3 rfl) rfl (hD.o 0 rfl).1 (t' := [none, none, none, none, none, none, some (some 201), some (some 202), some (some 203), some (some 204), some none, some none, some none, some none, some none, some none]) rfl (by decide +kernel) (fun _ _ _ h => h.1) dX3_init_63 rfl fX3_40 (fun C T N h => by cases h; rfl) (Nat.le_of_ble_eq_true rfl) (fun _ => rfl) (fun _ => rfl) hC (fun Γ63 hC hD => ?_)
  refine g_aload_n0 dX3_init_66 rfl ?_
  refine g_bipush (v := 6) dX3_init_67 rfl rfl ?_
  refine n_newa1 hD (i := 205) (n := 6) (kn' := (5, 30)) (hN.at 205 rfl) rfl dX3_init_69 rfl w_ai rfl (Nat.le_of_ble_eq_true rfl) (Nat.le_of_ble_eq_true rfl) hC (hz.at 205 rfl) rfl ⟨Nat.le_of_ble_eq_true rfl, Nat.le_of_ble_eq_true rfl⟩ rfl (fun Γ69 hC hD => ?_)
  refine n_putF (L' := ([(205, .inr (1, 6)), (204, .inr (1, 6)), (203, .inr (1, 6)), (202, .inr (1, 6)), (200, .inl (3, [none, none, none, none, none, none, some (some 201), some (some 202), some (some 203), some (some 204), some (some 205), some none, some none, some none, some none, some none])), (201, .inr (1, 6))] : List (Nat × gSh))) hD (hD.o 4 rfl) rfl (hD.o 0 rfl).1 (t' := [none, none, none, none, none, none, some (some 201), some (some 202), some (some 203), some (some 204), some (some 205), some none, some none, some none, some none, some none]) rfl (by decide +kernel) (fun _ _ _ h => h.1) dX3_init_71 rfl fX3_43 (fun C T N h => by cases h; rfl) (Nat.le_of_ble_eq_true rfl) (fun _ => rfl) (fun _ => rfl) hC (fun Γ71 hC hD => ?_)
  refine g_aload_n0 dX3_init_74 rfl ?_
  refine g_bipush (v := 6) dX3_init_75 rfl rfl ?_
  refine n_newa1 hD (i := 206) (n := 6) (kn' := (6, 36)) (hN.at 206 rfl) rfl dX3_init_77 rfl w_ai rfl (Nat.le_of_ble_eq_true rfl) (Nat.le_of_ble_eq_true rfl) hC (hz.at 206 rfl) rfl ⟨Nat.le_of_ble_eq_true rfl, Nat.le_of_ble_eq_true rfl⟩ rfl (fun Γ77 hC hD => ?_)
  refine n_putF (L' := ([(206, .inr (1, 6)), (205, .inr (1, 6)), (204, .inr (1, 6)), (203, .inr (1, 6)), (202, .inr (1, 6)), (200, .inl (3, [none, none, none, none, none, none, some (some 201), some (some 202), some (some 203), some (some 204), some (some 205), some (some 206), some none, some none, some none, some none])), (201, .inr (1, 6))] : List (Nat × gSh))) hD (hD.o 5 rfl) rfl (hD.o 0 rfl).1 (t' := [none, none, none, none, none, none, some (some 201), some (some 202), some (some 203), some (some 204), some (some 205), some (some 206), some none, some none, some none, some none]) rfl (by decide +kernel) (fun _ _ _ h => h.1) dX3_init_79 rfl fX3_46 (fun C T N h => by cases h; rfl) (Nat.le_of_ble_eq_true rfl) (fun _ => rfl) (fun _ => rfl) hC (fun Γ79 hC hD => ?_)
  refine g_aload_n0 dX3_init_82 rfl ?_
  refine g_bipush (v := 12) dX3_init_83 rfl rfl ?_
  refine n_newa1 hD (i := 207) (n := 12) (kn' := (7, 48)) (hN.at 207 rfl) rfl dX3_init_85 rfl w_ai rfl (Nat.le_of_ble_eq_true rfl) (Nat.le_of_ble_eq_true rfl) hC (hz.at 207 rfl) rfl ⟨Nat.le_of_ble_eq_true rfl, Nat.le_of_ble_eq_true rfl⟩ rfl (fun Γ85 hC hD => ?_)
  refine n_putF (L' := ([(207, .inr (1, 12)), (206, .inr (1, 6)), (205, .inr (1, 6)), (204, .inr (1, 6)), (203, .inr (1, 6)), (202, .inr (1, 6)), (200, .inl (3, [none, none, none, none, none, none, some (some 201), some (some 202), some (some 203), some (some 204), some (some 205), some (some 206), some (some 207), some none, some none, some none])), (201, .inr (1, 6))] : List (Nat × gSh))) hD (hD.o 6 rfl) rfl (hD.o 0 rfl).1 (t' := [none, none, none, none, none, none, some (some 201), some (some 202), some (some 203), some (some 204), some (some 205), some (some 206), some (some 207), some none, some none, some none]) rfl (by decide +kernel) (fun _ _ _ h => h.1) dX3_init_87 rfl fX3_49 (fun C T N h => by cases h; rfl) (Nat.le_of_ble_eq_true rfl) (fun _ => rfl) (fun _ => rfl) hC (fun Γ87 hC hD => ?_)
  refine g_aload_n0 dX3_init_90 rfl ?_
  refine g_bipush (v := 12) dX3_init_91 rfl rfl ?_
  refine n_newa1 hD (i := 208) (n := 12) (kn' := (8, 60)) (hN.at 208 rfl) rfl dX3_init_93 rfl w_ai rfl (Nat.le_of_ble_eq_true rfl) (Nat.le_of_ble_eq_true rfl) hC (hz.at 208 rfl) rfl ⟨Nat.le_of_ble_eq_true rfl, Nat.le_of_ble_eq_true rfl⟩ rfl (fun Γ93 hC hD => ?_)
  refine n_putF (L' := ([(208, .inr (1, 12)), (207, .inr (1, 12)), (206, .inr (1, 6)), (205, .inr (1, 6)), (204, .inr (1, 6)), (203, .inr (1, 6)), (202, .inr (1, 6)), (200, .inl (3, [none, none, none, none, none, none, some (some 201), some (some 202), some (some 203), some (some 204), some (some 205), some (some 206), some (some 207), some (some 208), some none, some none])), (201, .inr (1, 6))] : List (Nat × gSh))) hD (hD.o 7 rfl) rfl (hD.o 0 rfl).1 (t' := [none, none, none, none, none, none, some (some 201), some (some 202), some (some 203), some (some 204), some (some 205), some (some 206), some (some 207), some (some 208), some none, some none]) rfl (by decide +kernel) (fun _ _ _ h => h.1) dX3_init_95 rfl fX3_52 (fun C T N h => by cases h; rfl) (Nat.le_of_ble_eq_true rfl) (fun _ => rfl) (fun _ => rfl) hC (fun Γ95 hC hD => ?_)
  refine g_aload_n0 dX3_init_98 rfl ?_
  refine g_bipush (v := 64) dX3_init_99 rfl rfl ?_
  refine n_newa1 hD (i := 209) (n := 64) (kn' := (9, 124)) (hN.at 209 rfl) rfl dX3_init_101 rfl w_ai rfl (Nat.le_of_ble_eq_true rfl) (Nat.le_of_ble_eq_true rfl) hC (hz.at 209 rfl) rfl ⟨Nat.le_of_ble_eq_true rfl, Nat.le_of_ble_eq_true rfl⟩ rfl (fun Γ101 hC hD => ?_)
  refine n_putF (L' := ([(209, .inr (1, 64)), (208, .inr (1, 12)), (207, .inr (1, 12)), (206, .inr (1, 6)), (205, .inr (1, 6)), (204, .inr (1, 6)), (203, .inr (1, 6)), (202, .inr (1, 6)), (200, .inl (3, [none, none, none, none, none, none, some (some 201), some (some 202), some (some 203), some (some 204), some (some 205), some (some 206), some (some 207), some (some 208), some (some 209), some none])), (201, .inr (1, 6))] : List (Nat × gSh))) hD (hD.o 8 rfl) rfl (hD.o 0 rfl).1 (t' := [none, none, none, none, none, none, some (some 201), some (some 202), some (some 203), some (some 204), some (some 205), some (some 206), some (some 207), some (some 208), some (some 209), some none]) rfl (by decide +kernel) (fun _ _ _ h => h.1) dX3_init_103 rfl fX3_55 (fun C T N h => by cases h; rfl) (Nat.le_of_ble_eq_true rfl) (fun _ => rfl) (fun _ => rfl) hC (fun Γ103 hC hD => ?_)
  refine g_aload_n0 dX3_init_106 rfl ?_
  refine g_bipush (v := 64) dX3_init_107 rfl rfl ?_
  refine n_newa1 hD (i := 210) (n := 64) (kn' := (10, 188)) (hN.at 210 rfl) rfl dX3_init_109 rfl w_ai rfl (Nat.le_of_ble_eq_true rfl) (Nat.le_of_ble_eq_true rfl) hC (hz.at 210 rfl) rfl ⟨Nat.le_of_ble_eq_true rfl, Nat.le_of_ble_eq_true rfl⟩ rfl (fun Γ109 hC hD => ?_)
  refine n_putF (L' := ([(210, .inr (1, 64)), (209, .inr (1, 64)), (208, .inr (1, 12)), (207, .inr (1, 12)), (206, .inr (1, 6)), (205, .inr (1, 6)), (204, .inr (1, 6)), (203, .inr (1, 6)), (202, .inr (1, 6)), (200, .inl (3, [none, none, none, none, none, none, some (some 201), some (some 202), some (some 203), some (some 204), some (some 205), some (some 206), some (some 207), some (some 208), some (some 209), some (some 210)])), (201, .inr (1, 6))] : List (Nat × gSh))) hD (hD.o 9 rfl) rfl (hD.o 0 rfl).1 (t' := [none, none, none, none, none, none, some (some 201), some (some 202), some (some 203), some (some 204), some (some 205), some (some 206), some (some 207), some (some 208), some (some 209), some (some 210)]) rfl (by decide +kernel) (fun _ _ _ h => h.1) dX3_init_111 rfl fX3_58 (fun C T N h => by cases h; rfl) (Nat.le_of_ble_eq_true rfl) (fun _ => rfl) (fun _ => rfl) hC (fun Γ111 hC hD => ?_)
  exact g_vretN dX3_init_114 rfl ⟨Nat.le_of_ble_eq_true rfl, Nat.le_of_ble_eq_true rfl⟩ ⟨hD, hC, rfl⟩
def lB220 : List (Nat × gSh) := ([(220, .inl (0, [none, some (some 221)])), (221, .inr (1, 1800))] : List (Nat × gSh))
theorem k_B220 {Γ : gW} {M : gM} {d : Nat} (ho : g_o Γ 220 (.inl (0, nulX0))) (hN : gN0 [221] Γ) (hC : gCl Γ M) (hz : gZ0 [220, 221] M) : CtN PXN Γ yX0_init μX0_init d 1 1800 [.ref 220] M (fun Γ' M' => gD Γ Γ' lB220 ∧ (gCl Γ' M' ∧ M' = M)) := by
  refine g_enterN (by decide +kernel) rfl rfl rfl (by decide) ?_
  show G _ _ _ _ _ _ [some (.ref 220)] _ _
  have hD : gD Γ Γ [] := gD.rf
  refine g_aload_n0 dX0_init_0 rfl ?_
  refine g_objInit dX0_init_1 rfl oi_X0 oi_i oi_c ⟨by show 1 ≤ d + 8; omega, by show 0 + 12 ≤ 150 + 50 * d; omega⟩ ?_
  refine g_aload_n0 dX0_init_4 rfl ?_
  refine g_iconst (v := 0) dX0_init_5 rfl rfl ?_
  refine n_put0 dX0_init_6 rfl fX0_7 (hD.old ho rfl) rfl rfl rfl (hz.at 220 rfl 0) ?_
  refine g_aload_n0 dX0_init_9 rfl ?_
  refine g_sipush (v := 1800) dX0_init_10 rfl rfl ?_
  refine n_newa1 hD (i := 221) (n := 1800) (kn' := (1, 1800)) (hN.at 221 rfl) rfl dX0_init_13 rfl w_ai rfl (Nat.le_of_ble_eq_true rfl) (Nat.le_of_ble_eq_true rfl) hC (hz.at 221 rfl) rfl ⟨Nat.le_of_ble_eq_true rfl, Nat.le_of_ble_eq_true rfl⟩ rfl (fun Γ13 hC hD => ?_)
  refine n_putF0 hD ho rfl (hD.o 0 rfl).1 (t' := [none, some (some 221)]) rfl (fun _ _ _ h => h.1) dX0_init_15 rfl fX0_13 (fun C T N h => by cases h; rfl) (Nat.le_of_ble_eq_true rfl) (fun _ => rfl) (fun _ => rfl) hC (fun Γ15 hC hD => ?_)
  exact g_vretN dX0_init_18 rfl ⟨Nat.le_of_ble_eq_true rfl, Nat.le_of_ble_eq_true rfl⟩ ⟨hD, hC, rfl⟩
def lB222 : List (Nat × gSh) := ([(222, .inl (0, [none, some (some 223)])), (223, .inr (1, 1800))] : List (Nat × gSh))
theorem k_B222 {Γ : gW} {M : gM} {d : Nat} (ho : g_o Γ 222 (.inl (0, nulX0))) (hN : gN0 [223] Γ) (hC : gCl Γ M) (hz : gZ0 [222, 223] M) : CtN PXN Γ yX0_init μX0_init d 1 1800 [.ref 222] M (fun Γ' M' => gD Γ Γ' lB222 ∧ (gCl Γ' M' ∧ M' = M)) := by
  refine g_enterN (by decide +kernel) rfl rfl rfl (by decide) ?_
  show G _ _ _ _ _ _ [some (.ref 222)] _ _
  have hD : gD Γ Γ [] := gD.rf
  refine g_aload_n0 dX0_init_0 rfl ?_
  refine g_objInit dX0_init_1 rfl oi_X0 oi_i oi_c ⟨by show 1 ≤ d + 8; omega, by show 0 + 12 ≤ 150 + 50 * d; omega⟩ ?_
  refine g_aload_n0 dX0_init_4 rfl ?_
  refine g_iconst (v := 0) dX0_init_5 rfl rfl ?_
  refine n_put0 dX0_init_6 rfl fX0_7 (hD.old ho rfl) rfl rfl rfl (hz.at 222 rfl 0) ?_
  refine g_aload_n0 dX0_init_9 rfl ?_
  refine g_sipush (v := 1800) dX0_init_10 rfl rfl ?_
  refine n_newa1 hD (i := 223) (n := 1800) (kn' := (1, 1800)) (hN.at 223 rfl) rfl dX0_init_13 rfl w_ai rfl (Nat.le_of_ble_eq_true rfl) (Nat.le_of_ble_eq_true rfl) hC (hz.at 223 rfl) rfl ⟨Nat.le_of_ble_eq_true rfl, Nat.le_of_ble_eq_true rfl⟩ rfl (fun Γ13 hC hD => ?_)
  refine n_putF0 hD ho rfl (hD.o 0 rfl).1 (t' := [none, some (some 223)]) rfl (fun _ _ _ h => h.1) dX0_init_15 rfl fX0_13 (fun C T N h => by cases h; rfl) (Nat.le_of_ble_eq_true rfl) (fun _ => rfl) (fun _ => rfl) hC (fun Γ15 hC hD => ?_)
  exact g_vretN dX0_init_18 rfl ⟨Nat.le_of_ble_eq_true rfl, Nat.le_of_ble_eq_true rfl⟩ ⟨hD, hC, rfl⟩
def lTp : List (Nat × gSh) := ([(231, .inr (0, 700)), (230, .inl (2, [some (some 160), some (some 231), none, none, none, none, none, none, none, none, none, none, none]))] ++ lT160 : List (Nat × gSh))
theorem k_Tp {Γ : gW} {M : gM} {d : Nat} (hd0 : 1 ≤ d := by omega) (ho : g_o Γ 230 (.inl (2, nulX2))) (hN : gN0 [160, 161, 162, 163, 164, 165, 166, 167, 168, 169, 170, 231] Γ) (hC : gCl Γ M) (hz : gZ0 [230, 160, 161, 162, 163, 164, 165, 166, 167, 168, 169, 170, 231] M) : CtN PXN Γ yX2_init μX2_init d 12 904 [.ref 230] M (fun Γ' M' => gD Γ Γ' lTp ∧ (gCl Γ' M' ∧ M' = M)) := by
  refine g_enterN (by decide +kernel) rfl rfl rfl (by decide) ?_
  show G _ _ _ _ _ _ [some (.ref 230)] _ _
  have hD : gD Γ Γ [] := gD.rf
  refine g_aload_n0 dX2_init_0 rfl ?_
  refine g_objInit dX2_init_1 rfl oi_X2 oi_i oi_c ⟨by show 1 ≤ d + 8; omega, by show 0 + 12 ≤ 150 + 50 * d; omega⟩ ?_
  refine g_aload_n0 dX2_init_4 rfl ?_
  refine n_new hD (i := 160) (ci := 3) (t := nulX3) (kn' := (1, 16)) (hN.at 160 rfl) rfl dX2_init_5 rfl rfl uwX3 tyX3_ok nw_X2_9 nfX3 nrX3 (Nat.le_of_ble_eq_true rfl) hC (hz.at 160 rfl) rfl ⟨Nat.le_of_ble_eq_true rfl, Nat.le_of_ble_eq_true rfl⟩ rfl (fun Γ5 hC hD => ?_)
  refine g_dup dX2_init_8 rfl rfl ?_
  refine n_call (L' := (lT160 : List (Nat × gSh))) (kn' := (11, 204)) hD (zN_PX (fun _ _ _ h => h.2)) dX2_init_9 rfl in_X2_11 5 rfl (k_T160 (d := 0) (hD.o 0 rfl) (hN.gr hD (by decide +kernel)) hC (hz.sub (by decide +kernel))) (by decide +kernel) (hD.o 0 rfl).1 (by decide +kernel) (g_rmM (by omega)) ⟨Nat.le_of_ble_eq_true rfl, Nat.le_of_ble_eq_true rfl⟩ rfl (Nat.le_of_ble_eq_true rfl) (by decide +kernel) (fun Γ9 hC hD => ?_)
  refine n_putF0 hD ho rfl (hD.o 9 rfl).1 (t' := [some (some 160), some none, none, none, none, none, none, none, none, none, none, none, none]) rfl (fun _ _ _ h => h.1) dX2_init_12 rfl fX2_12 (fun C T N h => by cases h; rfl) (Nat.le_of_ble_eq_true rfl) (fun _ => rfl) (fun _ => rfl) hC (fun Γ12 hC hD => ?_)
  refine g_aload_n0 dX2_init_15 rfl ?_
  refine g_sipush (v := 700) dX2_init_16 rfl rfl ?_
  refine n_newa0 hD (i := 231) (n := 700) (kn' := (12, 904)) (hN.at 231 rfl) rfl dX2_init_19 rfl w_ab rfl (Nat.le_of_ble_eq_true rfl) (Nat.le_of_ble_eq_true rfl) hC (hz.at 231 rfl) rfl ⟨Nat.le_of_ble_eq_true rfl, Nat.le_of_ble_eq_true rfl⟩ rfl (fun Γ19 hC hD => ?_)
  refine n_putF (L' := ([(231, .inr (0, 700)), (230, .inl (2, [some (some 160), some (some 231), none, none, none, none, none, none, none, none, none, none, none]))] ++ lT160 : List (Nat × gSh))) hD (hD.o 1 rfl) rfl (hD.o 0 rfl).1 (t' := [some (some 160), some (some 231), none, none, none, none, none, none, none, none, none, none, none]) rfl (by decide +kernel) (fun _ _ _ h => h.1) dX2_init_21 rfl fX2_18 (fun C T N h => by cases h; rfl) (Nat.le_of_ble_eq_true rfl) (fun _ => rfl) (fun _ => rfl) hC (fun Γ21 hC hD => ?_)
  refine g_aload_n0 dX2_init_24 rfl ?_
  refine g_iconst (v := 0) dX2_init_25 rfl rfl ?_
  refine n_put0 dX2_init_26 rfl fX2_22 (hD.o 1 rfl) rfl rfl rfl (hz.at 230 rfl 2) ?_
  refine g_aload_n0 dX2_init_29 rfl ?_
  refine g_iconst (v := 0) dX2_init_30 rfl rfl ?_
  refine n_put0 dX2_init_31 rfl fX2_26 (hD.o 1 rfl) rfl rfl rfl (hz.at 230 rfl 3) ?_
  refine g_aload_n0 dX2_init_34 rfl ?_
  refine g_iconst (v := 0) dX2_init_35 rfl rfl ?_
  refine n_put0 dX2_init_36 rfl fX2_29 (hD.o 1 rfl) rfl rfl rfl (hz.at 230 rfl 4) ?_
  refine g_aload_n0 dX2_init_39 rfl ?_
  refine g_iconst (v := 0) dX2_init_40 rfl rfl ?_
  refine n_put0 dX2_init_41 rfl fX2_33 (hD.o 1 rfl) rfl rfl rfl (hz.at 230 rfl 5) ?_
  refine g_aload_n0 dX2_init_44 rfl ?_
  refine g_iconst (v := 0) dX2_init_45 rfl rfl ?_
  refine n_put0 dX2_init_46 rfl fX2_36 (hD.o 1 rfl) rfl rfl rfl (hz.at 230 rfl 6) ?_
  refine g_aload_n0 dX2_init_49 rfl ?_
  refine g_iconst (v := 0) dX2_init_50 rfl rfl ?_
  refine n_put0 dX2_init_51 rfl fX2_39 (hD.o 1 rfl) rfl rfl rfl (hz.at 230 rfl 7) ?_
  refine g_aload_n0 dX2_init_54 rfl ?_
  refine g_iconst (v := 0) dX2_init_55 rfl rfl ?_
  refine n_put0 dX2_init_56 rfl fX2_42 (hD.o 1 rfl) rfl rfl rfl (hz.at 230 rfl 8) ?_
  refine g_aload_n0 dX2_init_59 rfl ?_
  refine g_iconst (v := 0) dX2_init_60 rfl rfl ?_
  refine n_put0 dX2_init_61 rfl fX2_45 (hD.o 1 rfl) rfl rfl rfl (hz.at 230 rfl 9) ?_
  refine g_aload_n0 dX2_init_64 rfl ?_
  refine g_iconst (v := 0) dX2_init_65 rfl rfl ?_
  refine n_put0 dX2_init_66 rfl fX2_48 (hD.o 1 rfl) rfl rfl rfl (hz.at 230 rfl 10) ?_
  refine g_aload_n0 dX2_init_69 rfl ?_
  refine g_iconst (v := 0) dX2_init_70 rfl rfl ?_
  refine n_put0 dX2_init_71 rfl fX2_51 (hD.o 1 rfl) rfl rfl rfl (hz.at 230 rfl 11) ?_
  refine g_aload_n0 dX2_init_74 rfl ?_
  refine g_iconst (v := 0) dX2_init_75 rfl rfl ?_
  refine n_put0 dX2_init_76 rfl fX2_54 (hD.o 1 rfl) rfl rfl rfl (hz.at 230 rfl 12) ?_
  exact g_vretN dX2_init_79 rfl ⟨Nat.le_of_ble_eq_true rfl, Nat.le_of_ble_eq_true rfl⟩ ⟨hD, hC, rfl⟩
def lWk : List (Nat × gSh) := ([(241, .inr (1, 6)), (240, .inl (4, [some (some 180), some (some 241), none, none, none]))] ++ lT180 : List (Nat × gSh))
theorem k_Wk {Γ : gW} {M : gM} {d : Nat} (hd0 : 1 ≤ d := by omega) (ho : g_o Γ 240 (.inl (4, nulX4))) (hN : gN0 [180, 181, 182, 183, 184, 185, 186, 187, 188, 189, 190, 241] Γ) (hC : gCl Γ M) (hz : gZ0 [240, 180, 181, 182, 183, 184, 185, 186, 187, 188, 189, 190, 241] M) : CtN PXN Γ yX4_init μX4_init d 12 210 [.ref 240] M (fun Γ' M' => gD Γ Γ' lWk ∧ (gCl Γ' M' ∧ M' = M)) := by
  refine g_enterN (by decide +kernel) rfl rfl rfl (by decide) ?_
  show G _ _ _ _ _ _ [some (.ref 240)] _ _
  have hD : gD Γ Γ [] := gD.rf
  refine g_aload_n0 dX4_init_0 rfl ?_
  refine g_objInit dX4_init_1 rfl oi_X4 oi_i oi_c ⟨by show 1 ≤ d + 8; omega, by show 0 + 12 ≤ 150 + 50 * d; omega⟩ ?_
  refine g_aload_n0 dX4_init_4 rfl ?_
  refine n_new hD (i := 180) (ci := 3) (t := nulX3) (kn' := (1, 16)) (hN.at 180 rfl) rfl dX4_init_5 rfl rfl uwX3 tyX3_ok nw_X4_9 nfX3 nrX3 (Nat.le_of_ble_eq_true rfl) hC (hz.at 180 rfl) rfl ⟨Nat.le_of_ble_eq_true rfl, Nat.le_of_ble_eq_true rfl⟩ rfl (fun Γ5 hC hD => ?_)
  refine g_dup dX4_init_8 rfl rfl ?_
  refine n_call (L' := (lT180 : List (Nat × gSh))) (kn' := (11, 204)) hD (zN_PX (fun _ _ _ h => h.2)) dX4_init_9 rfl in_X4_11 6 rfl (k_T180 (d := 0) (hD.o 0 rfl) (hN.gr hD (by decide +kernel)) hC (hz.sub (by decide +kernel))) (by decide +kernel) (hD.o 0 rfl).1 (by decide +kernel) (g_rmM (by omega)) ⟨Nat.le_of_ble_eq_true rfl, Nat.le_of_ble_eq_true rfl⟩ rfl (Nat.le_of_ble_eq_true rfl) (by decide +kernel) (fun Γ9 hC hD => ?_)
  refine n_putF0 hD ho rfl (hD.o 9 rfl).1 (t' := [some (some 180), some none, none, none, none]) rfl (fun _ _ _ h => h.1) dX4_init_12 rfl fX4_12 (fun C T N h => by cases h; rfl) (Nat.le_of_ble_eq_true rfl) (fun _ => rfl) (fun _ => rfl) hC (fun Γ12 hC hD => ?_)
  refine g_aload_n0 dX4_init_15 rfl ?_
  refine g_bipush (v := 6) dX4_init_16 rfl rfl ?_
  refine n_newa1 hD (i := 241) (n := 6) (kn' := (12, 210)) (hN.at 241 rfl) rfl dX4_init_18 rfl w_ai rfl (Nat.le_of_ble_eq_true rfl) (Nat.le_of_ble_eq_true rfl) hC (hz.at 241 rfl) rfl ⟨Nat.le_of_ble_eq_true rfl, Nat.le_of_ble_eq_true rfl⟩ rfl (fun Γ18 hC hD => ?_)
  refine n_putF (L' := ([(241, .inr (1, 6)), (240, .inl (4, [some (some 180), some (some 241), none, none, none]))] ++ lT180 : List (Nat × gSh))) hD (hD.o 1 rfl) rfl (hD.o 0 rfl).1 (t' := [some (some 180), some (some 241), none, none, none]) rfl (by decide +kernel) (fun _ _ _ h => h.1) dX4_init_20 rfl fX4_18 (fun C T N h => by cases h; rfl) (Nat.le_of_ble_eq_true rfl) (fun _ => rfl) (fun _ => rfl) hC (fun Γ20 hC hD => ?_)
  refine g_aload_n0 dX4_init_23 rfl ?_
  refine g_iconst (v := 0) dX4_init_24 rfl rfl ?_
  refine n_put0 dX4_init_25 rfl fX4_22 (hD.o 1 rfl) rfl rfl rfl (hz.at 240 rfl 2) ?_
  refine g_aload_n0 dX4_init_28 rfl ?_
  refine g_iconst (v := 0) dX4_init_29 rfl rfl ?_
  refine n_put0 dX4_init_30 rfl fX4_26 (hD.o 1 rfl) rfl rfl rfl (hz.at 240 rfl 3) ?_
  refine g_aload_n0 dX4_init_33 rfl ?_
  refine g_iconst (v := 0) dX4_init_34 rfl rfl ?_
  refine n_put0 dX4_init_35 rfl fX4_29 (hD.o 1 rfl) rfl rfl rfl (hz.at 240 rfl 4) ?_
  exact g_vretN dX4_init_38 rfl ⟨Nat.le_of_ble_eq_true rfl, Nat.le_of_ble_eq_true rfl⟩ ⟨hD, hC, rfl⟩
def lGt : List (Nat × gSh) := (lT200 ++ [(253, .inr (2, 6)), (252, .inr (3, 2048)), (250, .inl (1, [some (some 251), some (some 252), some (some 253), some (some 200), none, none])), (251, .inr (2, 6000))] : List (Nat × gSh))
theorem k_Gt {Γ : gW} {M : gM} {d : Nat} (hd0 : 1 ≤ d := by omega) (ho : g_o Γ 250 (.inl (1, nulX1))) (hN : gN0 [200, 201, 202, 203, 204, 205, 206, 207, 208, 209, 210, 251, 252, 253] Γ) (hC : gCl Γ M) (hz : gZ0 [250, 200, 201, 202, 203, 204, 205, 206, 207, 208, 209, 210, 251, 252, 253] M) : CtN PXN Γ yX1_init μX1_init d 14 8258 [.ref 250] M (fun Γ' M' => gD Γ Γ' lGt ∧ (gCl Γ' M' ∧ M' = M)) := by
  refine g_enterN (by decide +kernel) rfl rfl rfl (by decide) ?_
  show G _ _ _ _ _ _ [some (.ref 250)] _ _
  have hD : gD Γ Γ [] := gD.rf
  refine g_aload_n0 dX1_init_0 rfl ?_
  refine g_objInit dX1_init_1 rfl oi_X1 oi_i oi_c ⟨by show 1 ≤ d + 8; omega, by show 0 + 12 ≤ 150 + 50 * d; omega⟩ ?_
  refine g_aload_n0 dX1_init_4 rfl ?_
  refine g_sipush (v := 6000) dX1_init_5 rfl rfl ?_
  refine n_newa2 hD (i := 251) (n := 6000) (kn' := (1, 6000)) (hN.at 251 rfl) rfl dX1_init_8 rfl w_al rfl (Nat.le_of_ble_eq_true rfl) (Nat.le_of_ble_eq_true rfl) hC (hz.al 251 rfl) rfl ⟨Nat.le_of_ble_eq_true rfl, Nat.le_of_ble_eq_true rfl⟩ rfl (fun Γ8 hC hD => ?_)
  refine n_putF0 hD ho rfl (hD.o 0 rfl).1 (t' := [some (some 251), some none, some none, some none, none, none]) rfl (fun _ _ _ h => h.1) dX1_init_10 rfl fX1_11 (fun C T N h => by cases h; rfl) (Nat.le_of_ble_eq_true rfl) (fun _ => rfl) (fun _ => rfl) hC (fun Γ10 hC hD => ?_)
  refine g_aload_n0 dX1_init_13 rfl ?_
  refine g_sipush (v := 2048) dX1_init_14 rfl rfl ?_
  refine n_newa3 hD (i := 252) (n := 2048) (kn' := (2, 8048)) (hN.at 252 rfl) rfl dX1_init_17 rfl w_as rfl (Nat.le_of_ble_eq_true rfl) (Nat.le_of_ble_eq_true rfl) hC (hz.at 252 rfl) rfl ⟨Nat.le_of_ble_eq_true rfl, Nat.le_of_ble_eq_true rfl⟩ rfl (fun Γ17 hC hD => ?_)
  refine n_putF (L' := ([(252, .inr (3, 2048)), (250, .inl (1, [some (some 251), some (some 252), some none, some none, none, none])), (251, .inr (2, 6000))] : List (Nat × gSh))) hD (hD.o 1 rfl) rfl (hD.o 0 rfl).1 (t' := [some (some 251), some (some 252), some none, some none, none, none]) rfl (by decide +kernel) (fun _ _ _ h => h.1) dX1_init_19 rfl fX1_15 (fun C T N h => by cases h; rfl) (Nat.le_of_ble_eq_true rfl) (fun _ => rfl) (fun _ => rfl) hC (fun Γ19 hC hD => ?_)
  refine g_aload_n0 dX1_init_22 rfl ?_
  refine g_bipush (v := 6) dX1_init_23 rfl rfl ?_
  refine n_newa2 hD (i := 253) (n := 6) (kn' := (3, 8054)) (hN.at 253 rfl) rfl dX1_init_25 rfl w_al rfl (Nat.le_of_ble_eq_true rfl) (Nat.le_of_ble_eq_true rfl) hC (hz.al 253 rfl) rfl ⟨Nat.le_of_ble_eq_true rfl, Nat.le_of_ble_eq_true rfl⟩ rfl (fun Γ25 hC hD => ?_)
  refine n_putF (L' := ([(253, .inr (2, 6)), (252, .inr (3, 2048)), (250, .inl (1, [some (some 251), some (some 252), some (some 253), some none, none, none])), (251, .inr (2, 6000))] : List (Nat × gSh))) hD (hD.o 2 rfl) rfl (hD.o 0 rfl).1 (t' := [some (some 251), some (some 252), some (some 253), some none, none, none]) rfl (by decide +kernel) (fun _ _ _ h => h.1) dX1_init_27 rfl fX1_19 (fun C T N h => by cases h; rfl) (Nat.le_of_ble_eq_true rfl) (fun _ => rfl) (fun _ => rfl) hC (fun Γ27 hC hD => ?_)
  refine g_aload_n0 dX1_init_30 rfl ?_
  refine n_new hD (i := 200) (ci := 3) (t := nulX3) (kn' := (4, 8070)) (hN.at 200 rfl) rfl dX1_init_31 rfl rfl uwX3 tyX3_ok nw_X1_22 nfX3 nrX3 (Nat.le_of_ble_eq_true rfl) hC (hz.at 200 rfl) rfl ⟨Nat.le_of_ble_eq_true rfl, Nat.le_of_ble_eq_true rfl⟩ rfl (fun Γ31 hC hD => ?_)
  refine g_dup dX1_init_34 rfl rfl ?_
  refine n_call (L' := (lT200 ++ [(253, .inr (2, 6)), (252, .inr (3, 2048)), (250, .inl (1, [some (some 251), some (some 252), some (some 253), some none, none, none])), (251, .inr (2, 6000))] : List (Nat × gSh))) (kn' := (14, 8258)) hD (zN_PX (fun _ _ _ h => h.2)) dX1_init_35 rfl in_X1_24 7 rfl (k_T200 (d := 0) (hD.o 0 rfl) (hN.gr hD (by decide +kernel)) hC (hz.sub (by decide +kernel))) (by decide +kernel) (hD.o 0 rfl).1 (by decide +kernel) (g_rmM (by omega)) ⟨Nat.le_of_ble_eq_true rfl, Nat.le_of_ble_eq_true rfl⟩ rfl (Nat.le_of_ble_eq_true rfl) (by decide +kernel) (fun Γ35 hC hD => ?_)
  refine n_putF (L' := (lT200 ++ [(253, .inr (2, 6)), (252, .inr (3, 2048)), (250, .inl (1, [some (some 251), some (some 252), some (some 253), some (some 200), none, none])), (251, .inr (2, 6000))] : List (Nat × gSh))) hD (hD.o 13 rfl) rfl (hD.o 9 rfl).1 (t' := [some (some 251), some (some 252), some (some 253), some (some 200), none, none]) rfl (by decide +kernel) (fun _ _ _ h => h.1) dX1_init_38 rfl fX1_25 (fun C T N h => by cases h; rfl) (Nat.le_of_ble_eq_true rfl) (fun _ => rfl) (fun _ => rfl) hC (fun Γ38 hC hD => ?_)
  refine g_aload_n0 dX1_init_41 rfl ?_
  refine g_iconst (v := 0) dX1_init_42 rfl rfl ?_
  refine n_put0 dX1_init_43 rfl fX1_29 (hD.o 13 rfl) rfl rfl rfl (hz.at 250 rfl 4) ?_
  refine g_aload_n0 dX1_init_46 rfl ?_
  refine g_iconst (v := 0) dX1_init_47 rfl rfl ?_
  refine n_put0 dX1_init_48 rfl fX1_33 (hD.o 13 rfl) rfl rfl rfl (hz.at 250 rfl 5) ?_
  exact g_vretN dX1_init_51 rfl ⟨Nat.le_of_ble_eq_true rfl, Nat.le_of_ble_eq_true rfl⟩ ⟨hD, hC, rfl⟩
