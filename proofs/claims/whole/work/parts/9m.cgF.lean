theorem GC.ext {T0 : gTw} {σ : gGt} {M M' : gM} (h : GC T0 σ M) (h1 : M'.1 250 4 = M.1 250 4) (h2 : M'.1 250 5 = M.1 250 5) (h3 : M'.1 252 = M.1 252) (h4 : M'.2 251 = M.2 251) : GC T0 σ M' := by
  unfold GC GCs slt stL at h ⊢
  rw [h1, h2, h3, h4]; exact h
set_option maxHeartbeats 1200000 in
theorem c_noteState {Γ : gW} (hA : g_Get Γ) {T0 T : gTw} {σ : gGt} {M : gM} (hG : GC T0 σ M) (h00 : σ.2.2.2 = 0) (hI : INV T) (hX : TX T0 T) (hT : tv M 200 = T) {b : Int}  : Ct Γ yX1_noteState μX1_noteState 1 [.ref 250] M (g_qv (fun M1 => GC T0 (gcome T b σ) M1 ∧ frN1 M M1)) := by
  refine g_enter rfl rfl rfl (Nat.le_of_ble_eq_true rfl) ?_
  show G Γ _ _ _ _ 0 [some (.ref 250), none, none] [] M
  refine g_aload_n0 dX1_noteState_0 rfl ?_
  refine g_callVv0 dX1_noteState_1 rfl vX1_91 hA.1 rfl (c_pack hA hI.1 hT) (g_rm (by omega)) (Nat.le_of_ble_eq_true rfl) (fun M1 e1 => ?_)
  obtain ⟨e1a, e1b, e1c⟩ := e1
  have hG1 : GC T0 σ M1 := GC.ext hG (by rw [e1a]) (by rw [e1a]) (by rw [e1a]) (e1b 251 (by decide))
  have hP : GC1 T0 T (M1.2 253) := ⟨hI, hX, e1c⟩
  obtain ⟨g1, g2, g3, g4, g5, -⟩ := id hG1
  refine g_aload_n0 dX1_noteState_4 rfl ?_
  refine g_callVi0 dX1_noteState_5 rfl vX1_94 hA.1 rfl (c_sumOfPacked hA) (g_rm (by omega)) (Nat.le_of_ble_eq_true rfl) (fun z5 M5 e5 => ?_)
  obtain ⟨rfl, e5⟩ := e5
  have hhr := hS_rng (M5.2 253)
  refine g_istore_n1 dX1_noteState_8 rfl rfl ?_
  refine g_iconstI dX1_noteState_9 rfl rfl (fun w9 h9 => ?_)
  refine g_istore_n2 dX1_noteState_10 rfl rfl ?_
  refine l_ns hA hG1 hP (fun hex => ⟨rfl, by rw [gcome_old hex]; exact hG1, fun j _ _ => by rw [e1a], fun j _ c => e1b j c, fun k _ _ => by rw [e1a]⟩) (fun s9 k9 q1 q2 q3 q4 q5 => ?_) _ _ _ rfl (by omega) (by omega) ?_ (fun d hd => by omega)
  · have hml : (hN (M5.2 253) + k9.toInt.toNat) % 2048 < 2048 := Nat.mod_lt _ (by decide)
    refine g_aload_n0 dX1_noteState_57 rfl ?_
    refine g_geti dX1_noteState_58 rfl fX1_29 hA.1 rfl ?_
    refine g_sipushI dX1_noteState_61 rfl rfl (fun w61 h61 => ?_)
    refine g_icmp_ltI (t := 73) dX1_noteState_64 (by decide) rfl (fun c64 => ?_) (fun c64 => ?_)
    · -- 64 t
      refine g_aload_n0 dX1_noteState_73 rfl ?_
      refine g_getr dX1_noteState_74 rfl fX1_19 hA.1 rfl ?_
      refine g_iconstI dX1_noteState_77 rfl rfl (fun w77 h77 => ?_)
      refine g_aload_n0 dX1_noteState_78 rfl ?_
      refine g_getr dX1_noteState_79 rfl fX1_11 hA.1 rfl ?_
      refine g_aload_n0 dX1_noteState_82 rfl ?_
      refine g_geti dX1_noteState_83 rfl fX1_29 hA.1 rfl ?_
      refine g_bipushI dX1_noteState_86 rfl rfl (fun w86 h86 => ?_)
      refine g_imulI dX1_noteState_88 rfl ⟨by rw [h86]; omega, by rw [h86]; omega⟩ (fun w88 h88 => ?_)
      rw [h86] at h88
      refine g_bipushI dX1_noteState_89 rfl rfl (fun w89 h89 => ?_)
      refine g_acopyL dX1_noteState_91 rfl jaX1_101 ja_s ja_i ja_n hA.2.1 hA.2.2.2.1 (by omega) (by omega) (by omega) (by omega) (by omega) ⟨by show 1 ≤ _ + 1; omega, by show _ ≤ 40 + 50 * _; simp [Value.category] <;> omega⟩ ?_
      rw [show w77.toInt.toNat = 0 by omega, show w88.toInt.toNat = 6 * σ.1 by omega, show w89.toInt.toNat = 6 by omega]
      obtain ⟨fL, hfL⟩ : ∃ fL, fL = va_cpy (M5.2 253) (M5.2 251) 0 (6 * σ.1) 6 := ⟨_, rfl⟩
      rw [← hfL]
      have hf1 : ∀ q, q < 6 * σ.1 → fL q = M5.2 251 q := fun q hq => by rw [hfL, va_cpy, if_neg (by omega)]
      have hf2 : ∀ q, q < 6 → fL (6 * σ.1 + q) = M5.2 253 q := fun q hq => by rw [hfL, va_cpy, if_pos (by omega), show 0 + (6 * σ.1 + q - 6 * σ.1) = q by omega]
      obtain ⟨M9, hM9⟩ : ∃ M9, M9 = g_rowL M5 251 fL := ⟨_, rfl⟩
      refine g_fwd (M1 := M9) ?_ hM9
      have m91 : M9.1 = M5.1 := by rw [hM9]; rfl
      have m94 : (M9.1 250 4).toInt = (σ.1 : Int) := by rw [m91]; exact g1
      clear hfL
      refine g_aload_n0 dX1_noteState_94 rfl ?_
      refine g_dup dX1_noteState_95 rfl rfl ?_
      refine g_geti dX1_noteState_96 rfl fX1_29 hA.1 rfl ?_
      refine g_iconstI dX1_noteState_99 rfl rfl (fun w99 h99 => ?_)
      refine g_iaddI dX1_noteState_100 rfl ⟨by omega, by omega⟩ (fun w100 h100 => ?_)
      refine g_put dX1_noteState_101 rfl fX1_29 hA.1 rfl rfl rfl ?_
      refine g_aload_n0 dX1_noteState_104 rfl ?_
      refine g_getr dX1_noteState_105 rfl fX1_15 hA.1 rfl ?_
      refine g_iload_n1 dX1_noteState_108 rfl ?_
      refine g_aload_n0 dX1_noteState_109 rfl ?_
      refine g_geti dX1_noteState_110 rfl fX1_29 hA.1 rfl ?_
      rw [g_u_eq, if_pos (show (4 : Nat) = 4 from rfl)]
      refine g_i2s dX1_noteState_113 rfl ?_
      refine g_sastI dX1_noteState_114 rfl hA.2.2.1 ⟨by omega, by omega⟩ ?_
      rw [i2s_ok (by omega), show s9.toInt.toNat = (hN (M5.2 253) + k9.toInt.toNat) % 2048 by omega]
      refine g_vret dX1_noteState_115 rfl ?_
      rw [hM9]
      refine ⟨rfl, GC.add hG1 h00 hP (by omega) q4 q5 (by omega) (by omega) hf1 hf2, ?_⟩
      refine ⟨fun j a c => ?_, fun j a c => ?_, fun k a c => ?_⟩
      · rw [g_u_ne c, g_u_ne a]; show M5.1 j = _; rw [e1a]
      · show (g_rowL M5 251 fL).2 j = _; rw [g_rowL_ne a]; exact e1b j c
      · rw [g_u_ne (by decide), g_u_eq, if_neg a]; show M5.1 250 k = _; rw [e1a]
    · -- 64 f
      refine g_aload_n0 dX1_noteState_67 rfl ?_
      refine g_iconst (v := 1) dX1_noteState_68 rfl rfl ?_
      refine g_put dX1_noteState_69 rfl fX1_33 hA.1 rfl rfl rfl ?_
      refine g_vret dX1_noteState_72 rfl ?_
      refine ⟨rfl, GC.full hG1 (GC.none hG1 hP q4 q5) (by omega) rfl, ?_⟩
      exact ⟨fun j a c => by rw [g_u_ne a, e1a], fun j a c => by show M5.2 j = _; exact e1b j c, fun k a c => by rw [g_u_eq, if_neg c, e1a]⟩
  · rw [show w9.toInt.toNat = 0 by omega, Nat.add_zero, Nat.mod_eq_of_lt (hN_lt _), e5, hN]
    omega
