theorem CR.u425 {T : gTw} {M : gM} {k : Nat} {x : Int32} (h : CR T M) : CR T (g_u M 425 k x) := by
  unfold CR at h ⊢
  rw [g_u_ne (show 402 ≠ 425 by decide), g_u_ne (show 403 ≠ 425 by decide), g_u_ne (show 404 ≠ 425 by decide), g_u_ne (show 405 ≠ 425 by decide)]
  exact h
theorem WR.u425 {T : gTw} {M : gM} {k : Nat} {x : Int32} (h : WR T M) : WR T (g_u M 425 k x) := by
  unfold WR at h ⊢
  rw [g_u_ne (show 409 ≠ 425 by decide)]
  exact h
theorem troub_can {T : gTw} {g s n k : Int} (hO : TOK T) (h : troubT T g s n k = 0) : (0 ≤ g ∧ g < T 0 0) ∧ (0 ≤ k ∧ k < T 0 0) ∧ (0 ≤ s ∧ s < (2 : Int) ^ (T 0 1).toNat) ∧ canG T g.toNat s.toNat n k.toNat := by
  rw [troubT] at h
  by_cases h1 : g < 0 ∨ T 0 0 ≤ g ∨ k < 0 ∨ T 0 0 ≤ k
  · rw [if_pos h1] at h; omega
  rw [if_neg h1] at h
  by_cases h2 : s < 0 ∨ (2 : Int) ^ (T 0 1).toNat ≤ s ∨ n < 0
  · rw [if_pos h2] at h; omega
  rw [if_neg h2] at h
  by_cases h3 : T 4 g.toNat = 0
  · rw [if_pos h3] at h; omega
  rw [if_neg h3] at h
  by_cases h4 : ¬ nd s.toNat (hasT T g.toNat) = 0 ∨ T 3 g.toNat < n
  · rw [if_pos h4] at h; omega
  rw [if_neg h4] at h
  by_cases h5 : k = g ∨ (¬ T 5 g.toNat = -1 ∧ ¬ T 5 g.toNat = k)
  · rw [if_pos h5] at h; omega
  have hn0 : nd s.toNat (hasT T g.toNat) = 0 := by
    by_cases hz : nd s.toNat (hasT T g.toNat) = 0
    · exact hz
    · exact absurd (Or.inl hz) h4
  have hn3 : ¬ T 3 g.toNat < n := fun hz => h4 (Or.inr hz)
  exact ⟨by omega, by omega, by omega, by omega, by omega, by omega, nd0.mp hn0, by omega, by omega⟩
/-- the reference's memory behind a gift done now -/
def nowM (M M1 : gM) (n : Nat) (row r' : Nat → Int32) : Prop := (∀ j, j ≠ 300 → j ≠ 407 → j ≠ 425 → M1.1 j = M.1 j) ∧ M1.2 = M.2 ∧ (∀ k, k ≠ 24 → M1.1 300 k = M.1 300 k) ∧ (M1.1 300 24).toInt = n + 1 ∧ M1.1 407 = r' ∧ (∀ j, j < 9 → M1.1 425 (9 * n + j) = row j) ∧ ∀ k, k < 9 * n → M1.1 425 k = M.1 425 k
def bkRow (r : Nat → Int32) (p o : Nat) (pI s n oI v : Int32) : Nat → Int32 := fun j => if j = 0 then pI else if j = 1 then s else if j = 2 then n else if j = 3 then oI else if j = 4 then v else if j = 5 then r (18 + p) else if j = 6 then r (24 + p) else if j = 7 then r (18 + o) else r (24 + o)
set_option maxHeartbeats 1200000 in
theorem r_makeNow {Γ : gW} {M : gM} {T : gTw} (hR : g_Ref Γ) (hO : TOK T) (hC : CR T M) (hW : WR T M) (hg : 0 ≤ (M.1 300 24).toInt ∧ (M.1 300 24).toInt < 200) {p s n k : Int32} (hp : 0 ≤ p.toInt ∧ p.toInt < 6) (hk : 0 ≤ k.toInt ∧ k.toInt < 6) (hs : 0 ≤ s.toInt ∧ s.toInt < (2 : Int) ^ (T 0 1).toNat) (hn : -10000 ≤ n.toInt ∧ n.toInt ≤ 10000)  : Ct Γ yX6_makeNow μX6_makeNow 2 [.ref 300, .int p, .int s, .int n, .int k] M (g_qv (fun M1 => ∃ v : Int32, v.toInt = wtT T s.toInt.toNat + n.toInt ∧ nowM M M1 (M.1 300 24).toInt.toNat (bkRow (M.1 407) p.toInt.toNat k.toInt.toNat p s n k v) (mkRow (M.1 407) (T 0 1).toNat p.toInt.toNat s.toInt.toNat k.toInt.toNat n v k p (T 0 2)))) := by
  refine g_enter rfl rfl rfl (Nat.le_of_ble_eq_true rfl) ?_
  show G Γ _ _ _ _ 0 [some (.ref 300), some (.int p), some (.int s), some (.int n), some (.int k), none] [] M
  refine g_bipushI dX6_makeNow_0 rfl rfl (fun w0 h0 => ?_)
  refine g_aload_n0 dX6_makeNow_2 rfl ?_
  refine g_geti dX6_makeNow_3 rfl fX6_256 hR.1 rfl ?_
  refine g_imulI dX6_makeNow_6 rfl ⟨by rw [h0]; omega, by rw [h0]; omega⟩ (fun w6 h6 => ?_)
  rw [h0] at h6
  refine g_istore5 dX6_makeNow_7 rfl rfl ?_
  refine g_aload_n0 dX6_makeNow_9 rfl ?_
  refine g_getr dX6_makeNow_10 rfl fX6_64 hR.1 rfl ?_
  refine g_iload5 dX6_makeNow_13 rfl ?_
  refine g_iload_n1 dX6_makeNow_15 rfl ?_
  refine g_iastI dX6_makeNow_16 rfl (rf_book hR) ⟨by omega, by omega⟩ ?_
  refine g_aload_n0 dX6_makeNow_17 rfl ?_
  refine g_getr dX6_makeNow_18 rfl fX6_64 hR.1 rfl ?_
  refine g_iload5 dX6_makeNow_21 rfl ?_
  refine g_iconstI dX6_makeNow_23 rfl rfl (fun w23 h23 => ?_)
  refine g_iaddI dX6_makeNow_24 rfl ⟨by omega, by omega⟩ (fun w24 h24 => ?_)
  refine g_iload_n2 dX6_makeNow_25 rfl ?_
  refine g_iastI dX6_makeNow_26 rfl (rf_book hR) ⟨by omega, by omega⟩ ?_
  refine g_aload_n0 dX6_makeNow_27 rfl ?_
  refine g_getr dX6_makeNow_28 rfl fX6_64 hR.1 rfl ?_
  refine g_iload5 dX6_makeNow_31 rfl ?_
  refine g_iconstI dX6_makeNow_33 rfl rfl (fun w33 h33 => ?_)
  refine g_iaddI dX6_makeNow_34 rfl ⟨by omega, by omega⟩ (fun w34 h34 => ?_)
  refine g_iload_n3 dX6_makeNow_35 rfl ?_
  refine g_iastI dX6_makeNow_36 rfl (rf_book hR) ⟨by omega, by omega⟩ ?_
  refine g_aload_n0 dX6_makeNow_37 rfl ?_
  refine g_getr dX6_makeNow_38 rfl fX6_64 hR.1 rfl ?_
  refine g_iload5 dX6_makeNow_41 rfl ?_
  refine g_iconstI dX6_makeNow_43 rfl rfl (fun w43 h43 => ?_)
  refine g_iaddI dX6_makeNow_44 rfl ⟨by omega, by omega⟩ (fun w44 h44 => ?_)
  refine g_iload4 dX6_makeNow_45 rfl ?_
  refine g_iastI dX6_makeNow_47 rfl (rf_book hR) ⟨by omega, by omega⟩ ?_
  refine g_aload_n0 dX6_makeNow_48 rfl ?_
  refine g_getr dX6_makeNow_49 rfl fX6_64 hR.1 rfl ?_
  refine g_iload5 dX6_makeNow_52 rfl ?_
  refine g_iconstI dX6_makeNow_54 rfl rfl (fun w54 h54 => ?_)
  refine g_iaddI dX6_makeNow_55 rfl ⟨by omega, by omega⟩ (fun w55 h55 => ?_)
  refine g_aload_n0 dX6_makeNow_56 rfl ?_
  refine g_getr dX6_makeNow_57 rfl fX6_41 hR.1 rfl ?_
  refine g_bipushI dX6_makeNow_60 rfl rfl (fun w60 h60 => ?_)
  refine g_iload_n1 dX6_makeNow_62 rfl ?_
  refine g_iaddI dX6_makeNow_63 rfl ⟨by omega, by omega⟩ (fun w63 h63 => ?_)
  refine g_ialdI dX6_makeNow_64 rfl (rf_now hR) ⟨by omega, by omega⟩ ?_
  rw [g_u_ne (show 407 ≠ 425 by omega)]
  rw [g_u_ne (show 407 ≠ 425 by omega)]
  rw [g_u_ne (show 407 ≠ 425 by omega)]
  rw [g_u_ne (show 407 ≠ 425 by omega)]
  have i64 : w63.toInt.toNat = 18 + p.toInt.toNat := by omega
  rw [i64]
  clear i64
  refine g_iastI dX6_makeNow_65 rfl (rf_book hR) ⟨by omega, by omega⟩ ?_
  refine g_aload_n0 dX6_makeNow_66 rfl ?_
  refine g_getr dX6_makeNow_67 rfl fX6_64 hR.1 rfl ?_
  refine g_iload5 dX6_makeNow_70 rfl ?_
  refine g_bipushI dX6_makeNow_72 rfl rfl (fun w72 h72 => ?_)
  refine g_iaddI dX6_makeNow_74 rfl ⟨by omega, by omega⟩ (fun w74 h74 => ?_)
  refine g_aload_n0 dX6_makeNow_75 rfl ?_
  refine g_getr dX6_makeNow_76 rfl fX6_41 hR.1 rfl ?_
  refine g_bipushI dX6_makeNow_79 rfl rfl (fun w79 h79 => ?_)
  refine g_iload_n1 dX6_makeNow_81 rfl ?_
  refine g_iaddI dX6_makeNow_82 rfl ⟨by omega, by omega⟩ (fun w82 h82 => ?_)
  refine g_ialdI dX6_makeNow_83 rfl (rf_now hR) ⟨by omega, by omega⟩ ?_
  rw [g_u_ne (show 407 ≠ 425 by omega)]
  rw [g_u_ne (show 407 ≠ 425 by omega)]
  rw [g_u_ne (show 407 ≠ 425 by omega)]
  rw [g_u_ne (show 407 ≠ 425 by omega)]
  rw [g_u_ne (show 407 ≠ 425 by omega)]
  have i83 : w82.toInt.toNat = 24 + p.toInt.toNat := by omega
  rw [i83]
  clear i83
  refine g_iastI dX6_makeNow_84 rfl (rf_book hR) ⟨by omega, by omega⟩ ?_
  refine g_aload_n0 dX6_makeNow_85 rfl ?_
  refine g_getr dX6_makeNow_86 rfl fX6_64 hR.1 rfl ?_
  refine g_iload5 dX6_makeNow_89 rfl ?_
  refine g_bipushI dX6_makeNow_91 rfl rfl (fun w91 h91 => ?_)
  refine g_iaddI dX6_makeNow_93 rfl ⟨by omega, by omega⟩ (fun w93 h93 => ?_)
  refine g_aload_n0 dX6_makeNow_94 rfl ?_
  refine g_getr dX6_makeNow_95 rfl fX6_41 hR.1 rfl ?_
  refine g_bipushI dX6_makeNow_98 rfl rfl (fun w98 h98 => ?_)
  refine g_iload4 dX6_makeNow_100 rfl ?_
  refine g_iaddI dX6_makeNow_102 rfl ⟨by omega, by omega⟩ (fun w102 h102 => ?_)
  refine g_ialdI dX6_makeNow_103 rfl (rf_now hR) ⟨by omega, by omega⟩ ?_
  rw [g_u_ne (show 407 ≠ 425 by omega)]
  rw [g_u_ne (show 407 ≠ 425 by omega)]
  rw [g_u_ne (show 407 ≠ 425 by omega)]
  rw [g_u_ne (show 407 ≠ 425 by omega)]
  rw [g_u_ne (show 407 ≠ 425 by omega)]
  rw [g_u_ne (show 407 ≠ 425 by omega)]
  have i103 : w102.toInt.toNat = 18 + k.toInt.toNat := by omega
  rw [i103]
  clear i103
  refine g_iastI dX6_makeNow_104 rfl (rf_book hR) ⟨by omega, by omega⟩ ?_
  refine g_aload_n0 dX6_makeNow_105 rfl ?_
  refine g_getr dX6_makeNow_106 rfl fX6_64 hR.1 rfl ?_
  refine g_iload5 dX6_makeNow_109 rfl ?_
  refine g_bipushI dX6_makeNow_111 rfl rfl (fun w111 h111 => ?_)
  refine g_iaddI dX6_makeNow_113 rfl ⟨by omega, by omega⟩ (fun w113 h113 => ?_)
  refine g_aload_n0 dX6_makeNow_114 rfl ?_
  refine g_getr dX6_makeNow_115 rfl fX6_41 hR.1 rfl ?_
  refine g_bipushI dX6_makeNow_118 rfl rfl (fun w118 h118 => ?_)
  refine g_iload4 dX6_makeNow_120 rfl ?_
  refine g_iaddI dX6_makeNow_122 rfl ⟨by omega, by omega⟩ (fun w122 h122 => ?_)
  refine g_ialdI dX6_makeNow_123 rfl (rf_now hR) ⟨by omega, by omega⟩ ?_
  rw [g_u_ne (show 407 ≠ 425 by omega)]
  rw [g_u_ne (show 407 ≠ 425 by omega)]
  rw [g_u_ne (show 407 ≠ 425 by omega)]
  rw [g_u_ne (show 407 ≠ 425 by omega)]
  rw [g_u_ne (show 407 ≠ 425 by omega)]
  rw [g_u_ne (show 407 ≠ 425 by omega)]
  rw [g_u_ne (show 407 ≠ 425 by omega)]
  have i123 : w122.toInt.toNat = 24 + k.toInt.toNat := by omega
  rw [i123]
  clear i123
  refine g_iastI dX6_makeNow_124 rfl (rf_book hR) ⟨by omega, by omega⟩ ?_
  refine g_aload_n0 dX6_makeNow_125 rfl ?_
  refine g_getr dX6_makeNow_126 rfl fX6_64 hR.1 rfl ?_
  refine g_iload5 dX6_makeNow_129 rfl ?_
  refine g_iconstI dX6_makeNow_131 rfl rfl (fun w131 h131 => ?_)
  refine g_iaddI dX6_makeNow_132 rfl ⟨by omega, by omega⟩ (fun w132 h132 => ?_)
  refine g_aload_n0 dX6_makeNow_133 rfl ?_
  refine g_aload_n0 dX6_makeNow_134 rfl ?_
  refine g_getr dX6_makeNow_135 rfl fX6_41 hR.1 rfl ?_
  refine g_iload_n1 dX6_makeNow_138 rfl ?_
  refine g_iload_n2 dX6_makeNow_139 rfl ?_
  refine g_iload_n3 dX6_makeNow_140 rfl ?_
  refine g_iload4 dX6_makeNow_141 rfl ?_
  refine g_callVi5 dX6_makeNow_143 rfl vX6_285 hR.1 rfl (r_make hR hO (CR.u425 (CR.u425 (CR.u425 (CR.u425 (CR.u425 (CR.u425 (CR.u425 (CR.u425 hC)))))))) (WR.u425 (WR.u425 (WR.u425 (WR.u425 (WR.u425 (WR.u425 (WR.u425 (WR.u425 hW)))))))) (rf_now hR) hp hk hs hn) (g_rm (by omega)) (Nat.le_of_ble_eq_true rfl) (fun z143 M143 e143 => ?_)
  obtain ⟨ev, e143⟩ := e143
  rw [g_u_ne (show 407 ≠ 425 by decide), g_u_ne (show 407 ≠ 425 by decide), g_u_ne (show 407 ≠ 425 by decide), g_u_ne (show 407 ≠ 425 by decide), g_u_ne (show 407 ≠ 425 by decide), g_u_ne (show 407 ≠ 425 by decide), g_u_ne (show 407 ≠ 425 by decide), g_u_ne (show 407 ≠ 425 by decide)] at e143
  subst e143
  refine g_iastI dX6_makeNow_146 rfl (rf_book hR) ⟨by omega, by omega⟩ ?_
  refine g_aload_n0 dX6_makeNow_147 rfl ?_
  refine g_dup dX6_makeNow_148 rfl rfl ?_
  refine g_geti dX6_makeNow_149 rfl fX6_256 hR.1 rfl ?_
  rw [g_u_ne (show 300 ≠ 425 by omega)]
  rw [g_row_ne (show 300 ≠ 407 by decide), g_u_ne (show 300 ≠ 425 by decide), g_u_ne (show 300 ≠ 425 by decide), g_u_ne (show 300 ≠ 425 by decide), g_u_ne (show 300 ≠ 425 by decide), g_u_ne (show 300 ≠ 425 by decide), g_u_ne (show 300 ≠ 425 by decide), g_u_ne (show 300 ≠ 425 by decide), g_u_ne (show 300 ≠ 425 by decide)]
  refine g_iconstI dX6_makeNow_152 rfl rfl (fun w152 h152 => ?_)
  refine g_iaddI dX6_makeNow_153 rfl ⟨by omega, by omega⟩ (fun w153 h153 => ?_)
  refine g_put dX6_makeNow_154 rfl fX6_256 hR.1 rfl rfl rfl ?_
  refine g_vret dX6_makeNow_157 rfl ?_
  have q0 : w6.toInt.toNat = 9 * (M.1 300 24).toInt.toNat + 0 := by omega
  have q1 : w24.toInt.toNat = 9 * (M.1 300 24).toInt.toNat + 1 := by omega
  have q2 : w34.toInt.toNat = 9 * (M.1 300 24).toInt.toNat + 2 := by omega
  have q3 : w44.toInt.toNat = 9 * (M.1 300 24).toInt.toNat + 3 := by omega
  have q5 : w55.toInt.toNat = 9 * (M.1 300 24).toInt.toNat + 5 := by omega
  have q6 : w74.toInt.toNat = 9 * (M.1 300 24).toInt.toNat + 6 := by omega
  have q7 : w93.toInt.toNat = 9 * (M.1 300 24).toInt.toNat + 7 := by omega
  have q8 : w113.toInt.toNat = 9 * (M.1 300 24).toInt.toNat + 8 := by omega
  have q4 : w132.toInt.toNat = 9 * (M.1 300 24).toInt.toNat + 4 := by omega
  rw [q0, q1, q2, q3, q4, q5, q6, q7, q8]
  clear q0 q1 q2 q3 q4 q5 q6 q7 q8
  refine ⟨rfl, z143, ev, fun j h1 h2 h3 => ?_, rfl, fun k hk => ?_, ?_, ?_, fun j hj => ?_, fun k hk => ?_⟩
  · rw [g_u_ne h1, g_u_ne h3, g_row_ne h2, g_u_ne h3, g_u_ne h3, g_u_ne h3, g_u_ne h3, g_u_ne h3, g_u_ne h3, g_u_ne h3, g_u_ne h3]
  · rw [g_u_eq, if_neg hk, g_u_ne (show 300 ≠ 425 by decide), g_row_ne (show 300 ≠ 407 by decide), g_u_ne (show 300 ≠ 425 by decide), g_u_ne (show 300 ≠ 425 by decide), g_u_ne (show 300 ≠ 425 by decide), g_u_ne (show 300 ≠ 425 by decide), g_u_ne (show 300 ≠ 425 by decide), g_u_ne (show 300 ≠ 425 by decide), g_u_ne (show 300 ≠ 425 by decide), g_u_ne (show 300 ≠ 425 by decide)]
  · rw [g_u_eq, if_pos rfl]; omega
  · rw [g_u_ne (show 407 ≠ 300 by decide), g_u_ne (show 407 ≠ 425 by decide), g_row_at]
  · rw [g_u_ne (show 425 ≠ 300 by decide), g_u_eq, g_row_ne (show 425 ≠ 407 by decide)]
    simp only [g_u_eq]
    rw [bkRow]
    rcases (show j = 0 ∨ j = 1 ∨ j = 2 ∨ j = 3 ∨ j = 4 ∨ j = 5 ∨ j = 6 ∨ j = 7 ∨ j = 8 by omega) with rfl | rfl | rfl | rfl | rfl | rfl | rfl | rfl | rfl <;> simp
  · rw [g_u_ne (show 425 ≠ 300 by decide), g_u_eq, if_neg (by omega), g_row_ne (show 425 ≠ 407 by decide)]
    simp only [g_u_eq]
    rw [if_neg (by omega), if_neg (by omega), if_neg (by omega), if_neg (by omega), if_neg (by omega), if_neg (by omega), if_neg (by omega), if_neg (by omega)]
set_option maxHeartbeats 1200000 in
theorem r_give {Γ : gW} {M : gM} {T : gTw} (hR : g_Ref Γ) (hO : TOK T) (hS : RS T M) (hg : 0 ≤ (M.1 300 24).toInt ∧ (M.1 300 24).toInt ≤ 200) (hst : 0 ≤ (M.1 406 1).toInt ∧ (M.1 406 1).toInt ≤ 1000000) {p s n k : Int32} : Ct Γ yX6_give μX6_give 3 [.ref 300, .int p, .int s, .int n, .int k] M (g_qi (fun z M1 => (¬ troubT T p.toInt s.toInt n.toInt k.toInt = 0 ∧ z.toInt = troubT T p.toInt s.toInt n.toInt k.toInt ∧ ∃ x : Int32, x.toInt = (M.1 406 1).toInt + 1 ∧ M1 = g_u (g_u M 300 1 0) 406 1 x) ∨ (troubT T p.toInt s.toInt n.toInt k.toInt = 0 ∧ (M.1 300 24).toInt = 200 ∧ z.toInt = 7 ∧ ∃ x : Int32, x.toInt = (M.1 406 1).toInt + 1 ∧ M1 = g_u (g_u M 300 1 0) 406 1 x) ∨ (troubT T p.toInt s.toInt n.toInt k.toInt = 0 ∧ (M.1 300 24).toInt < 200 ∧ z.toInt = 0 ∧ ∃ v : Int32, v.toInt = wtT T s.toInt.toNat + n.toInt ∧ nowM (g_u M 300 1 0) M1 (M.1 300 24).toInt.toNat (bkRow (M.1 407) p.toInt.toNat k.toInt.toNat p s n k v) (mkRow (M.1 407) (T 0 1).toNat p.toInt.toNat s.toInt.toNat k.toInt.toNat n v k p (T 0 2))))) := by
  have hS0 := RS.code (x := 0) hS
  obtain ⟨hC, hW, hA, hDy, hWe⟩ := id hS0
  obtain ⟨o_pe, o_th, o_la, o_wi, o_da, o_we, o_p, o_i⟩ := id hO
  obtain ⟨r_0, r_1, r_2, r_3, r_p, r_i⟩ := id hC
  clear o_la o_da o_we o_i
  refine g_enter rfl rfl rfl (Nat.le_of_ble_eq_true rfl) ?_
  show G Γ _ _ _ _ 0 [some (.ref 300), some (.int p), some (.int s), some (.int n), some (.int k), none] [] M
  refine g_aload_n0 dX6_give_0 rfl ?_
  refine g_iconst (v := 0) dX6_give_1 rfl rfl ?_
  refine g_put dX6_give_2 rfl fX6_128 hR.1 rfl rfl rfl ?_
  refine g_aload_n0 dX6_give_5 rfl ?_
  refine g_iload_n1 dX6_give_6 rfl ?_
  refine g_iload_n2 dX6_give_7 rfl ?_
  refine g_iload_n3 dX6_give_8 rfl ?_
  refine g_iload4 dX6_give_9 rfl ?_
  refine g_callVi4 dX6_give_11 rfl vX6_289 hR.1 rfl (r_troubleOf hR hO hS0) (g_rm (by omega)) (Nat.le_of_ble_eq_true rfl) (fun z11 M11 e11 => ?_)
  obtain ⟨e11a, e11⟩ := e11
  subst e11a
  refine g_istore5 dX6_give_14 rfl rfl ?_
  refine g_iload5 dX6_give_16 rfl ?_
  refine g_if_neI (t := 36) dX6_give_18 (by decide) rfl (fun c18 => ?_) (fun c18 => ?_)
  · -- 18 t
    refine g_iload5 dX6_give_36 rfl ?_
    refine g_istore5 dX6_give_38 rfl rfl ?_
    refine g_iload5 dX6_give_40 rfl ?_
    refine g_if_eqI (t := 58) dX6_give_42 (by decide) rfl (fun c42 => ?_) (fun c42 => ?_)
    · -- 42 t
      obtain ⟨hcp, hck, hcs, hcg⟩ := troub_can hO (by rw [← e11]; omega)
      have hb3 := (o_p p.toInt.toNat (by omega)).2.2.1
      have hb4 := hcg.2.2.2.2
      refine g_aload_n0 dX6_give_58 rfl ?_
      refine g_iload_n1 dX6_give_59 rfl ?_
      refine g_iload_n2 dX6_give_60 rfl ?_
      refine g_iload_n3 dX6_give_61 rfl ?_
      refine g_iload4 dX6_give_62 rfl ?_
      refine g_callVv4 dX6_give_64 rfl vX6_293 hR.1 rfl (r_makeNow hR hO hC hW ⟨by rw [g_u_eq, if_neg (by decide)]; omega, by rw [g_u_eq, if_neg (by decide)]; omega⟩ ⟨by omega, by omega⟩ ⟨by omega, by omega⟩ hcs ⟨by omega, by omega⟩) (g_rm (by omega)) (Nat.le_of_ble_eq_true rfl) (fun M64 e64 => ?_)
      refine g_iconstI dX6_give_67 rfl rfl (fun w67 h67 => ?_)
      refine g_iret dX6_give_68 rfl ?_
      refine ⟨_, rfl, Or.inr (Or.inr ⟨by omega, by omega, by omega, ?_⟩)⟩
      obtain ⟨v, hv, hn⟩ := e64
      rw [g_u_eq, if_neg (show ¬ (24 : Nat) = 1 by decide), g_u_ne (show 407 ≠ 300 by decide)] at hn
      exact ⟨v, hv, hn⟩
    · -- 42 f
      refine g_aload_n0 dX6_give_45 rfl ?_
      refine g_getr dX6_give_46 rfl fX6_38 hR.1 rfl ?_
      refine g_iconstI dX6_give_49 rfl rfl (fun w49 h49 => ?_)
      refine g_dup2 dX6_give_50 rfl rfl rfl ?_
      refine g_ialdI dX6_give_51 rfl (rf_status hR) ⟨by omega, by omega⟩ ?_
      rw [g_u_ne (show 406 ≠ 300 by omega)]
      have i51 : w49.toInt.toNat = 1 := by omega
      rw [i51]
      clear i51
      refine g_iconstI dX6_give_52 rfl rfl (fun w52 h52 => ?_)
      refine g_iaddI dX6_give_53 rfl ⟨by omega, by omega⟩ (fun w53 h53 => ?_)
      refine g_iastI dX6_give_54 rfl (rf_status hR) ⟨by omega, by omega⟩ ?_
      have i54 : w49.toInt.toNat = 1 := by omega
      rw [i54]
      clear i54
      refine g_iload5 dX6_give_55 rfl ?_
      refine g_iret dX6_give_57 rfl ?_
      refine ⟨_, rfl, ?_⟩
      first
        | (have hz := h31; exact Or.inr (Or.inl ⟨by omega, by omega, hz, w53, by omega, rfl⟩))
        | exact Or.inl ⟨by omega, by omega, w53, by omega, rfl⟩
  · -- 18 f
    refine g_aload_n0 dX6_give_21 rfl ?_
    refine g_geti dX6_give_22 rfl fX6_256 hR.1 rfl ?_
    rw [g_u_eq, if_neg (show ¬ (24 : Nat) = 1 by decide)]
    refine g_sipushI dX6_give_25 rfl rfl (fun w25 h25 => ?_)
    refine g_icmp_neI (t := 36) dX6_give_28 (by decide) rfl (fun c28 => ?_) (fun c28 => ?_)
    · -- 28 t
      refine g_iload5 dX6_give_36 rfl ?_
      refine g_istore5 dX6_give_38 rfl rfl ?_
      refine g_iload5 dX6_give_40 rfl ?_
      refine g_if_eqI (t := 58) dX6_give_42 (by decide) rfl (fun c42 => ?_) (fun c42 => ?_)
      · -- 42 t
        obtain ⟨hcp, hck, hcs, hcg⟩ := troub_can hO (by rw [← e11]; omega)
        have hb3 := (o_p p.toInt.toNat (by omega)).2.2.1
        have hb4 := hcg.2.2.2.2
        refine g_aload_n0 dX6_give_58 rfl ?_
        refine g_iload_n1 dX6_give_59 rfl ?_
        refine g_iload_n2 dX6_give_60 rfl ?_
        refine g_iload_n3 dX6_give_61 rfl ?_
        refine g_iload4 dX6_give_62 rfl ?_
        refine g_callVv4 dX6_give_64 rfl vX6_293 hR.1 rfl (r_makeNow hR hO hC hW ⟨by rw [g_u_eq, if_neg (by decide)]; omega, by rw [g_u_eq, if_neg (by decide)]; omega⟩ ⟨by omega, by omega⟩ ⟨by omega, by omega⟩ hcs ⟨by omega, by omega⟩) (g_rm (by omega)) (Nat.le_of_ble_eq_true rfl) (fun M64 e64 => ?_)
        refine g_iconstI dX6_give_67 rfl rfl (fun w67 h67 => ?_)
        refine g_iret dX6_give_68 rfl ?_
        refine ⟨_, rfl, Or.inr (Or.inr ⟨by omega, by omega, by omega, ?_⟩)⟩
        obtain ⟨v, hv, hn⟩ := e64
        rw [g_u_eq, if_neg (show ¬ (24 : Nat) = 1 by decide), g_u_ne (show 407 ≠ 300 by decide)] at hn
        exact ⟨v, hv, hn⟩
      · -- 42 f
        refine g_aload_n0 dX6_give_45 rfl ?_
        refine g_getr dX6_give_46 rfl fX6_38 hR.1 rfl ?_
        refine g_iconstI dX6_give_49 rfl rfl (fun w49 h49 => ?_)
        refine g_dup2 dX6_give_50 rfl rfl rfl ?_
        refine g_ialdI dX6_give_51 rfl (rf_status hR) ⟨by omega, by omega⟩ ?_
        rw [g_u_ne (show 406 ≠ 300 by omega)]
        have i51 : w49.toInt.toNat = 1 := by omega
        rw [i51]
        clear i51
        refine g_iconstI dX6_give_52 rfl rfl (fun w52 h52 => ?_)
        refine g_iaddI dX6_give_53 rfl ⟨by omega, by omega⟩ (fun w53 h53 => ?_)
        refine g_iastI dX6_give_54 rfl (rf_status hR) ⟨by omega, by omega⟩ ?_
        have i54 : w49.toInt.toNat = 1 := by omega
        rw [i54]
        clear i54
        refine g_iload5 dX6_give_55 rfl ?_
        refine g_iret dX6_give_57 rfl ?_
        refine ⟨_, rfl, ?_⟩
        first
          | (have hz := h31; exact Or.inr (Or.inl ⟨by omega, by omega, hz, w53, by omega, rfl⟩))
          | exact Or.inl ⟨by omega, by omega, w53, by omega, rfl⟩
    · -- 28 f
      refine g_bipushI dX6_give_31 rfl rfl (fun w31 h31 => ?_)
      refine g_goto (t := 38) dX6_give_33 (by decide) ?_
      refine g_istore5 dX6_give_38 rfl rfl ?_
      refine g_iload5 dX6_give_40 rfl ?_
      refine g_if_eqI (t := 58) dX6_give_42 (by decide) rfl (fun c42 => ?_) (fun c42 => ?_)
      · -- 42 t
        obtain ⟨hcp, hck, hcs, hcg⟩ := troub_can hO (by rw [← e11]; omega)
        have hb3 := (o_p p.toInt.toNat (by omega)).2.2.1
        have hb4 := hcg.2.2.2.2
        refine g_aload_n0 dX6_give_58 rfl ?_
        refine g_iload_n1 dX6_give_59 rfl ?_
        refine g_iload_n2 dX6_give_60 rfl ?_
        refine g_iload_n3 dX6_give_61 rfl ?_
        refine g_iload4 dX6_give_62 rfl ?_
        refine g_callVv4 dX6_give_64 rfl vX6_293 hR.1 rfl (r_makeNow hR hO hC hW ⟨by rw [g_u_eq, if_neg (by decide)]; omega, by rw [g_u_eq, if_neg (by decide)]; omega⟩ ⟨by omega, by omega⟩ ⟨by omega, by omega⟩ hcs ⟨by omega, by omega⟩) (g_rm (by omega)) (Nat.le_of_ble_eq_true rfl) (fun M64 e64 => ?_)
        refine g_iconstI dX6_give_67 rfl rfl (fun w67 h67 => ?_)
        refine g_iret dX6_give_68 rfl ?_
        refine ⟨_, rfl, Or.inr (Or.inr ⟨by omega, by omega, by omega, ?_⟩)⟩
        obtain ⟨v, hv, hn⟩ := e64
        rw [g_u_eq, if_neg (show ¬ (24 : Nat) = 1 by decide), g_u_ne (show 407 ≠ 300 by decide)] at hn
        exact ⟨v, hv, hn⟩
      · -- 42 f
        refine g_aload_n0 dX6_give_45 rfl ?_
        refine g_getr dX6_give_46 rfl fX6_38 hR.1 rfl ?_
        refine g_iconstI dX6_give_49 rfl rfl (fun w49 h49 => ?_)
        refine g_dup2 dX6_give_50 rfl rfl rfl ?_
        refine g_ialdI dX6_give_51 rfl (rf_status hR) ⟨by omega, by omega⟩ ?_
        rw [g_u_ne (show 406 ≠ 300 by omega)]
        have i51 : w49.toInt.toNat = 1 := by omega
        rw [i51]
        clear i51
        refine g_iconstI dX6_give_52 rfl rfl (fun w52 h52 => ?_)
        refine g_iaddI dX6_give_53 rfl ⟨by omega, by omega⟩ (fun w53 h53 => ?_)
        refine g_iastI dX6_give_54 rfl (rf_status hR) ⟨by omega, by omega⟩ ?_
        have i54 : w49.toInt.toNat = 1 := by omega
        rw [i54]
        clear i54
        refine g_iload5 dX6_give_55 rfl ?_
        refine g_iret dX6_give_57 rfl ?_
        refine ⟨_, rfl, ?_⟩
        first
          | (have hz := h31; exact Or.inr (Or.inl ⟨by omega, by omega, hz, w53, by omega, rfl⟩))
          | exact Or.inl ⟨by omega, by omega, w53, by omega, rfl⟩
