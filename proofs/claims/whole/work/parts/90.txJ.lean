set_option maxHeartbeats 1200000 in
theorem l_tw1 {Γ : gW} {M0 : gM} (hR : g_Ref Γ) {n0 : Int32} {Q : Option Value → gM → Prop} (hk : ∀ (M : gM) (i : Int32), (∀ j, j ≠ 402 → M.1 j = M0.1 j) → M.2 = M0.2 → (∀ k, k < 4 → M.1 402 k = M0.1 402 k) → (∀ k, 4 ≤ k → k < 8 → (M.1 402 k).toInt = 0) → G Γ μX6_town (g_R 8) (0, 0) (g_Z Γ Q) 69 [some (.ref 300), some (.int n0), some (.int i), none] [] M) : ∀ (n9 : Nat) (i : Int32) (M : gM), 8 - i.toInt.toNat = n9 → 4 ≤ i.toInt → i.toInt ≤ 8 → (∀ j, j ≠ 402 → M.1 j = M0.1 j) → M.2 = M0.2 → (∀ k, k < 4 → M.1 402 k = M0.1 402 k) → (∀ k, 4 ≤ k → k < i.toInt.toNat → (M.1 402 k).toInt = 0) → G Γ μX6_town (g_R 8) (0, 0) (g_Z Γ Q) 50 [some (.ref 300), some (.int n0), some (.int i), none] [] M := by
  intro n9
  induction n9 using Nat.strongRecOn with
  | ind n9 ih =>
    intro i M h9 hi0 hi1 g1 g2 g3 g4
    refine g_iload_n2 dX6_town_50 rfl ?_
    refine g_bipushI dX6_town_51 rfl rfl (fun w51 h51 => ?_)
    refine g_icmp_geI (t := 69) dX6_town_53 (by decide) rfl (fun c53 => ?_) (fun c53 => ?_)
    · -- 53 t
      exact hk M i g1 g2 g3 (fun k a b => g4 k a (by omega))
    · -- 53 f
      refine g_aload_n0 dX6_town_56 rfl ?_
      refine g_getr dX6_town_57 rfl fX6_25 hR.1 rfl ?_
      refine g_iload_n2 dX6_town_60 rfl ?_
      refine g_iconstI dX6_town_61 rfl rfl (fun w61 h61 => ?_)
      refine g_iastI dX6_town_62 rfl (rf_told hR) ⟨by omega, by omega⟩ ?_
      refine g_iincI2 dX6_town_63 rfl rfl rfl ⟨by omega, by omega⟩ (fun w63 h63 => ?_)
      refine g_goto (t := 50) dX6_town_66 (by decide) ?_
      refine ih _ (by omega) _ _ rfl (by omega) (by omega) (fun j hj => by rw [g_u_ne hj]; exact g1 j hj) g2 (fun k hk4 => by rw [g_u_eq, if_neg (by omega)]; exact g3 k hk4) (fun k a b => ?_)
      rw [g_u_eq]
      split
      · exact h61
      · exact g4 k a (by omega)
set_option maxHeartbeats 1200000 in
theorem l_tw3 {Γ : gW} {M0 : gM} (hR : g_Ref Γ) {n0 : Int32} {sn : Int32} {Q : Option Value → gM → Prop} (hk : ∀ (M : gM) (i : Int32), (∀ j, j ≠ 402 → M.1 j = M0.1 j) → M.2 = M0.2 → (∀ k, k < 4 → M.1 402 k = M0.1 402 (4 + k)) → G Γ μX6_town (g_R 8) (0, 0) (g_Z Γ Q) 162 [some (.ref 300), some (.int n0), some (.int sn), some (.int i)] [] M) : ∀ (n9 : Nat) (i : Int32) (M : gM), 4 - i.toInt.toNat = n9 → 0 ≤ i.toInt → i.toInt ≤ 4 → (∀ j, j ≠ 402 → M.1 j = M0.1 j) → M.2 = M0.2 → (∀ k, k < i.toInt.toNat → M.1 402 k = M0.1 402 (4 + k)) → (∀ k, 4 ≤ k → M.1 402 k = M0.1 402 k) → G Γ μX6_town (g_R 8) (0, 0) (g_Z Γ Q) 137 [some (.ref 300), some (.int n0), some (.int sn), some (.int i)] [] M := by
  intro n9
  induction n9 using Nat.strongRecOn with
  | ind n9 ih =>
    intro i M h9 hi0 hi1 g1 g2 g3 g4
    refine g_iload_n3 dX6_town_137 rfl ?_
    refine g_iconstI dX6_town_138 rfl rfl (fun w138 h138 => ?_)
    refine g_icmp_geI (t := 162) dX6_town_139 (by decide) rfl (fun c139 => ?_) (fun c139 => ?_)
    · -- 139 t
      exact hk M i g1 g2 (fun k a => g3 k (by omega))
    · -- 139 f
      refine g_aload_n0 dX6_town_142 rfl ?_
      refine g_getr dX6_town_143 rfl fX6_25 hR.1 rfl ?_
      refine g_iload_n3 dX6_town_146 rfl ?_
      refine g_aload_n0 dX6_town_147 rfl ?_
      refine g_getr dX6_town_148 rfl fX6_25 hR.1 rfl ?_
      refine g_iconstI dX6_town_151 rfl rfl (fun w151 h151 => ?_)
      refine g_iload_n3 dX6_town_152 rfl ?_
      refine g_iaddI dX6_town_153 rfl ⟨by omega, by omega⟩ (fun w153 h153 => ?_)
      refine g_ialdI dX6_town_154 rfl (rf_told hR) ⟨by omega, by omega⟩ ?_
      have i154 : w153.toInt.toNat = 4 + i.toInt.toNat := by omega
      rw [i154]
      clear i154
      refine g_iastI dX6_town_155 rfl (rf_told hR) ⟨by omega, by omega⟩ ?_
      refine g_iincI3 dX6_town_156 rfl rfl rfl ⟨by omega, by omega⟩ (fun w156 h156 => ?_)
      refine g_goto (t := 137) dX6_town_159 (by decide) ?_
      refine ih _ (by omega) _ _ rfl (by omega) (by omega) (fun j hj => by rw [g_u_ne hj]; exact g1 j hj) g2 (fun k hk4 => ?_) (fun k a => by rw [g_u_eq, if_neg (by omega)]; exact g4 k a)
      rw [g_u_eq]
      split
      · rename_i hki; rw [hki, g4 _ (by omega)]
      · exact g3 k (by omega)
set_option maxHeartbeats 1200000 in
theorem l_tw4 {Γ : gW} {M0 : gM} (hR : g_Ref Γ) {n0 : Int32} {sn : Int32} {Q : Option Value → gM → Prop} (hk : ∀ (M : gM) (i : Int32), (∀ j, j ≠ 403 → j ≠ 404 → M.1 j = M0.1 j) → M.2 = M0.2 → (∀ k, k < 6 → M.1 403 k = M0.1 403 (6 + k) ∧ M.1 404 k = M0.1 404 (6 + k)) → G Γ μX6_town (g_R 8) (0, 0) (g_Z Γ Q) 206 [some (.ref 300), some (.int n0), some (.int sn), some (.int i)] [] M) : ∀ (n9 : Nat) (i : Int32) (M : gM), 6 - i.toInt.toNat = n9 → 0 ≤ i.toInt → i.toInt ≤ 6 → (∀ j, j ≠ 403 → j ≠ 404 → M.1 j = M0.1 j) → M.2 = M0.2 → (∀ k, k < i.toInt.toNat → M.1 403 k = M0.1 403 (6 + k) ∧ M.1 404 k = M0.1 404 (6 + k)) → (∀ k, 6 ≤ k → M.1 403 k = M0.1 403 k ∧ M.1 404 k = M0.1 404 k) → G Γ μX6_town (g_R 8) (0, 0) (g_Z Γ Q) 164 [some (.ref 300), some (.int n0), some (.int sn), some (.int i)] [] M := by
  intro n9
  induction n9 using Nat.strongRecOn with
  | ind n9 ih =>
    intro i M h9 hi0 hi1 g1 g2 g3 g4
    refine g_iload_n3 dX6_town_164 rfl ?_
    refine g_bipushI dX6_town_165 rfl rfl (fun w165 h165 => ?_)
    refine g_icmp_geI (t := 206) dX6_town_167 (by decide) rfl (fun c167 => ?_) (fun c167 => ?_)
    · -- 167 t
      exact hk M i g1 g2 (fun k a => g3 k (by omega))
    · -- 167 f
      refine g_aload_n0 dX6_town_170 rfl ?_
      refine g_getr dX6_town_171 rfl fX6_29 hR.1 rfl ?_
      refine g_iload_n3 dX6_town_174 rfl ?_
      refine g_aload_n0 dX6_town_175 rfl ?_
      refine g_getr dX6_town_176 rfl fX6_29 hR.1 rfl ?_
      refine g_bipushI dX6_town_179 rfl rfl (fun w179 h179 => ?_)
      refine g_iload_n3 dX6_town_181 rfl ?_
      refine g_iaddI dX6_town_182 rfl ⟨by omega, by omega⟩ (fun w182 h182 => ?_)
      refine g_ialdI dX6_town_183 rfl (rf_kind hR) ⟨by omega, by omega⟩ ?_
      have i183 : w182.toInt.toNat = 6 + i.toInt.toNat := by omega
      rw [i183]
      clear i183
      refine g_iastI dX6_town_184 rfl (rf_kind hR) ⟨by omega, by omega⟩ ?_
      refine g_aload_n0 dX6_town_185 rfl ?_
      refine g_getr dX6_town_186 rfl fX6_32 hR.1 rfl ?_
      refine g_iload_n3 dX6_town_189 rfl ?_
      refine g_aload_n0 dX6_town_190 rfl ?_
      refine g_getr dX6_town_191 rfl fX6_32 hR.1 rfl ?_
      refine g_bipushI dX6_town_194 rfl rfl (fun w194 h194 => ?_)
      refine g_iload_n3 dX6_town_196 rfl ?_
      refine g_iaddI dX6_town_197 rfl ⟨by omega, by omega⟩ (fun w197 h197 => ?_)
      refine g_ialdI dX6_town_198 rfl (rf_kindBy hR) ⟨by omega, by omega⟩ ?_
      rw [g_u_ne (show 404 ≠ 403 by omega)]
      have i198 : w197.toInt.toNat = 6 + i.toInt.toNat := by omega
      rw [i198]
      clear i198
      refine g_iastI dX6_town_199 rfl (rf_kindBy hR) ⟨by omega, by omega⟩ ?_
      refine g_iincI3 dX6_town_200 rfl rfl rfl ⟨by omega, by omega⟩ (fun w200 h200 => ?_)
      refine g_goto (t := 164) dX6_town_203 (by decide) ?_
      have n43 : ∀ (M : gM) (a b : Nat) (x y : Int32) (k : Nat), (g_u (g_u M 403 a x) 404 b y).1 403 k = if k = a then x else M.1 403 k := fun M a b x y k => by rw [g_u_ne (by decide), g_u_eq]
      have n44 : ∀ (M : gM) (a b : Nat) (x y : Int32) (k : Nat), (g_u (g_u M 403 a x) 404 b y).1 404 k = if k = b then y else M.1 404 k := fun M a b x y k => by rw [g_u_eq, g_u_ne (by decide)]
      refine ih _ (by omega) _ _ rfl (by omega) (by omega) (fun j hj hj2 => by rw [g_u_ne hj2, g_u_ne hj]; exact g1 j hj hj2) g2 (fun k hk4 => ?_) (fun k a => by rw [n43, n44, if_neg (by omega), if_neg (by omega)]; exact g4 k a)
      rw [n43, n44]
      have q := g4 (6 + i.toInt.toNat) (by omega)
      by_cases hki : k = i.toInt.toNat
      · rw [if_pos hki, if_pos hki, hki]; exact q
      · rw [if_neg hki, if_neg hki]; exact g3 k (by omega)
set_option maxHeartbeats 1200000 in
theorem l_tw5 {Γ : gW} {M0 : gM} (hR : g_Ref Γ) {n0 : Int32} {sn : Int32} {Q : Option Value → gM → Prop} (hk : ∀ (M : gM) (i : Int32), (∀ j, j ≠ 405 → j ≠ 409 → j ≠ 411 → M.1 j = M0.1 j) → M.2 = M0.2 → (∀ k, k < 12 → M.1 405 k = M0.1 405 (12 + k) ∧ M.1 409 k = M0.1 410 k ∧ M.1 411 k = vp_nar .boolean (M0.1 411 (12 + k))) → G Γ μX6_town (g_R 8) (0, 0) (g_Z Γ Q) 262 [some (.ref 300), some (.int n0), some (.int sn), some (.int i)] [] M) : ∀ (n9 : Nat) (i : Int32) (M : gM), 12 - i.toInt.toNat = n9 → 0 ≤ i.toInt → i.toInt ≤ 12 → (∀ j, j ≠ 405 → j ≠ 409 → j ≠ 411 → M.1 j = M0.1 j) → M.2 = M0.2 → (∀ k, k < i.toInt.toNat → M.1 405 k = M0.1 405 (12 + k) ∧ M.1 409 k = M0.1 410 k ∧ M.1 411 k = vp_nar .boolean (M0.1 411 (12 + k))) → (∀ k, 12 ≤ k → M.1 405 k = M0.1 405 k ∧ M.1 411 k = M0.1 411 k) → G Γ μX6_town (g_R 8) (0, 0) (g_Z Γ Q) 208 [some (.ref 300), some (.int n0), some (.int sn), some (.int i)] [] M := by
  intro n9
  induction n9 using Nat.strongRecOn with
  | ind n9 ih =>
    intro i M h9 hi0 hi1 g1 g2 g3 g4
    have q4 := g4 (12 + i.toInt.toNat) (by omega)
    have q10 := g1 410 (by decide) (by decide) (by decide)
    refine g_iload_n3 dX6_town_208 rfl ?_
    refine g_bipushI dX6_town_209 rfl rfl (fun w209 h209 => ?_)
    refine g_icmp_geI (t := 262) dX6_town_211 (by decide) rfl (fun c211 => ?_) (fun c211 => ?_)
    · -- 211 t
      exact hk M i g1 g2 (fun k a => g3 k (by omega))
    · -- 211 f
      refine g_aload_n0 dX6_town_214 rfl ?_
      refine g_getr dX6_town_215 rfl fX6_35 hR.1 rfl ?_
      refine g_iload_n3 dX6_town_218 rfl ?_
      refine g_aload_n0 dX6_town_219 rfl ?_
      refine g_getr dX6_town_220 rfl fX6_35 hR.1 rfl ?_
      refine g_bipushI dX6_town_223 rfl rfl (fun w223 h223 => ?_)
      refine g_iload_n3 dX6_town_225 rfl ?_
      refine g_iaddI dX6_town_226 rfl ⟨by omega, by omega⟩ (fun w226 h226 => ?_)
      refine g_ialdI dX6_town_227 rfl (rf_worth hR) ⟨by omega, by omega⟩ ?_
      have i227 : w226.toInt.toNat = 12 + i.toInt.toNat := by omega
      rw [i227]
      clear i227
      refine g_iastI dX6_town_228 rfl (rf_worth hR) ⟨by omega, by omega⟩ ?_
      refine g_aload_n0 dX6_town_229 rfl ?_
      refine g_getr dX6_town_230 rfl fX6_47 hR.1 rfl ?_
      refine g_iload_n3 dX6_town_233 rfl ?_
      refine g_aload_n0 dX6_town_234 rfl ?_
      refine g_getr dX6_town_235 rfl fX6_50 hR.1 rfl ?_
      refine g_iload_n3 dX6_town_238 rfl ?_
      refine g_ialdI dX6_town_239 rfl (rf_readWeight hR) ⟨by omega, by omega⟩ ?_
      rw [g_u_ne (show 410 ≠ 405 by omega)]
      refine g_iastI dX6_town_240 rfl (rf_weight hR) ⟨by omega, by omega⟩ ?_
      refine g_aload_n0 dX6_town_241 rfl ?_
      refine g_getr dX6_town_242 rfl fX6_53 hR.1 rfl ?_
      refine g_iload_n3 dX6_town_245 rfl ?_
      refine g_aload_n0 dX6_town_246 rfl ?_
      refine g_getr dX6_town_247 rfl fX6_53 hR.1 rfl ?_
      refine g_bipushI dX6_town_250 rfl rfl (fun w250 h250 => ?_)
      refine g_iload_n3 dX6_town_252 rfl ?_
      refine g_iaddI dX6_town_253 rfl ⟨by omega, by omega⟩ (fun w253 h253 => ?_)
      refine g_zaldI dX6_town_254 rfl (rf_isWet hR) ⟨by omega, by omega⟩ ?_
      rw [g_u_ne (show 411 ≠ 409 by omega)]
      rw [g_u_ne (show 411 ≠ 405 by omega)]
      have i254 : w253.toInt.toNat = 12 + i.toInt.toNat := by omega
      rw [i254]
      clear i254
      refine g_zastI dX6_town_255 rfl (rf_isWet hR) ⟨by omega, by omega⟩ ?_
      rw [q4.2]
      refine g_iincI3 dX6_town_256 rfl rfl rfl ⟨by omega, by omega⟩ (fun w256 h256 => ?_)
      refine g_goto (t := 208) dX6_town_259 (by decide) ?_
      have n5 : ∀ (M : gM) (a b c : Nat) (x y z : Int32) (k : Nat), (g_u (g_u (g_u M 405 a x) 409 b y) 411 c z).1 405 k = if k = a then x else M.1 405 k := fun M a b c x y z k => by rw [g_u_ne (by decide), g_u_ne (by decide), g_u_eq]
      have n9 : ∀ (M : gM) (a b c : Nat) (x y z : Int32) (k : Nat), (g_u (g_u (g_u M 405 a x) 409 b y) 411 c z).1 409 k = if k = b then y else M.1 409 k := fun M a b c x y z k => by rw [g_u_ne (by decide), g_u_eq, g_u_ne (by decide)]
      have n11 : ∀ (M : gM) (a b c : Nat) (x y z : Int32) (k : Nat), (g_u (g_u (g_u M 405 a x) 409 b y) 411 c z).1 411 k = if k = c then z else M.1 411 k := fun M a b c x y z k => by rw [g_u_eq, g_u_ne (by decide), g_u_ne (by decide)]
      refine ih _ (show 12 - w256.toInt.toNat < _ by omega) _ _ rfl (by omega) (by omega) (fun j hj hj2 hj3 => by rw [g_u_ne hj3, g_u_ne hj2, g_u_ne hj]; exact g1 j hj hj2 hj3) g2 (fun k hk4 => ?_) (fun k a => by rw [n5, n11, if_neg (by omega), if_neg (by omega)]; exact g4 k a)
      rw [n5, n9, n11]
      by_cases hki : k = i.toInt.toNat
      · rw [if_pos hki, if_pos hki, if_pos hki, hki]; exact ⟨q4.1, by rw [q10], rfl⟩
      · rw [if_neg hki, if_neg hki, if_neg hki]; exact g3 k (by omega)
/-- the reference behind town(n), n a good number: what stays -/
def frN (M M' : gM) : Prop := (∀ j, j ≠ 300 → j ≠ 402 → j ≠ 403 → j ≠ 404 → j ≠ 405 → j ≠ 406 → j ≠ 407 → j ≠ 408 → j ≠ 409 → j ≠ 410 → j ≠ 411 → M'.1 j = M.1 j) ∧ M'.2 = M.2 ∧ (∀ k, k ≠ 1 → k ≠ 12 → ¬ (14 ≤ k ∧ k ≤ 24) → k ≠ 32 → k ≠ 48 → M'.1 300 k = M.1 300 k) ∧ M'.1 406 1 = M.1 406 1 ∧ (M'.1 300 1).toInt = 0 ∧ (M'.1 300 14).toInt = 0
def TWB (M M' : gM) (k pl : Int) : Prop := frN M M' ∧ (M'.1 300 23).toInt = pl ∧ (M'.1 406 0).toInt = (M.1 406 0).toInt + 1 ∧ (∀ k, k < 4 → M'.1 402 k = M.1 402 k) ∧ (∀ k, k < 6 → M'.1 403 k = M.1 403 k ∧ M'.1 404 k = M.1 404 k) ∧ (∀ k, k < 12 → M'.1 405 k = M.1 405 k ∧ M'.1 411 k = M.1 411 k) ∧ M'.1 407 = M.1 407 ∧ M'.1 409 = M.1 409 ∧ M'.1 300 12 = M.1 300 12 ∧ M'.1 300 24 = M.1 300 24 ∧ M'.1 300 32 = M.1 300 32 ∧ M'.1 300 48 = M.1 300 48
def TWG (M M' : gM) (T : gTw) : Prop := frN M M' ∧ (M'.1 300 23).toInt = -1 ∧ M'.1 406 0 = M.1 406 0 ∧ RS T M' ∧ (M'.1 300 24).toInt = 0 ∧ (M'.1 300 32).toInt = -1 ∧ (M'.1 300 48).toInt = 0
theorem RS.read {T : gTw} {M0 M : gM} (hV : PIV T) (hP : RP T M0) (h2 : ∀ k, k < 4 → M.1 402 k = M0.1 402 (4 + k)) (h3 : ∀ k, k < 6 → M.1 403 k = M0.1 403 (6 + k) ∧ M.1 404 k = M0.1 404 (6 + k)) (h5 : ∀ k, k < 12 → M.1 405 k = M0.1 405 (12 + k) ∧ M.1 409 k = M0.1 410 k ∧ M.1 411 k = vp_nar .boolean (M0.1 411 (12 + k))) (h7 : ∀ k, k < 30 → M.1 407 k = M0.1 408 k) (hd : (M.1 300 12).toInt = 0) : RS T M := by
  have b0 := hV.1.1
  have b1 := hV.1.2.1
  obtain ⟨a1, a2, a3, a4, a5, a6, a7, a8⟩ := hP
  refine ⟨⟨by rw [h2 0 (by decide)]; exact a1, by rw [h2 1 (by decide)]; exact a2, by rw [h2 2 (by decide)]; exact a3, by rw [h2 3 (by decide)]; exact a4, fun p hp => ?_, fun i hi => ?_⟩, fun i hi => ?_, ⟨fun p hp => ?_, fun i hi => ?_⟩, by rw [hd, hV.2.2.1], fun i hi => ?_⟩
  · rw [(h3 p (by omega)).1, (h3 p (by omega)).2]; exact ⟨(a5 p hp).1, (a5 p hp).2.1⟩
  · rw [(h5 i (by omega)).1]; exact (a7 i hi).1
  · rw [(h5 i (by omega)).2.1]; exact (a7 i hi).2.1
  · rw [h7 _ (by omega), h7 _ (by omega), h7 _ (by omega)]
    have := a5 p hp
    refine ⟨this.2.2.1, this.2.2.2.1, this.2.2.2.2, fun i => ?_⟩
    rw [a8 p i hp]
    by_cases hi : (i : Int) < T 0 1
    · rw [h7 i (by omega)]
    · exact ⟨fun z => absurd z.1 hi, fun z => absurd z.1 hi⟩
  · rw [h7 i (by omega)]; exact (a7 i hi).2.2.2
  · have := (a7 i hi).2.2.1
    rw [(h5 i (by omega)).2.2, nar_z (by rw [this]; split <;> omega)]; exact this
