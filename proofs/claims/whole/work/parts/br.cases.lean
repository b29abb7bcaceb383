/-! the calls of the law -/
section LC
variable {b L : Nat} {xs : Nat → Int32} {Γ : gW} {gt : Option Nat} {kn : Nat × Nat} {M : gM} {A : gAb} {it : Nat} {i : Int32} {y5 y6 : Option Value}
/-- where a call is done -/
def KL (b L : Nat) (xs : Nat → Int32) (kn : Nat × Nat) (it : Nat) (i : Int32) : Prop := ∀ (Γ' : gW) (gt' : Option Nat) (M' : gM) (A' : gAb) (kn' : Nat × Nat) (y5' y6' : Option Value), yi y5' → yi y6' → LW b Γ' gt' M' → RC A' M' → RR A' M' → AOK A' (it + 1) → kn'.1 ≤ kn.1 + 15 → kn'.2 ≤ kn.2 + 8264 → G Γ' μL_law room_1 kn' (g_ZL b L xs) 1502 (lvL i y5' y6') [] M'
theorem case_0 (hL : LW b Γ gt M) (hC : RC A M) (hR : RR A M) (hn : AOK A it) (hi : i.toInt = 6 * (it : Int)) (hLn : 6 * it + 6 ≤ L) (hit : it ≤ 512) (h5 : yi y5) (h6 : yi y6) (hkn : kn.1 ≤ 590000 ∧ kn.2 ≤ 7280000) (kk : KL b L xs kn it i) : G Γ μL_law room_1 kn (g_ZL b L xs) 156 (lvL i y5 y6) [] M := by
  refine g_aload_n1 dL_law_156 rfl ?_
  refine g_argL (it := it) (jn := 1) hL.2.2.2.2.1 hi hLn (by omega) dL_law_157 dL_law_158 dL_law_160 dL_law_161 dL_law_162 rfl rfl (by decide) ?_
  refine g_argL (it := it) (jn := 2) hL.2.2.2.2.1 hi hLn (by omega) dL_law_163 dL_law_164 dL_law_166 dL_law_167 dL_law_168 rfl rfl (by decide) ?_
  refine g_argL (it := it) (jn := 3) hL.2.2.2.2.1 hi hLn (by omega) dL_law_169 dL_law_170 dL_law_172 dL_law_173 dL_law_174 rfl rfl (by decide) ?_
  refine g_argL (it := it) (jn := 4) hL.2.2.2.2.1 hi hLn (by omega) dL_law_175 dL_law_176 dL_law_178 dL_law_179 dL_law_180 rfl rfl (by decide) ?_
  refine g_argL (it := it) (jn := 5) hL.2.2.2.2.1 hi hLn (by omega) dL_law_181 dL_law_182 dL_law_184 dL_law_185 dL_law_186 rfl rfl (by decide) ?_
  obtain ⟨d, P, hd, hc, hP⟩ : OD b Γ gt it yX5_feed μX5_feed [.ref 0, .int (xs (6 * it + 1)), .int (xs (6 * it + 2)), .int (xs (6 * it + 3)), .int (xs (6 * it + 4)), .int (xs (6 * it + 5))] yX6_feed μX6_feed [.ref 300, .int (xs (6 * it + 1)), .int (xs (6 * it + 2)), .int (xs (6 * it + 3)), .int (xs (6 * it + 4)), .int (xs (6 * it + 5))] M := o_feed hL hC hR hn
  refine g_callVi5 dL_law_187 rfl vL_71 hL.1.1 rfl hc ⟨by show d + 2 ≤ 2048; omega, by show 90 + 50 * d ≤ 84000; omega⟩ (Nat.zero_le _) (fun z M1 h1 => ?_)
  obtain ⟨d2, P2, hd2, hc2, hP2⟩ := hP z M1 h1
  refine g_aload_n2 dL_law_190 rfl ?_
  refine g_argL (it := it) (jn := 1) hL.2.2.2.2.1 hi hLn (by omega) dL_law_191 dL_law_192 dL_law_194 dL_law_195 dL_law_196 rfl rfl (by decide) ?_
  refine g_argL (it := it) (jn := 2) hL.2.2.2.2.1 hi hLn (by omega) dL_law_197 dL_law_198 dL_law_200 dL_law_201 dL_law_202 rfl rfl (by decide) ?_
  refine g_argL (it := it) (jn := 3) hL.2.2.2.2.1 hi hLn (by omega) dL_law_203 dL_law_204 dL_law_206 dL_law_207 dL_law_208 rfl rfl (by decide) ?_
  refine g_argL (it := it) (jn := 4) hL.2.2.2.2.1 hi hLn (by omega) dL_law_209 dL_law_210 dL_law_212 dL_law_213 dL_law_214 rfl rfl (by decide) ?_
  refine g_argL (it := it) (jn := 5) hL.2.2.2.2.1 hi hLn (by omega) dL_law_215 dL_law_216 dL_law_218 dL_law_219 dL_law_220 rfl rfl (by decide) ?_
  refine g_callVi5 dL_law_221 rfl vL_75 hL.2.1.1 rfl hc2 ⟨by show d2 + 2 ≤ 2048; omega, by show 90 + 50 * d2 ≤ 84000; omega⟩ (Nat.le_of_ble_eq_true rfl) (fun z2 M2 h2 => ?_)
  obtain ⟨ez, A', hC', hR', hn', hL'⟩ := hP2 z2 M2 h2
  refine g_icmp_eq (t := 1502) dL_law_224 rfl rfl (fun _ => ?_) (fun hne => absurd ez hne)
  exact kk Γ gt _ A' _ _ _ h5 h6 hL' hC' hR' hn' (by omega) (by omega)
theorem case_1 (hL : LW b Γ gt M) (hC : RC A M) (hR : RR A M) (hn : AOK A it) (hi : i.toInt = 6 * (it : Int)) (hLn : 6 * it + 6 ≤ L) (hit : it ≤ 512) (h5 : yi y5) (h6 : yi y6) (hkn : kn.1 ≤ 590000 ∧ kn.2 ≤ 7280000) (kk : KL b L xs kn it i) : G Γ μL_law room_1 kn (g_ZL b L xs) 229 (lvL i y5 y6) [] M := by
  refine g_aload_n1 dL_law_229 rfl ?_
  refine g_argL (it := it) (jn := 1) hL.2.2.2.2.1 hi hLn (by omega) dL_law_230 dL_law_231 dL_law_233 dL_law_234 dL_law_235 rfl rfl (by decide) ?_
  refine g_aload_n3 dL_law_236 rfl ?_
  obtain ⟨d, mc, ms, P, hd, hmc, hms, hc, hP⟩ : OL b Γ it yL_town μL_town hhL_town [.ref 0, .int (xs (6 * it + 1)), .ref 500] yX6_town μX6_town [.ref 300, .int (xs (6 * it + 1))] M := OH.l hL.sh (o_town hL hC hR hn (by omega))
  refine g_callL (As := [.ref 0, .int (xs (6 * it + 1)), .ref 500]) zL_p dL_law_237 wL_town rfl hc (fun Γ' v M' h => (hP Γ' v M' h).1) (lv_in hL.sh h5 h6) (fun v hv => by cases hv) ⟨by show d + 9 ≤ 2048; omega, by show 200 + 50 * d ≤ 84000; omega⟩ ⟨by show kn.1 + mc ≤ 601024; omega, by show kn.2 + ms ≤ 7293034; omega⟩ (Nat.zero_le _) (fun Γ1 v M1 hv => ?_)
  obtain ⟨hE1, gt1, hS1, k, rfl, d2, P2, hd2, hc2, hP2⟩ := hP Γ1 v M1 hv
  show G _ _ _ _ _ 240 _ [.int k] _
  refine g_istore5 dL_law_240 rfl rfl ?_
  refine g_aload_n2 dL_law_242 rfl ?_
  refine g_argL (it := it) (jn := 1) hS1.2.2.2.2 hi hLn (by omega) dL_law_243 dL_law_244 dL_law_246 dL_law_247 dL_law_248 rfl rfl (by decide) ?_
  refine g_callVi1 dL_law_249 rfl vL_81 hS1.2.1.1 rfl hc2 ⟨by show d2 + 2 ≤ 2048; omega, by show 90 + 50 * d2 ≤ 84000; omega⟩ (Nat.zero_le _) (fun z M2 h2 => ?_)
  obtain ⟨e1, e2, A', hC', hR', hn', hL'⟩ := hP2 z M2 h2
  refine g_istore6 dL_law_252 rfl rfl ?_
  refine g_aload_n2 dL_law_254 rfl ?_
  refine g_callVi0 dL_law_255 rfl vL_82 hS1.2.1.1 rfl (r_thrown hS1.2.1) ⟨by decide, by decide⟩ (Nat.zero_le _) (fun zt M3 h3 => ?_)
  obtain ⟨q1, q2⟩ := h3
  subst q1
  subst q2
  refine g_iload5 dL_law_258 rfl ?_
  refine g_icmp_eq (t := 265) dL_law_260 rfl rfl (fun _ => ?_) (fun hne => absurd e1 hne)
  refine g_iload5 dL_law_265 rfl ?_
  refine g_if_ne (t := 282) dL_law_267 rfl rfl (fun _ => ?_) (fun hk0 => ?_)
  · refine g_goto (t := 1502) dL_law_282 rfl ?_
    exact kk Γ1 gt1 _ A' _ _ _ (Or.inr ⟨_, rfl⟩) (Or.inr ⟨_, rfl⟩) hL' hC' hR' hn' (by show kn.1 + mc ≤ _; omega) (by show kn.2 + ms ≤ _; omega)
  · refine g_aload_n3 dL_law_270 rfl ?_
    refine g_iconst (v := 0) dL_law_271 rfl rfl ?_
    refine g_lald dL_law_272 rfl hS1.2.2.2.1 (i_in (by decide)) ?_
    refine g_iload6 dL_law_273 rfl ?_
    refine g_i2l dL_law_275 rfl ?_
    refine g_lcmp dL_law_276 rfl ?_
    refine g_if_eq (t := 282) dL_law_277 rfl rfl (fun _ => ?_) (fun hne => absurd (by have := e2 hk0; show lg_cmp (_ : Int64) _ = 0; rw [show (0 : Int32).toNatClampNeg = 0 from rfl, this]; exact cmp_self _) hne)
    refine g_goto (t := 1502) dL_law_282 rfl ?_
    exact kk Γ1 gt1 _ A' _ _ _ (Or.inr ⟨_, rfl⟩) (Or.inr ⟨_, rfl⟩) hL' hC' hR' hn' (by show kn.1 + mc ≤ _; omega) (by show kn.2 + ms ≤ _; omega)
theorem case_2 (hL : LW b Γ gt M) (hC : RC A M) (hR : RR A M) (hn : AOK A it) (hi : i.toInt = 6 * (it : Int)) (hLn : 6 * it + 6 ≤ L) (hit : it ≤ 512) (h5 : yi y5) (h6 : yi y6) (hkn : kn.1 ≤ 590000 ∧ kn.2 ≤ 7280000) (kk : KL b L xs kn it i) : G Γ μL_law room_1 kn (g_ZL b L xs) 285 (lvL i y5 y6) [] M := by
  refine g_aload_n1 dL_law_285 rfl ?_
  obtain ⟨d, P, hd, hc, hP⟩ : OD b Γ gt it yX5_fault μX5_fault [.ref 0] yX6_fault μX6_fault [.ref 300] M := o_fault hL hC hR hn
  refine g_callVi0 dL_law_286 rfl vL_86 hL.1.1 rfl hc ⟨by show d + 2 ≤ 2048; omega, by show 90 + 50 * d ≤ 84000; omega⟩ (Nat.zero_le _) (fun z M1 h1 => ?_)
  obtain ⟨d2, P2, hd2, hc2, hP2⟩ := hP z M1 h1
  refine g_aload_n2 dL_law_289 rfl ?_
  refine g_callVi0 dL_law_290 rfl vL_89 hL.2.1.1 rfl hc2 ⟨by show d2 + 2 ≤ 2048; omega, by show 90 + 50 * d2 ≤ 84000; omega⟩ (Nat.le_of_ble_eq_true rfl) (fun z2 M2 h2 => ?_)
  obtain ⟨ez, A', hC', hR', hn', hL'⟩ := hP2 z2 M2 h2
  refine g_icmp_eq (t := 1502) dL_law_293 rfl rfl (fun _ => ?_) (fun hne => absurd ez hne)
  exact kk Γ gt _ A' _ _ _ h5 h6 hL' hC' hR' hn' (by omega) (by omega)
theorem case_3 (hL : LW b Γ gt M) (hC : RC A M) (hR : RR A M) (hn : AOK A it) (hi : i.toInt = 6 * (it : Int)) (hLn : 6 * it + 6 ≤ L) (hit : it ≤ 512) (h5 : yi y5) (h6 : yi y6) (hkn : kn.1 ≤ 590000 ∧ kn.2 ≤ 7280000) (kk : KL b L xs kn it i) : G Γ μL_law room_1 kn (g_ZL b L xs) 298 (lvL i y5 y6) [] M := by
  refine g_aload_n1 dL_law_298 rfl ?_
  refine g_argL (it := it) (jn := 1) hL.2.2.2.2.1 hi hLn (by omega) dL_law_299 dL_law_300 dL_law_302 dL_law_303 dL_law_304 rfl rfl (by decide) ?_
  refine g_aload_n3 dL_law_305 rfl ?_
  obtain ⟨d, mc, ms, P, hd, hmc, hms, hc, hP⟩ : OL b Γ it yL_count μL_count hhL_count [.ref 0, .int (xs (6 * it + 1)), .ref 500] yX6_count μX6_count [.ref 300, .int (xs (6 * it + 1))] M := OH.l hL.sh (o_count hL hC hR hn)
  refine g_callL (As := [.ref 0, .int (xs (6 * it + 1)), .ref 500]) zL_p dL_law_306 wL_count rfl hc (fun Γ' v M' h => (hP Γ' v M' h).1) (lv_in hL.sh h5 h6) (fun v hv => by cases hv) ⟨by show d + 9 ≤ 2048; omega, by show 200 + 50 * d ≤ 84000; omega⟩ ⟨by show kn.1 + mc ≤ 601024; omega, by show kn.2 + ms ≤ 7293034; omega⟩ (Nat.zero_le _) (fun Γ1 v M1 hv => ?_)
  obtain ⟨hE1, gt1, hS1, k, rfl, d2, P2, hd2, hc2, hP2⟩ := hP Γ1 v M1 hv
  show G _ _ _ _ _ 309 _ [.int k] _
  refine g_istore5 dL_law_309 rfl rfl ?_
  refine g_aload_n2 dL_law_311 rfl ?_
  refine g_argL (it := it) (jn := 1) hS1.2.2.2.2 hi hLn (by omega) dL_law_312 dL_law_313 dL_law_315 dL_law_316 dL_law_317 rfl rfl (by decide) ?_
  refine g_callVi1 dL_law_318 rfl vL_92 hS1.2.1.1 rfl hc2 ⟨by show d2 + 2 ≤ 2048; omega, by show 90 + 50 * d2 ≤ 84000; omega⟩ (Nat.zero_le _) (fun z M2 h2 => ?_)
  obtain ⟨e1, e2, A', hC', hR', hn', hL'⟩ := hP2 z M2 h2
  refine g_istore6 dL_law_321 rfl rfl ?_
  refine g_aload_n2 dL_law_323 rfl ?_
  refine g_callVi0 dL_law_324 rfl vL_82 hS1.2.1.1 rfl (r_thrown hS1.2.1) ⟨by decide, by decide⟩ (Nat.zero_le _) (fun zt M3 h3 => ?_)
  obtain ⟨q1, q2⟩ := h3
  subst q1
  subst q2
  refine g_iload5 dL_law_327 rfl ?_
  refine g_icmp_eq (t := 334) dL_law_329 rfl rfl (fun _ => ?_) (fun hne => absurd e1 hne)
  refine g_iload5 dL_law_334 rfl ?_
  refine g_if_ne (t := 351) dL_law_336 rfl rfl (fun _ => ?_) (fun hk0 => ?_)
  · refine g_goto (t := 1502) dL_law_351 rfl ?_
    exact kk Γ1 gt1 _ A' _ _ _ (Or.inr ⟨_, rfl⟩) (Or.inr ⟨_, rfl⟩) hL' hC' hR' hn' (by show kn.1 + mc ≤ _; omega) (by show kn.2 + ms ≤ _; omega)
  · refine g_aload_n3 dL_law_339 rfl ?_
    refine g_iconst (v := 0) dL_law_340 rfl rfl ?_
    refine g_lald dL_law_341 rfl hS1.2.2.2.1 (i_in (by decide)) ?_
    refine g_iload6 dL_law_342 rfl ?_
    refine g_i2l dL_law_344 rfl ?_
    refine g_lcmp dL_law_345 rfl ?_
    refine g_if_eq (t := 351) dL_law_346 rfl rfl (fun _ => ?_) (fun hne => absurd (by have := e2 hk0; show lg_cmp (_ : Int64) _ = 0; rw [show (0 : Int32).toNatClampNeg = 0 from rfl, this]; exact cmp_self _) hne)
    refine g_goto (t := 1502) dL_law_351 rfl ?_
    exact kk Γ1 gt1 _ A' _ _ _ (Or.inr ⟨_, rfl⟩) (Or.inr ⟨_, rfl⟩) hL' hC' hR' hn' (by show kn.1 + mc ≤ _; omega) (by show kn.2 + ms ≤ _; omega)
theorem case_4 (hL : LW b Γ gt M) (hC : RC A M) (hR : RR A M) (hn : AOK A it) (hi : i.toInt = 6 * (it : Int)) (hLn : 6 * it + 6 ≤ L) (hit : it ≤ 512) (h5 : yi y5) (h6 : yi y6) (hkn : kn.1 ≤ 590000 ∧ kn.2 ≤ 7280000) (kk : KL b L xs kn it i) : G Γ μL_law room_1 kn (g_ZL b L xs) 354 (lvL i y5 y6) [] M := by
  refine g_aload_n1 dL_law_354 rfl ?_
  refine g_argL (it := it) (jn := 1) hL.2.2.2.2.1 hi hLn (by omega) dL_law_355 dL_law_356 dL_law_358 dL_law_359 dL_law_360 rfl rfl (by decide) ?_
  refine g_argL (it := it) (jn := 2) hL.2.2.2.2.1 hi hLn (by omega) dL_law_361 dL_law_362 dL_law_364 dL_law_365 dL_law_366 rfl rfl (by decide) ?_
  refine g_aload_n3 dL_law_367 rfl ?_
  obtain ⟨d, mc, ms, P, hd, hmc, hms, hc, hP⟩ : OL b Γ it yL_person μL_person hhL_person [.ref 0, .int (xs (6 * it + 1)), .int (xs (6 * it + 2)), .ref 500] yX6_person μX6_person [.ref 300, .int (xs (6 * it + 1)), .int (xs (6 * it + 2))] M := OH.l hL.sh (o_person hL hC hR hn)
  refine g_callL (As := [.ref 0, .int (xs (6 * it + 1)), .int (xs (6 * it + 2)), .ref 500]) zL_p dL_law_368 wL_person rfl hc (fun Γ' v M' h => (hP Γ' v M' h).1) (lv_in hL.sh h5 h6) (fun v hv => by cases hv) ⟨by show d + 9 ≤ 2048; omega, by show 200 + 50 * d ≤ 84000; omega⟩ ⟨by show kn.1 + mc ≤ 601024; omega, by show kn.2 + ms ≤ 7293034; omega⟩ (Nat.zero_le _) (fun Γ1 v M1 hv => ?_)
  obtain ⟨hE1, gt1, hS1, k, rfl, d2, P2, hd2, hc2, hP2⟩ := hP Γ1 v M1 hv
  show G _ _ _ _ _ 371 _ [.int k] _
  refine g_istore5 dL_law_371 rfl rfl ?_
  refine g_aload_n2 dL_law_373 rfl ?_
  refine g_argL (it := it) (jn := 1) hS1.2.2.2.2 hi hLn (by omega) dL_law_374 dL_law_375 dL_law_377 dL_law_378 dL_law_379 rfl rfl (by decide) ?_
  refine g_argL (it := it) (jn := 2) hS1.2.2.2.2 hi hLn (by omega) dL_law_380 dL_law_381 dL_law_383 dL_law_384 dL_law_385 rfl rfl (by decide) ?_
  refine g_callVi2 dL_law_386 rfl vL_96 hS1.2.1.1 rfl hc2 ⟨by show d2 + 2 ≤ 2048; omega, by show 90 + 50 * d2 ≤ 84000; omega⟩ (Nat.zero_le _) (fun z M2 h2 => ?_)
  obtain ⟨e1, e2, A', hC', hR', hn', hL'⟩ := hP2 z M2 h2
  refine g_istore6 dL_law_389 rfl rfl ?_
  refine g_aload_n2 dL_law_391 rfl ?_
  refine g_callVi0 dL_law_392 rfl vL_82 hS1.2.1.1 rfl (r_thrown hS1.2.1) ⟨by decide, by decide⟩ (Nat.zero_le _) (fun zt M3 h3 => ?_)
  obtain ⟨q1, q2⟩ := h3
  subst q1
  subst q2
  refine g_iload5 dL_law_395 rfl ?_
  refine g_icmp_eq (t := 402) dL_law_397 rfl rfl (fun _ => ?_) (fun hne => absurd e1 hne)
  refine g_iload5 dL_law_402 rfl ?_
  refine g_if_ne (t := 419) dL_law_404 rfl rfl (fun _ => ?_) (fun hk0 => ?_)
  · refine g_goto (t := 1502) dL_law_419 rfl ?_
    exact kk Γ1 gt1 _ A' _ _ _ (Or.inr ⟨_, rfl⟩) (Or.inr ⟨_, rfl⟩) hL' hC' hR' hn' (by show kn.1 + mc ≤ _; omega) (by show kn.2 + ms ≤ _; omega)
  · refine g_aload_n3 dL_law_407 rfl ?_
    refine g_iconst (v := 0) dL_law_408 rfl rfl ?_
    refine g_lald dL_law_409 rfl hS1.2.2.2.1 (i_in (by decide)) ?_
    refine g_iload6 dL_law_410 rfl ?_
    refine g_i2l dL_law_412 rfl ?_
    refine g_lcmp dL_law_413 rfl ?_
    refine g_if_eq (t := 419) dL_law_414 rfl rfl (fun _ => ?_) (fun hne => absurd (by have := e2 hk0; show lg_cmp (_ : Int64) _ = 0; rw [show (0 : Int32).toNatClampNeg = 0 from rfl, this]; exact cmp_self _) hne)
    refine g_goto (t := 1502) dL_law_419 rfl ?_
    exact kk Γ1 gt1 _ A' _ _ _ (Or.inr ⟨_, rfl⟩) (Or.inr ⟨_, rfl⟩) hL' hC' hR' hn' (by show kn.1 + mc ≤ _; omega) (by show kn.2 + ms ≤ _; omega)
theorem case_5 (hL : LW b Γ gt M) (hC : RC A M) (hR : RR A M) (hn : AOK A it) (hi : i.toInt = 6 * (it : Int)) (hLn : 6 * it + 6 ≤ L) (hit : it ≤ 512) (h5 : yi y5) (h6 : yi y6) (hkn : kn.1 ≤ 590000 ∧ kn.2 ≤ 7280000) (kk : KL b L xs kn it i) : G Γ μL_law room_1 kn (g_ZL b L xs) 422 (lvL i y5 y6) [] M := by
  refine g_aload_n1 dL_law_422 rfl ?_
  refine g_argL (it := it) (jn := 1) hL.2.2.2.2.1 hi hLn (by omega) dL_law_423 dL_law_424 dL_law_426 dL_law_427 dL_law_428 rfl rfl (by decide) ?_
  refine g_argL (it := it) (jn := 2) hL.2.2.2.2.1 hi hLn (by omega) dL_law_429 dL_law_430 dL_law_432 dL_law_433 dL_law_434 rfl rfl (by decide) ?_
  refine g_aload_n3 dL_law_435 rfl ?_
  obtain ⟨d, mc, ms, P, hd, hmc, hms, hc, hP⟩ : OL b Γ it yL_thing μL_thing hhL_thing [.ref 0, .int (xs (6 * it + 1)), .int (xs (6 * it + 2)), .ref 500] yX6_thing μX6_thing [.ref 300, .int (xs (6 * it + 1)), .int (xs (6 * it + 2))] M := OH.l hL.sh (o_thing hL hC hR hn)
  refine g_callL (As := [.ref 0, .int (xs (6 * it + 1)), .int (xs (6 * it + 2)), .ref 500]) zL_p dL_law_436 wL_thing rfl hc (fun Γ' v M' h => (hP Γ' v M' h).1) (lv_in hL.sh h5 h6) (fun v hv => by cases hv) ⟨by show d + 9 ≤ 2048; omega, by show 200 + 50 * d ≤ 84000; omega⟩ ⟨by show kn.1 + mc ≤ 601024; omega, by show kn.2 + ms ≤ 7293034; omega⟩ (Nat.zero_le _) (fun Γ1 v M1 hv => ?_)
  obtain ⟨hE1, gt1, hS1, k, rfl, d2, P2, hd2, hc2, hP2⟩ := hP Γ1 v M1 hv
  show G _ _ _ _ _ 439 _ [.int k] _
  refine g_istore5 dL_law_439 rfl rfl ?_
  refine g_aload_n2 dL_law_441 rfl ?_
  refine g_argL (it := it) (jn := 1) hS1.2.2.2.2 hi hLn (by omega) dL_law_442 dL_law_443 dL_law_445 dL_law_446 dL_law_447 rfl rfl (by decide) ?_
  refine g_argL (it := it) (jn := 2) hS1.2.2.2.2 hi hLn (by omega) dL_law_448 dL_law_449 dL_law_451 dL_law_452 dL_law_453 rfl rfl (by decide) ?_
  refine g_callVi2 dL_law_454 rfl vL_99 hS1.2.1.1 rfl hc2 ⟨by show d2 + 2 ≤ 2048; omega, by show 90 + 50 * d2 ≤ 84000; omega⟩ (Nat.zero_le _) (fun z M2 h2 => ?_)
  obtain ⟨e1, e2, A', hC', hR', hn', hL'⟩ := hP2 z M2 h2
  refine g_istore6 dL_law_457 rfl rfl ?_
  refine g_aload_n2 dL_law_459 rfl ?_
  refine g_callVi0 dL_law_460 rfl vL_82 hS1.2.1.1 rfl (r_thrown hS1.2.1) ⟨by decide, by decide⟩ (Nat.zero_le _) (fun zt M3 h3 => ?_)
  obtain ⟨q1, q2⟩ := h3
  subst q1
  subst q2
  refine g_iload5 dL_law_463 rfl ?_
  refine g_icmp_eq (t := 470) dL_law_465 rfl rfl (fun _ => ?_) (fun hne => absurd e1 hne)
  refine g_iload5 dL_law_470 rfl ?_
  refine g_if_ne (t := 487) dL_law_472 rfl rfl (fun _ => ?_) (fun hk0 => ?_)
  · refine g_goto (t := 1502) dL_law_487 rfl ?_
    exact kk Γ1 gt1 _ A' _ _ _ (Or.inr ⟨_, rfl⟩) (Or.inr ⟨_, rfl⟩) hL' hC' hR' hn' (by show kn.1 + mc ≤ _; omega) (by show kn.2 + ms ≤ _; omega)
  · refine g_aload_n3 dL_law_475 rfl ?_
    refine g_iconst (v := 0) dL_law_476 rfl rfl ?_
    refine g_lald dL_law_477 rfl hS1.2.2.2.1 (i_in (by decide)) ?_
    refine g_iload6 dL_law_478 rfl ?_
    refine g_i2l dL_law_480 rfl ?_
    refine g_lcmp dL_law_481 rfl ?_
    refine g_if_eq (t := 487) dL_law_482 rfl rfl (fun _ => ?_) (fun hne => absurd (by have := e2 hk0; show lg_cmp (_ : Int64) _ = 0; rw [show (0 : Int32).toNatClampNeg = 0 from rfl, this]; exact cmp_self _) hne)
    refine g_goto (t := 1502) dL_law_487 rfl ?_
    exact kk Γ1 gt1 _ A' _ _ _ (Or.inr ⟨_, rfl⟩) (Or.inr ⟨_, rfl⟩) hL' hC' hR' hn' (by show kn.1 + mc ≤ _; omega) (by show kn.2 + ms ≤ _; omega)
theorem case_6 (hL : LW b Γ gt M) (hC : RC A M) (hR : RR A M) (hn : AOK A it) (hi : i.toInt = 6 * (it : Int)) (hLn : 6 * it + 6 ≤ L) (hit : it ≤ 512) (h5 : yi y5) (h6 : yi y6) (hkn : kn.1 ≤ 590000 ∧ kn.2 ≤ 7280000) (kk : KL b L xs kn it i) : G Γ μL_law room_1 kn (g_ZL b L xs) 490 (lvL i y5 y6) [] M := by
  refine g_aload_n1 dL_law_490 rfl ?_
  refine g_argL (it := it) (jn := 1) hL.2.2.2.2.1 hi hLn (by omega) dL_law_491 dL_law_492 dL_law_494 dL_law_495 dL_law_496 rfl rfl (by decide) ?_
  refine g_argL (it := it) (jn := 2) hL.2.2.2.2.1 hi hLn (by omega) dL_law_497 dL_law_498 dL_law_500 dL_law_501 dL_law_502 rfl rfl (by decide) ?_
  refine g_argL (it := it) (jn := 3) hL.2.2.2.2.1 hi hLn (by omega) dL_law_503 dL_law_504 dL_law_506 dL_law_507 dL_law_508 rfl rfl (by decide) ?_
  refine g_argL (it := it) (jn := 4) hL.2.2.2.2.1 hi hLn (by omega) dL_law_509 dL_law_510 dL_law_512 dL_law_513 dL_law_514 rfl rfl (by decide) ?_
  obtain ⟨d, P, hd, hc, hP⟩ : OD b Γ gt it yX5_give μX5_give [.ref 0, .int (xs (6 * it + 1)), .int (xs (6 * it + 2)), .int (xs (6 * it + 3)), .int (xs (6 * it + 4))] yX6_give μX6_give [.ref 300, .int (xs (6 * it + 1)), .int (xs (6 * it + 2)), .int (xs (6 * it + 3)), .int (xs (6 * it + 4))] M := o_give hL hC hR hn (by omega)
  refine g_callVi4 dL_law_515 rfl vL_100 hL.1.1 rfl hc ⟨by show d + 2 ≤ 2048; omega, by show 90 + 50 * d ≤ 84000; omega⟩ (Nat.zero_le _) (fun z M1 h1 => ?_)
  obtain ⟨d2, P2, hd2, hc2, hP2⟩ := hP z M1 h1
  refine g_aload_n2 dL_law_518 rfl ?_
  refine g_argL (it := it) (jn := 1) hL.2.2.2.2.1 hi hLn (by omega) dL_law_519 dL_law_520 dL_law_522 dL_law_523 dL_law_524 rfl rfl (by decide) ?_
  refine g_argL (it := it) (jn := 2) hL.2.2.2.2.1 hi hLn (by omega) dL_law_525 dL_law_526 dL_law_528 dL_law_529 dL_law_530 rfl rfl (by decide) ?_
  refine g_argL (it := it) (jn := 3) hL.2.2.2.2.1 hi hLn (by omega) dL_law_531 dL_law_532 dL_law_534 dL_law_535 dL_law_536 rfl rfl (by decide) ?_
  refine g_argL (it := it) (jn := 4) hL.2.2.2.2.1 hi hLn (by omega) dL_law_537 dL_law_538 dL_law_540 dL_law_541 dL_law_542 rfl rfl (by decide) ?_
  refine g_callVi4 dL_law_543 rfl vL_104 hL.2.1.1 rfl hc2 ⟨by show d2 + 2 ≤ 2048; omega, by show 90 + 50 * d2 ≤ 84000; omega⟩ (Nat.le_of_ble_eq_true rfl) (fun z2 M2 h2 => ?_)
  obtain ⟨ez, A', hC', hR', hn', hL'⟩ := hP2 z2 M2 h2
  refine g_icmp_eq (t := 1502) dL_law_546 rfl rfl (fun _ => ?_) (fun hne => absurd ez hne)
  exact kk Γ gt _ A' _ _ _ h5 h6 hL' hC' hR' hn' (by omega) (by omega)
theorem case_7 (hL : LW b Γ gt M) (hC : RC A M) (hR : RR A M) (hn : AOK A it) (hi : i.toInt = 6 * (it : Int)) (hLn : 6 * it + 6 ≤ L) (hit : it ≤ 512) (h5 : yi y5) (h6 : yi y6) (hkn : kn.1 ≤ 590000 ∧ kn.2 ≤ 7280000) (kk : KL b L xs kn it i) : G Γ μL_law room_1 kn (g_ZL b L xs) 551 (lvL i y5 y6) [] M := by
  refine g_aload_n1 dL_law_551 rfl ?_
  refine g_argL (it := it) (jn := 1) hL.2.2.2.2.1 hi hLn (by omega) dL_law_552 dL_law_553 dL_law_555 dL_law_556 dL_law_557 rfl rfl (by decide) ?_
  refine g_argL (it := it) (jn := 2) hL.2.2.2.2.1 hi hLn (by omega) dL_law_558 dL_law_559 dL_law_561 dL_law_562 dL_law_563 rfl rfl (by decide) ?_
  refine g_argL (it := it) (jn := 3) hL.2.2.2.2.1 hi hLn (by omega) dL_law_564 dL_law_565 dL_law_567 dL_law_568 dL_law_569 rfl rfl (by decide) ?_
  refine g_argL (it := it) (jn := 4) hL.2.2.2.2.1 hi hLn (by omega) dL_law_570 dL_law_571 dL_law_573 dL_law_574 dL_law_575 rfl rfl (by decide) ?_
  obtain ⟨d, P, hd, hc, hP⟩ : OD b Γ gt it yX5_judge μX5_judge [.ref 0, .int (xs (6 * it + 1)), .int (xs (6 * it + 2)), .int (xs (6 * it + 3)), .int (xs (6 * it + 4))] yX6_judge μX6_judge [.ref 300, .int (xs (6 * it + 1)), .int (xs (6 * it + 2)), .int (xs (6 * it + 3)), .int (xs (6 * it + 4))] M := o_judge hL hC hR hn
  refine g_callVi4 dL_law_576 rfl vL_105 hL.1.1 rfl hc ⟨by show d + 2 ≤ 2048; omega, by show 90 + 50 * d ≤ 84000; omega⟩ (Nat.zero_le _) (fun z M1 h1 => ?_)
  obtain ⟨d2, P2, hd2, hc2, hP2⟩ := hP z M1 h1
  refine g_aload_n2 dL_law_579 rfl ?_
  refine g_argL (it := it) (jn := 1) hL.2.2.2.2.1 hi hLn (by omega) dL_law_580 dL_law_581 dL_law_583 dL_law_584 dL_law_585 rfl rfl (by decide) ?_
  refine g_argL (it := it) (jn := 2) hL.2.2.2.2.1 hi hLn (by omega) dL_law_586 dL_law_587 dL_law_589 dL_law_590 dL_law_591 rfl rfl (by decide) ?_
  refine g_argL (it := it) (jn := 3) hL.2.2.2.2.1 hi hLn (by omega) dL_law_592 dL_law_593 dL_law_595 dL_law_596 dL_law_597 rfl rfl (by decide) ?_
  refine g_argL (it := it) (jn := 4) hL.2.2.2.2.1 hi hLn (by omega) dL_law_598 dL_law_599 dL_law_601 dL_law_602 dL_law_603 rfl rfl (by decide) ?_
  refine g_callVi4 dL_law_604 rfl vL_108 hL.2.1.1 rfl hc2 ⟨by show d2 + 2 ≤ 2048; omega, by show 90 + 50 * d2 ≤ 84000; omega⟩ (Nat.le_of_ble_eq_true rfl) (fun z2 M2 h2 => ?_)
  obtain ⟨ez, A', hC', hR', hn', hL'⟩ := hP2 z2 M2 h2
  refine g_icmp_eq (t := 1502) dL_law_607 rfl rfl (fun _ => ?_) (fun hne => absurd ez hne)
  exact kk Γ gt _ A' _ _ _ h5 h6 hL' hC' hR' hn' (by omega) (by omega)
theorem case_8 (hL : LW b Γ gt M) (hC : RC A M) (hR : RR A M) (hn : AOK A it) (hi : i.toInt = 6 * (it : Int)) (hLn : 6 * it + 6 ≤ L) (hit : it ≤ 512) (h5 : yi y5) (h6 : yi y6) (hkn : kn.1 ≤ 590000 ∧ kn.2 ≤ 7280000) (kk : KL b L xs kn it i) : G Γ μL_law room_1 kn (g_ZL b L xs) 612 (lvL i y5 y6) [] M := by
  refine g_aload_n1 dL_law_612 rfl ?_
  obtain ⟨d, P, hd, hc, hP⟩ : OD b Γ gt it yX5_undo μX5_undo [.ref 0] yX6_undo μX6_undo [.ref 300] M := o_undo hL hC hR hn
  refine g_callVi0 dL_law_613 rfl vL_109 hL.1.1 rfl hc ⟨by show d + 2 ≤ 2048; omega, by show 90 + 50 * d ≤ 84000; omega⟩ (Nat.zero_le _) (fun z M1 h1 => ?_)
  obtain ⟨d2, P2, hd2, hc2, hP2⟩ := hP z M1 h1
  refine g_aload_n2 dL_law_616 rfl ?_
  refine g_callVi0 dL_law_617 rfl vL_112 hL.2.1.1 rfl hc2 ⟨by show d2 + 2 ≤ 2048; omega, by show 90 + 50 * d2 ≤ 84000; omega⟩ (Nat.le_of_ble_eq_true rfl) (fun z2 M2 h2 => ?_)
  obtain ⟨ez, A', hC', hR', hn', hL'⟩ := hP2 z2 M2 h2
  refine g_icmp_eq (t := 1502) dL_law_620 rfl rfl (fun _ => ?_) (fun hne => absurd ez hne)
  exact kk Γ gt _ A' _ _ _ h5 h6 hL' hC' hR' hn' (by omega) (by omega)
theorem case_9 (hL : LW b Γ gt M) (hC : RC A M) (hR : RR A M) (hn : AOK A it) (hi : i.toInt = 6 * (it : Int)) (hLn : 6 * it + 6 ≤ L) (hit : it ≤ 512) (h5 : yi y5) (h6 : yi y6) (hkn : kn.1 ≤ 590000 ∧ kn.2 ≤ 7280000) (kk : KL b L xs kn it i) : G Γ μL_law room_1 kn (g_ZL b L xs) 625 (lvL i y5 y6) [] M := by
  refine g_aload_n1 dL_law_625 rfl ?_
  refine g_argL (it := it) (jn := 1) hL.2.2.2.2.1 hi hLn (by omega) dL_law_626 dL_law_627 dL_law_629 dL_law_630 dL_law_631 rfl rfl (by decide) ?_
  refine g_argL (it := it) (jn := 2) hL.2.2.2.2.1 hi hLn (by omega) dL_law_632 dL_law_633 dL_law_635 dL_law_636 dL_law_637 rfl rfl (by decide) ?_
  refine g_aload_n3 dL_law_638 rfl ?_
  obtain ⟨d, mc, ms, P, hd, hmc, hms, hc, hP⟩ : OL b Γ it yL_gift μL_gift hhL_gift [.ref 0, .int (xs (6 * it + 1)), .int (xs (6 * it + 2)), .ref 500] yX6_gift μX6_gift [.ref 300, .int (xs (6 * it + 1)), .int (xs (6 * it + 2))] M := OH.l hL.sh (o_gift hL hC hR hn)
  refine g_callL (As := [.ref 0, .int (xs (6 * it + 1)), .int (xs (6 * it + 2)), .ref 500]) zL_p dL_law_639 wL_gift rfl hc (fun Γ' v M' h => (hP Γ' v M' h).1) (lv_in hL.sh h5 h6) (fun v hv => by cases hv) ⟨by show d + 9 ≤ 2048; omega, by show 200 + 50 * d ≤ 84000; omega⟩ ⟨by show kn.1 + mc ≤ 601024; omega, by show kn.2 + ms ≤ 7293034; omega⟩ (Nat.zero_le _) (fun Γ1 v M1 hv => ?_)
  obtain ⟨hE1, gt1, hS1, k, rfl, d2, P2, hd2, hc2, hP2⟩ := hP Γ1 v M1 hv
  show G _ _ _ _ _ 642 _ [.int k] _
  refine g_istore5 dL_law_642 rfl rfl ?_
  refine g_aload_n2 dL_law_644 rfl ?_
  refine g_argL (it := it) (jn := 1) hS1.2.2.2.2 hi hLn (by omega) dL_law_645 dL_law_646 dL_law_648 dL_law_649 dL_law_650 rfl rfl (by decide) ?_
  refine g_argL (it := it) (jn := 2) hS1.2.2.2.2 hi hLn (by omega) dL_law_651 dL_law_652 dL_law_654 dL_law_655 dL_law_656 rfl rfl (by decide) ?_
  refine g_callVi2 dL_law_657 rfl vL_115 hS1.2.1.1 rfl hc2 ⟨by show d2 + 2 ≤ 2048; omega, by show 90 + 50 * d2 ≤ 84000; omega⟩ (Nat.zero_le _) (fun z M2 h2 => ?_)
  obtain ⟨e1, e2, A', hC', hR', hn', hL'⟩ := hP2 z M2 h2
  refine g_istore6 dL_law_660 rfl rfl ?_
  refine g_aload_n2 dL_law_662 rfl ?_
  refine g_callVi0 dL_law_663 rfl vL_82 hS1.2.1.1 rfl (r_thrown hS1.2.1) ⟨by decide, by decide⟩ (Nat.zero_le _) (fun zt M3 h3 => ?_)
  obtain ⟨q1, q2⟩ := h3
  subst q1
  subst q2
  refine g_iload5 dL_law_666 rfl ?_
  refine g_icmp_eq (t := 673) dL_law_668 rfl rfl (fun _ => ?_) (fun hne => absurd e1 hne)
  refine g_iload5 dL_law_673 rfl ?_
  refine g_if_ne (t := 690) dL_law_675 rfl rfl (fun _ => ?_) (fun hk0 => ?_)
  · refine g_goto (t := 1502) dL_law_690 rfl ?_
    exact kk Γ1 gt1 _ A' _ _ _ (Or.inr ⟨_, rfl⟩) (Or.inr ⟨_, rfl⟩) hL' hC' hR' hn' (by show kn.1 + mc ≤ _; omega) (by show kn.2 + ms ≤ _; omega)
  · refine g_aload_n3 dL_law_678 rfl ?_
    refine g_iconst (v := 0) dL_law_679 rfl rfl ?_
    refine g_lald dL_law_680 rfl hS1.2.2.2.1 (i_in (by decide)) ?_
    refine g_iload6 dL_law_681 rfl ?_
    refine g_i2l dL_law_683 rfl ?_
    refine g_lcmp dL_law_684 rfl ?_
    refine g_if_eq (t := 690) dL_law_685 rfl rfl (fun _ => ?_) (fun hne => absurd (by have := e2 hk0; show lg_cmp (_ : Int64) _ = 0; rw [show (0 : Int32).toNatClampNeg = 0 from rfl, this]; exact cmp_self _) hne)
    refine g_goto (t := 1502) dL_law_690 rfl ?_
    exact kk Γ1 gt1 _ A' _ _ _ (Or.inr ⟨_, rfl⟩) (Or.inr ⟨_, rfl⟩) hL' hC' hR' hn' (by show kn.1 + mc ≤ _; omega) (by show kn.2 + ms ≤ _; omega)
theorem case_10 (hL : LW b Γ gt M) (hC : RC A M) (hR : RR A M) (hn : AOK A it) (hi : i.toInt = 6 * (it : Int)) (hLn : 6 * it + 6 ≤ L) (hit : it ≤ 512) (h5 : yi y5) (h6 : yi y6) (hkn : kn.1 ≤ 590000 ∧ kn.2 ≤ 7280000) (kk : KL b L xs kn it i) : G Γ μL_law room_1 kn (g_ZL b L xs) 693 (lvL i y5 y6) [] M := by
  refine g_aload_n1 dL_law_693 rfl ?_
  refine g_argL (it := it) (jn := 1) hL.2.2.2.2.1 hi hLn (by omega) dL_law_694 dL_law_695 dL_law_697 dL_law_698 dL_law_699 rfl rfl (by decide) ?_
  refine g_aload_n3 dL_law_700 rfl ?_
  obtain ⟨d, mc, ms, P, hd, hmc, hms, hc, hP⟩ : OL b Γ it yL_sets μL_sets hhL_sets [.ref 0, .int (xs (6 * it + 1)), .ref 500] yX6_sets μX6_sets [.ref 300, .int (xs (6 * it + 1))] M := OH.l hL.sh (o_sets hL hC hR hn)
  refine g_callL (As := [.ref 0, .int (xs (6 * it + 1)), .ref 500]) zL_p dL_law_701 wL_sets rfl hc (fun Γ' v M' h => (hP Γ' v M' h).1) (lv_in hL.sh h5 h6) (fun v hv => by cases hv) ⟨by show d + 9 ≤ 2048; omega, by show 200 + 50 * d ≤ 84000; omega⟩ ⟨by show kn.1 + mc ≤ 601024; omega, by show kn.2 + ms ≤ 7293034; omega⟩ (Nat.zero_le _) (fun Γ1 v M1 hv => ?_)
  obtain ⟨hE1, gt1, hS1, k, rfl, d2, P2, hd2, hc2, hP2⟩ := hP Γ1 v M1 hv
  show G _ _ _ _ _ 704 _ [.int k] _
  refine g_istore5 dL_law_704 rfl rfl ?_
  refine g_aload_n2 dL_law_706 rfl ?_
  refine g_argL (it := it) (jn := 1) hS1.2.2.2.2 hi hLn (by omega) dL_law_707 dL_law_708 dL_law_710 dL_law_711 dL_law_712 rfl rfl (by decide) ?_
  refine g_callVi1 dL_law_713 rfl vL_118 hS1.2.1.1 rfl hc2 ⟨by show d2 + 2 ≤ 2048; omega, by show 90 + 50 * d2 ≤ 84000; omega⟩ (Nat.zero_le _) (fun z M2 h2 => ?_)
  obtain ⟨e1, e2, A', hC', hR', hn', hL'⟩ := hP2 z M2 h2
  refine g_istore6 dL_law_716 rfl rfl ?_
  refine g_aload_n2 dL_law_718 rfl ?_
  refine g_callVi0 dL_law_719 rfl vL_82 hS1.2.1.1 rfl (r_thrown hS1.2.1) ⟨by decide, by decide⟩ (Nat.zero_le _) (fun zt M3 h3 => ?_)
  obtain ⟨q1, q2⟩ := h3
  subst q1
  subst q2
  refine g_iload5 dL_law_722 rfl ?_
  refine g_icmp_eq (t := 729) dL_law_724 rfl rfl (fun _ => ?_) (fun hne => absurd e1 hne)
  refine g_iload5 dL_law_729 rfl ?_
  refine g_if_ne (t := 746) dL_law_731 rfl rfl (fun _ => ?_) (fun hk0 => ?_)
  · refine g_goto (t := 1502) dL_law_746 rfl ?_
    exact kk Γ1 gt1 _ A' _ _ _ (Or.inr ⟨_, rfl⟩) (Or.inr ⟨_, rfl⟩) hL' hC' hR' hn' (by show kn.1 + mc ≤ _; omega) (by show kn.2 + ms ≤ _; omega)
  · refine g_aload_n3 dL_law_734 rfl ?_
    refine g_iconst (v := 0) dL_law_735 rfl rfl ?_
    refine g_lald dL_law_736 rfl hS1.2.2.2.1 (i_in (by decide)) ?_
    refine g_iload6 dL_law_737 rfl ?_
    refine g_i2l dL_law_739 rfl ?_
    refine g_lcmp dL_law_740 rfl ?_
    refine g_if_eq (t := 746) dL_law_741 rfl rfl (fun _ => ?_) (fun hne => absurd (by have := e2 hk0; show lg_cmp (_ : Int64) _ = 0; rw [show (0 : Int32).toNatClampNeg = 0 from rfl, this]; exact cmp_self _) hne)
    refine g_goto (t := 1502) dL_law_746 rfl ?_
    exact kk Γ1 gt1 _ A' _ _ _ (Or.inr ⟨_, rfl⟩) (Or.inr ⟨_, rfl⟩) hL' hC' hR' hn' (by show kn.1 + mc ≤ _; omega) (by show kn.2 + ms ≤ _; omega)
theorem case_11 (hL : LW b Γ gt M) (hC : RC A M) (hR : RR A M) (hn : AOK A it) (hi : i.toInt = 6 * (it : Int)) (hLn : 6 * it + 6 ≤ L) (hit : it ≤ 512) (h5 : yi y5) (h6 : yi y6) (hkn : kn.1 ≤ 590000 ∧ kn.2 ≤ 7280000) (kk : KL b L xs kn it i) : G Γ μL_law room_1 kn (g_ZL b L xs) 749 (lvL i y5 y6) [] M := by
  refine g_aload_n1 dL_law_749 rfl ?_
  refine g_argL (it := it) (jn := 1) hL.2.2.2.2.1 hi hLn (by omega) dL_law_750 dL_law_751 dL_law_753 dL_law_754 dL_law_755 rfl rfl (by decide) ?_
  refine g_argL (it := it) (jn := 2) hL.2.2.2.2.1 hi hLn (by omega) dL_law_756 dL_law_757 dL_law_759 dL_law_760 dL_law_761 rfl rfl (by decide) ?_
  refine g_aload_n3 dL_law_762 rfl ?_
  obtain ⟨d, mc, ms, P, hd, hmc, hms, hc, hP⟩ : OL b Γ it yL_choice μL_choice hhL_choice [.ref 0, .int (xs (6 * it + 1)), .int (xs (6 * it + 2)), .ref 500] yX6_choice μX6_choice [.ref 300, .int (xs (6 * it + 1)), .int (xs (6 * it + 2))] M := OH.l hL.sh (o_choice hL hC hR hn)
  refine g_callL (As := [.ref 0, .int (xs (6 * it + 1)), .int (xs (6 * it + 2)), .ref 500]) zL_p dL_law_763 wL_choice rfl hc (fun Γ' v M' h => (hP Γ' v M' h).1) (lv_in hL.sh h5 h6) (fun v hv => by cases hv) ⟨by show d + 9 ≤ 2048; omega, by show 200 + 50 * d ≤ 84000; omega⟩ ⟨by show kn.1 + mc ≤ 601024; omega, by show kn.2 + ms ≤ 7293034; omega⟩ (Nat.zero_le _) (fun Γ1 v M1 hv => ?_)
  obtain ⟨hE1, gt1, hS1, k, rfl, d2, P2, hd2, hc2, hP2⟩ := hP Γ1 v M1 hv
  show G _ _ _ _ _ 766 _ [.int k] _
  refine g_istore5 dL_law_766 rfl rfl ?_
  refine g_aload_n2 dL_law_768 rfl ?_
  refine g_argL (it := it) (jn := 1) hS1.2.2.2.2 hi hLn (by omega) dL_law_769 dL_law_770 dL_law_772 dL_law_773 dL_law_774 rfl rfl (by decide) ?_
  refine g_argL (it := it) (jn := 2) hS1.2.2.2.2 hi hLn (by omega) dL_law_775 dL_law_776 dL_law_778 dL_law_779 dL_law_780 rfl rfl (by decide) ?_
  refine g_callVi2 dL_law_781 rfl vL_121 hS1.2.1.1 rfl hc2 ⟨by show d2 + 2 ≤ 2048; omega, by show 90 + 50 * d2 ≤ 84000; omega⟩ (Nat.zero_le _) (fun z M2 h2 => ?_)
  obtain ⟨e1, e2, A', hC', hR', hn', hL'⟩ := hP2 z M2 h2
  refine g_istore6 dL_law_784 rfl rfl ?_
  refine g_aload_n2 dL_law_786 rfl ?_
  refine g_callVi0 dL_law_787 rfl vL_82 hS1.2.1.1 rfl (r_thrown hS1.2.1) ⟨by decide, by decide⟩ (Nat.zero_le _) (fun zt M3 h3 => ?_)
  obtain ⟨q1, q2⟩ := h3
  subst q1
  subst q2
  refine g_iload5 dL_law_790 rfl ?_
  refine g_icmp_eq (t := 797) dL_law_792 rfl rfl (fun _ => ?_) (fun hne => absurd e1 hne)
  refine g_iload5 dL_law_797 rfl ?_
  refine g_if_ne (t := 814) dL_law_799 rfl rfl (fun _ => ?_) (fun hk0 => ?_)
  · refine g_goto (t := 1502) dL_law_814 rfl ?_
    exact kk Γ1 gt1 _ A' _ _ _ (Or.inr ⟨_, rfl⟩) (Or.inr ⟨_, rfl⟩) hL' hC' hR' hn' (by show kn.1 + mc ≤ _; omega) (by show kn.2 + ms ≤ _; omega)
  · refine g_aload_n3 dL_law_802 rfl ?_
    refine g_iconst (v := 0) dL_law_803 rfl rfl ?_
    refine g_lald dL_law_804 rfl hS1.2.2.2.1 (i_in (by decide)) ?_
    refine g_iload6 dL_law_805 rfl ?_
    refine g_i2l dL_law_807 rfl ?_
    refine g_lcmp dL_law_808 rfl ?_
    refine g_if_eq (t := 814) dL_law_809 rfl rfl (fun _ => ?_) (fun hne => absurd (by have := e2 hk0; show lg_cmp (_ : Int64) _ = 0; rw [show (0 : Int32).toNatClampNeg = 0 from rfl, this]; exact cmp_self _) hne)
    refine g_goto (t := 1502) dL_law_814 rfl ?_
    exact kk Γ1 gt1 _ A' _ _ _ (Or.inr ⟨_, rfl⟩) (Or.inr ⟨_, rfl⟩) hL' hC' hR' hn' (by show kn.1 + mc ≤ _; omega) (by show kn.2 + ms ≤ _; omega)
theorem case_12 (hL : LW b Γ gt M) (hC : RC A M) (hR : RR A M) (hn : AOK A it) (hi : i.toInt = 6 * (it : Int)) (hLn : 6 * it + 6 ≤ L) (hit : it ≤ 512) (h5 : yi y5) (h6 : yi y6) (hkn : kn.1 ≤ 590000 ∧ kn.2 ≤ 7280000) (kk : KL b L xs kn it i) : G Γ μL_law room_1 kn (g_ZL b L xs) 817 (lvL i y5 y6) [] M := by
  refine g_aload_n1 dL_law_817 rfl ?_
  refine g_argL (it := it) (jn := 1) hL.2.2.2.2.1 hi hLn (by omega) dL_law_818 dL_law_819 dL_law_821 dL_law_822 dL_law_823 rfl rfl (by decide) ?_
  refine g_aload_n3 dL_law_824 rfl ?_
  obtain ⟨d, mc, ms, P, hd, hmc, hms, hc, hP⟩ : OL b Γ it yL_gap μL_gap hhL_gap [.ref 0, .int (xs (6 * it + 1)), .ref 500] yX6_gap μX6_gap [.ref 300, .int (xs (6 * it + 1))] M := OH.l hL.sh (o_gap hL hC hR hn)
  refine g_callL (As := [.ref 0, .int (xs (6 * it + 1)), .ref 500]) zL_p dL_law_825 wL_gap rfl hc (fun Γ' v M' h => (hP Γ' v M' h).1) (lv_in hL.sh h5 h6) (fun v hv => by cases hv) ⟨by show d + 9 ≤ 2048; omega, by show 200 + 50 * d ≤ 84000; omega⟩ ⟨by show kn.1 + mc ≤ 601024; omega, by show kn.2 + ms ≤ 7293034; omega⟩ (Nat.zero_le _) (fun Γ1 v M1 hv => ?_)
  obtain ⟨hE1, gt1, hS1, k, rfl, d2, P2, hd2, hc2, hP2⟩ := hP Γ1 v M1 hv
  show G _ _ _ _ _ 828 _ [.int k] _
  refine g_istore5 dL_law_828 rfl rfl ?_
  refine g_aload_n2 dL_law_830 rfl ?_
  refine g_argL (it := it) (jn := 1) hS1.2.2.2.2 hi hLn (by omega) dL_law_831 dL_law_832 dL_law_834 dL_law_835 dL_law_836 rfl rfl (by decide) ?_
  refine g_callVi1 dL_law_837 rfl vL_124 hS1.2.1.1 rfl hc2 ⟨by show d2 + 2 ≤ 2048; omega, by show 90 + 50 * d2 ≤ 84000; omega⟩ (Nat.zero_le _) (fun z M2 h2 => ?_)
  obtain ⟨e1, e2, A', hC', hR', hn', hL'⟩ := hP2 z M2 h2
  refine g_istore6 dL_law_840 rfl rfl ?_
  refine g_aload_n2 dL_law_842 rfl ?_
  refine g_callVi0 dL_law_843 rfl vL_82 hS1.2.1.1 rfl (r_thrown hS1.2.1) ⟨by decide, by decide⟩ (Nat.zero_le _) (fun zt M3 h3 => ?_)
  obtain ⟨q1, q2⟩ := h3
  subst q1
  subst q2
  refine g_iload5 dL_law_846 rfl ?_
  refine g_icmp_eq (t := 853) dL_law_848 rfl rfl (fun _ => ?_) (fun hne => absurd e1 hne)
  refine g_iload5 dL_law_853 rfl ?_
  refine g_if_ne (t := 870) dL_law_855 rfl rfl (fun _ => ?_) (fun hk0 => ?_)
  · refine g_goto (t := 1502) dL_law_870 rfl ?_
    exact kk Γ1 gt1 _ A' _ _ _ (Or.inr ⟨_, rfl⟩) (Or.inr ⟨_, rfl⟩) hL' hC' hR' hn' (by show kn.1 + mc ≤ _; omega) (by show kn.2 + ms ≤ _; omega)
  · refine g_aload_n3 dL_law_858 rfl ?_
    refine g_iconst (v := 0) dL_law_859 rfl rfl ?_
    refine g_lald dL_law_860 rfl hS1.2.2.2.1 (i_in (by decide)) ?_
    refine g_iload6 dL_law_861 rfl ?_
    refine g_i2l dL_law_863 rfl ?_
    refine g_lcmp dL_law_864 rfl ?_
    refine g_if_eq (t := 870) dL_law_865 rfl rfl (fun _ => ?_) (fun hne => absurd (by have := e2 hk0; show lg_cmp (_ : Int64) _ = 0; rw [show (0 : Int32).toNatClampNeg = 0 from rfl, this]; exact cmp_self _) hne)
    refine g_goto (t := 1502) dL_law_870 rfl ?_
    exact kk Γ1 gt1 _ A' _ _ _ (Or.inr ⟨_, rfl⟩) (Or.inr ⟨_, rfl⟩) hL' hC' hR' hn' (by show kn.1 + mc ≤ _; omega) (by show kn.2 + ms ≤ _; omega)
theorem case_13 (hL : LW b Γ gt M) (hC : RC A M) (hR : RR A M) (hn : AOK A it) (hi : i.toInt = 6 * (it : Int)) (hLn : 6 * it + 6 ≤ L) (hit : it ≤ 512) (h5 : yi y5) (h6 : yi y6) (hkn : kn.1 ≤ 590000 ∧ kn.2 ≤ 7280000) (kk : KL b L xs kn it i) : G Γ μL_law room_1 kn (g_ZL b L xs) 873 (lvL i y5 y6) [] M := by
  refine g_aload_n1 dL_law_873 rfl ?_
  refine g_argL (it := it) (jn := 1) hL.2.2.2.2.1 hi hLn (by omega) dL_law_874 dL_law_875 dL_law_877 dL_law_878 dL_law_879 rfl rfl (by decide) ?_
  refine g_aload_n3 dL_law_880 rfl ?_
  obtain ⟨d, mc, ms, P, hd, hmc, hms, hc, hP⟩ : OL b Γ it yL_week μL_week hhL_week [.ref 0, .int (xs (6 * it + 1)), .ref 500] yX6_week μX6_week [.ref 300, .int (xs (6 * it + 1))] M := OH.l hL.sh (o_week hL hC hR hn)
  refine g_callL (As := [.ref 0, .int (xs (6 * it + 1)), .ref 500]) zL_p dL_law_881 wL_week rfl hc (fun Γ' v M' h => (hP Γ' v M' h).1) (lv_in hL.sh h5 h6) (fun v hv => by cases hv) ⟨by show d + 9 ≤ 2048; omega, by show 200 + 50 * d ≤ 84000; omega⟩ ⟨by show kn.1 + mc ≤ 601024; omega, by show kn.2 + ms ≤ 7293034; omega⟩ (Nat.zero_le _) (fun Γ1 v M1 hv => ?_)
  obtain ⟨hE1, gt1, hS1, k, rfl, d2, P2, hd2, hc2, hP2⟩ := hP Γ1 v M1 hv
  show G _ _ _ _ _ 884 _ [.int k] _
  refine g_istore5 dL_law_884 rfl rfl ?_
  refine g_aload_n2 dL_law_886 rfl ?_
  refine g_argL (it := it) (jn := 1) hS1.2.2.2.2 hi hLn (by omega) dL_law_887 dL_law_888 dL_law_890 dL_law_891 dL_law_892 rfl rfl (by decide) ?_
  refine g_callVi1 dL_law_893 rfl vL_127 hS1.2.1.1 rfl hc2 ⟨by show d2 + 2 ≤ 2048; omega, by show 90 + 50 * d2 ≤ 84000; omega⟩ (Nat.zero_le _) (fun z M2 h2 => ?_)
  obtain ⟨e1, e2, A', hC', hR', hn', hL'⟩ := hP2 z M2 h2
  refine g_istore6 dL_law_896 rfl rfl ?_
  refine g_aload_n2 dL_law_898 rfl ?_
  refine g_callVi0 dL_law_899 rfl vL_82 hS1.2.1.1 rfl (r_thrown hS1.2.1) ⟨by decide, by decide⟩ (Nat.zero_le _) (fun zt M3 h3 => ?_)
  obtain ⟨q1, q2⟩ := h3
  subst q1
  subst q2
  refine g_iload5 dL_law_902 rfl ?_
  refine g_icmp_eq (t := 909) dL_law_904 rfl rfl (fun _ => ?_) (fun hne => absurd e1 hne)
  refine g_iload5 dL_law_909 rfl ?_
  refine g_if_ne (t := 926) dL_law_911 rfl rfl (fun _ => ?_) (fun hk0 => ?_)
  · refine g_goto (t := 1502) dL_law_926 rfl ?_
    exact kk Γ1 gt1 _ A' _ _ _ (Or.inr ⟨_, rfl⟩) (Or.inr ⟨_, rfl⟩) hL' hC' hR' hn' (by show kn.1 + mc ≤ _; omega) (by show kn.2 + ms ≤ _; omega)
  · refine g_aload_n3 dL_law_914 rfl ?_
    refine g_iconst (v := 0) dL_law_915 rfl rfl ?_
    refine g_lald dL_law_916 rfl hS1.2.2.2.1 (i_in (by decide)) ?_
    refine g_iload6 dL_law_917 rfl ?_
    refine g_i2l dL_law_919 rfl ?_
    refine g_lcmp dL_law_920 rfl ?_
    refine g_if_eq (t := 926) dL_law_921 rfl rfl (fun _ => ?_) (fun hne => absurd (by have := e2 hk0; show lg_cmp (_ : Int64) _ = 0; rw [show (0 : Int32).toNatClampNeg = 0 from rfl, this]; exact cmp_self _) hne)
    refine g_goto (t := 1502) dL_law_926 rfl ?_
    exact kk Γ1 gt1 _ A' _ _ _ (Or.inr ⟨_, rfl⟩) (Or.inr ⟨_, rfl⟩) hL' hC' hR' hn' (by show kn.1 + mc ≤ _; omega) (by show kn.2 + ms ≤ _; omega)
theorem case_14 (hL : LW b Γ gt M) (hC : RC A M) (hR : RR A M) (hn : AOK A it) (hi : i.toInt = 6 * (it : Int)) (hLn : 6 * it + 6 ≤ L) (hit : it ≤ 512) (h5 : yi y5) (h6 : yi y6) (hkn : kn.1 ≤ 590000 ∧ kn.2 ≤ 7280000) (kk : KL b L xs kn it i) : G Γ μL_law room_1 kn (g_ZL b L xs) 929 (lvL i y5 y6) [] M := by
  refine g_aload_n1 dL_law_929 rfl ?_
  refine g_argL (it := it) (jn := 1) hL.2.2.2.2.1 hi hLn (by omega) dL_law_930 dL_law_931 dL_law_933 dL_law_934 dL_law_935 rfl rfl (by decide) ?_
  refine g_aload_n3 dL_law_936 rfl ?_
  obtain ⟨d, mc, ms, P, hd, hmc, hms, hc, hP⟩ : OL b Γ it yL_order μL_order hhL_order [.ref 0, .int (xs (6 * it + 1)), .ref 500] yX6_order μX6_order [.ref 300, .int (xs (6 * it + 1))] M := OH.l hL.sh (o_order hL hC hR hn)
  refine g_callL (As := [.ref 0, .int (xs (6 * it + 1)), .ref 500]) zL_p dL_law_937 wL_order rfl hc (fun Γ' v M' h => (hP Γ' v M' h).1) (lv_in hL.sh h5 h6) (fun v hv => by cases hv) ⟨by show d + 9 ≤ 2048; omega, by show 200 + 50 * d ≤ 84000; omega⟩ ⟨by show kn.1 + mc ≤ 601024; omega, by show kn.2 + ms ≤ 7293034; omega⟩ (Nat.zero_le _) (fun Γ1 v M1 hv => ?_)
  obtain ⟨hE1, gt1, hS1, k, rfl, d2, P2, hd2, hc2, hP2⟩ := hP Γ1 v M1 hv
  show G _ _ _ _ _ 940 _ [.int k] _
  refine g_istore5 dL_law_940 rfl rfl ?_
  refine g_aload_n2 dL_law_942 rfl ?_
  refine g_argL (it := it) (jn := 1) hS1.2.2.2.2 hi hLn (by omega) dL_law_943 dL_law_944 dL_law_946 dL_law_947 dL_law_948 rfl rfl (by decide) ?_
  refine g_callVi1 dL_law_949 rfl vL_130 hS1.2.1.1 rfl hc2 ⟨by show d2 + 2 ≤ 2048; omega, by show 90 + 50 * d2 ≤ 84000; omega⟩ (Nat.zero_le _) (fun z M2 h2 => ?_)
  obtain ⟨e1, e2, A', hC', hR', hn', hL'⟩ := hP2 z M2 h2
  refine g_istore6 dL_law_952 rfl rfl ?_
  refine g_aload_n2 dL_law_954 rfl ?_
  refine g_callVi0 dL_law_955 rfl vL_82 hS1.2.1.1 rfl (r_thrown hS1.2.1) ⟨by decide, by decide⟩ (Nat.zero_le _) (fun zt M3 h3 => ?_)
  obtain ⟨q1, q2⟩ := h3
  subst q1
  subst q2
  refine g_iload5 dL_law_958 rfl ?_
  refine g_icmp_eq (t := 965) dL_law_960 rfl rfl (fun _ => ?_) (fun hne => absurd e1 hne)
  refine g_iload5 dL_law_965 rfl ?_
  refine g_if_ne (t := 982) dL_law_967 rfl rfl (fun _ => ?_) (fun hk0 => ?_)
  · refine g_goto (t := 1502) dL_law_982 rfl ?_
    exact kk Γ1 gt1 _ A' _ _ _ (Or.inr ⟨_, rfl⟩) (Or.inr ⟨_, rfl⟩) hL' hC' hR' hn' (by show kn.1 + mc ≤ _; omega) (by show kn.2 + ms ≤ _; omega)
  · refine g_aload_n3 dL_law_970 rfl ?_
    refine g_iconst (v := 0) dL_law_971 rfl rfl ?_
    refine g_lald dL_law_972 rfl hS1.2.2.2.1 (i_in (by decide)) ?_
    refine g_iload6 dL_law_973 rfl ?_
    refine g_i2l dL_law_975 rfl ?_
    refine g_lcmp dL_law_976 rfl ?_
    refine g_if_eq (t := 982) dL_law_977 rfl rfl (fun _ => ?_) (fun hne => absurd (by have := e2 hk0; show lg_cmp (_ : Int64) _ = 0; rw [show (0 : Int32).toNatClampNeg = 0 from rfl, this]; exact cmp_self _) hne)
    refine g_goto (t := 1502) dL_law_982 rfl ?_
    exact kk Γ1 gt1 _ A' _ _ _ (Or.inr ⟨_, rfl⟩) (Or.inr ⟨_, rfl⟩) hL' hC' hR' hn' (by show kn.1 + mc ≤ _; omega) (by show kn.2 + ms ≤ _; omega)
theorem case_15 (hL : LW b Γ gt M) (hC : RC A M) (hR : RR A M) (hn : AOK A it) (hi : i.toInt = 6 * (it : Int)) (hLn : 6 * it + 6 ≤ L) (hit : it ≤ 512) (h5 : yi y5) (h6 : yi y6) (hkn : kn.1 ≤ 590000 ∧ kn.2 ≤ 7280000) (kk : KL b L xs kn it i) : G Γ μL_law room_1 kn (g_ZL b L xs) 985 (lvL i y5 y6) [] M := by
  refine g_aload_n1 dL_law_985 rfl ?_
  refine g_argL (it := it) (jn := 1) hL.2.2.2.2.1 hi hLn (by omega) dL_law_986 dL_law_987 dL_law_989 dL_law_990 dL_law_991 rfl rfl (by decide) ?_
  refine g_argL (it := it) (jn := 2) hL.2.2.2.2.1 hi hLn (by omega) dL_law_992 dL_law_993 dL_law_995 dL_law_996 dL_law_997 rfl rfl (by decide) ?_
  refine g_aload_n3 dL_law_998 rfl ?_
  obtain ⟨d, mc, ms, P, hd, hmc, hms, hc, hP⟩ : OL b Γ it yL_get μL_get hhL_get [.ref 0, .int (xs (6 * it + 1)), .int (xs (6 * it + 2)), .ref 500] yX6_get μX6_get [.ref 300, .int (xs (6 * it + 1)), .int (xs (6 * it + 2))] M := o_get hL hC hR hn
  refine g_callL (As := [.ref 0, .int (xs (6 * it + 1)), .int (xs (6 * it + 2)), .ref 500]) zL_p dL_law_999 wL_get rfl hc (fun Γ' v M' h => (hP Γ' v M' h).1) (lv_in hL.sh h5 h6) (fun v hv => by cases hv) ⟨by show d + 9 ≤ 2048; omega, by show 200 + 50 * d ≤ 84000; omega⟩ ⟨by show kn.1 + mc ≤ 601024; omega, by show kn.2 + ms ≤ 7293034; omega⟩ (Nat.zero_le _) (fun Γ1 v M1 hv => ?_)
  obtain ⟨hE1, gt1, hS1, k, rfl, d2, P2, hd2, hc2, hP2⟩ := hP Γ1 v M1 hv
  show G _ _ _ _ _ 1002 _ [.int k] _
  refine g_istore5 dL_law_1002 rfl rfl ?_
  refine g_aload_n2 dL_law_1004 rfl ?_
  refine g_argL (it := it) (jn := 1) hS1.2.2.2.2 hi hLn (by omega) dL_law_1005 dL_law_1006 dL_law_1008 dL_law_1009 dL_law_1010 rfl rfl (by decide) ?_
  refine g_argL (it := it) (jn := 2) hS1.2.2.2.2 hi hLn (by omega) dL_law_1011 dL_law_1012 dL_law_1014 dL_law_1015 dL_law_1016 rfl rfl (by decide) ?_
  refine g_callVi2 dL_law_1017 rfl vL_133 hS1.2.1.1 rfl hc2 ⟨by show d2 + 2 ≤ 2048; omega, by show 90 + 50 * d2 ≤ 84000; omega⟩ (Nat.zero_le _) (fun z M2 h2 => ?_)
  obtain ⟨e1, e2, A', hC', hR', hn', hL'⟩ := hP2 z M2 h2
  refine g_istore6 dL_law_1020 rfl rfl ?_
  refine g_aload_n2 dL_law_1022 rfl ?_
  refine g_callVi0 dL_law_1023 rfl vL_82 hS1.2.1.1 rfl (r_thrown hS1.2.1) ⟨by decide, by decide⟩ (Nat.zero_le _) (fun zt M3 h3 => ?_)
  obtain ⟨q1, q2⟩ := h3
  subst q1
  subst q2
  refine g_iload5 dL_law_1026 rfl ?_
  refine g_icmp_eq (t := 1033) dL_law_1028 rfl rfl (fun _ => ?_) (fun hne => absurd e1 hne)
  refine g_iload5 dL_law_1033 rfl ?_
  refine g_if_ne (t := 1050) dL_law_1035 rfl rfl (fun _ => ?_) (fun hk0 => ?_)
  · refine g_goto (t := 1502) dL_law_1050 rfl ?_
    exact kk Γ1 gt1 _ A' _ _ _ (Or.inr ⟨_, rfl⟩) (Or.inr ⟨_, rfl⟩) hL' hC' hR' hn' (by show kn.1 + mc ≤ _; omega) (by show kn.2 + ms ≤ _; omega)
  · refine g_aload_n3 dL_law_1038 rfl ?_
    refine g_iconst (v := 0) dL_law_1039 rfl rfl ?_
    refine g_lald dL_law_1040 rfl hS1.2.2.2.1 (i_in (by decide)) ?_
    refine g_iload6 dL_law_1041 rfl ?_
    refine g_i2l dL_law_1043 rfl ?_
    refine g_lcmp dL_law_1044 rfl ?_
    refine g_if_eq (t := 1050) dL_law_1045 rfl rfl (fun _ => ?_) (fun hne => absurd (by have := e2 hk0; show lg_cmp (_ : Int64) _ = 0; rw [show (0 : Int32).toNatClampNeg = 0 from rfl, this]; exact cmp_self _) hne)
    refine g_goto (t := 1502) dL_law_1050 rfl ?_
    exact kk Γ1 gt1 _ A' _ _ _ (Or.inr ⟨_, rfl⟩) (Or.inr ⟨_, rfl⟩) hL' hC' hR' hn' (by show kn.1 + mc ≤ _; omega) (by show kn.2 + ms ≤ _; omega)
theorem case_16 (hL : LW b Γ gt M) (hC : RC A M) (hR : RR A M) (hn : AOK A it) (hi : i.toInt = 6 * (it : Int)) (hLn : 6 * it + 6 ≤ L) (hit : it ≤ 512) (h5 : yi y5) (h6 : yi y6) (hkn : kn.1 ≤ 590000 ∧ kn.2 ≤ 7280000) (kk : KL b L xs kn it i) : G Γ μL_law room_1 kn (g_ZL b L xs) 1053 (lvL i y5 y6) [] M := by
  refine g_aload_n1 dL_law_1053 rfl ?_
  refine g_argL (it := it) (jn := 1) hL.2.2.2.2.1 hi hLn (by omega) dL_law_1054 dL_law_1055 dL_law_1057 dL_law_1058 dL_law_1059 rfl rfl (by decide) ?_
  refine g_argL (it := it) (jn := 2) hL.2.2.2.2.1 hi hLn (by omega) dL_law_1060 dL_law_1061 dL_law_1063 dL_law_1064 dL_law_1065 rfl rfl (by decide) ?_
  refine g_aload_n3 dL_law_1066 rfl ?_
  obtain ⟨d, mc, ms, P, hd, hmc, hms, hc, hP⟩ : OL b Γ it yL_cut μL_cut hhL_cut [.ref 0, .int (xs (6 * it + 1)), .int (xs (6 * it + 2)), .ref 500] yX6_cut μX6_cut [.ref 300, .int (xs (6 * it + 1)), .int (xs (6 * it + 2))] M := OH.l hL.sh (o_cut hL hC hR hn)
  refine g_callL (As := [.ref 0, .int (xs (6 * it + 1)), .int (xs (6 * it + 2)), .ref 500]) zL_p dL_law_1067 wL_cut rfl hc (fun Γ' v M' h => (hP Γ' v M' h).1) (lv_in hL.sh h5 h6) (fun v hv => by cases hv) ⟨by show d + 9 ≤ 2048; omega, by show 200 + 50 * d ≤ 84000; omega⟩ ⟨by show kn.1 + mc ≤ 601024; omega, by show kn.2 + ms ≤ 7293034; omega⟩ (Nat.zero_le _) (fun Γ1 v M1 hv => ?_)
  obtain ⟨hE1, gt1, hS1, k, rfl, d2, P2, hd2, hc2, hP2⟩ := hP Γ1 v M1 hv
  show G _ _ _ _ _ 1070 _ [.int k] _
  refine g_istore5 dL_law_1070 rfl rfl ?_
  refine g_aload_n2 dL_law_1072 rfl ?_
  refine g_argL (it := it) (jn := 1) hS1.2.2.2.2 hi hLn (by omega) dL_law_1073 dL_law_1074 dL_law_1076 dL_law_1077 dL_law_1078 rfl rfl (by decide) ?_
  refine g_argL (it := it) (jn := 2) hS1.2.2.2.2 hi hLn (by omega) dL_law_1079 dL_law_1080 dL_law_1082 dL_law_1083 dL_law_1084 rfl rfl (by decide) ?_
  refine g_callVi2 dL_law_1085 rfl vL_136 hS1.2.1.1 rfl hc2 ⟨by show d2 + 2 ≤ 2048; omega, by show 90 + 50 * d2 ≤ 84000; omega⟩ (Nat.zero_le _) (fun z M2 h2 => ?_)
  obtain ⟨e1, e2, A', hC', hR', hn', hL'⟩ := hP2 z M2 h2
  refine g_istore6 dL_law_1088 rfl rfl ?_
  refine g_aload_n2 dL_law_1090 rfl ?_
  refine g_callVi0 dL_law_1091 rfl vL_82 hS1.2.1.1 rfl (r_thrown hS1.2.1) ⟨by decide, by decide⟩ (Nat.zero_le _) (fun zt M3 h3 => ?_)
  obtain ⟨q1, q2⟩ := h3
  subst q1
  subst q2
  refine g_iload5 dL_law_1094 rfl ?_
  refine g_icmp_eq (t := 1101) dL_law_1096 rfl rfl (fun _ => ?_) (fun hne => absurd e1 hne)
  refine g_iload5 dL_law_1101 rfl ?_
  refine g_if_ne (t := 1118) dL_law_1103 rfl rfl (fun _ => ?_) (fun hk0 => ?_)
  · refine g_goto (t := 1502) dL_law_1118 rfl ?_
    exact kk Γ1 gt1 _ A' _ _ _ (Or.inr ⟨_, rfl⟩) (Or.inr ⟨_, rfl⟩) hL' hC' hR' hn' (by show kn.1 + mc ≤ _; omega) (by show kn.2 + ms ≤ _; omega)
  · refine g_aload_n3 dL_law_1106 rfl ?_
    refine g_iconst (v := 0) dL_law_1107 rfl rfl ?_
    refine g_lald dL_law_1108 rfl hS1.2.2.2.1 (i_in (by decide)) ?_
    refine g_iload6 dL_law_1109 rfl ?_
    refine g_i2l dL_law_1111 rfl ?_
    refine g_lcmp dL_law_1112 rfl ?_
    refine g_if_eq (t := 1118) dL_law_1113 rfl rfl (fun _ => ?_) (fun hne => absurd (by have := e2 hk0; show lg_cmp (_ : Int64) _ = 0; rw [show (0 : Int32).toNatClampNeg = 0 from rfl, this]; exact cmp_self _) hne)
    refine g_goto (t := 1502) dL_law_1118 rfl ?_
    exact kk Γ1 gt1 _ A' _ _ _ (Or.inr ⟨_, rfl⟩) (Or.inr ⟨_, rfl⟩) hL' hC' hR' hn' (by show kn.1 + mc ≤ _; omega) (by show kn.2 + ms ≤ _; omega)
theorem case_17 (hL : LW b Γ gt M) (hC : RC A M) (hR : RR A M) (hn : AOK A it) (hi : i.toInt = 6 * (it : Int)) (hLn : 6 * it + 6 ≤ L) (hit : it ≤ 512) (h5 : yi y5) (h6 : yi y6) (hkn : kn.1 ≤ 590000 ∧ kn.2 ≤ 7280000) (kk : KL b L xs kn it i) : G Γ μL_law room_1 kn (g_ZL b L xs) 1121 (lvL i y5 y6) [] M := by
  refine g_aload_n1 dL_law_1121 rfl ?_
  refine g_argL (it := it) (jn := 1) hL.2.2.2.2.1 hi hLn (by omega) dL_law_1122 dL_law_1123 dL_law_1125 dL_law_1126 dL_law_1127 rfl rfl (by decide) ?_
  refine g_argL (it := it) (jn := 2) hL.2.2.2.2.1 hi hLn (by omega) dL_law_1128 dL_law_1129 dL_law_1131 dL_law_1132 dL_law_1133 rfl rfl (by decide) ?_
  refine g_aload_n3 dL_law_1134 rfl ?_
  obtain ⟨d, mc, ms, P, hd, hmc, hms, hc, hP⟩ : OL b Γ it yL_keep μL_keep hhL_keep [.ref 0, .int (xs (6 * it + 1)), .int (xs (6 * it + 2)), .ref 500] yX6_keep μX6_keep [.ref 300, .int (xs (6 * it + 1)), .int (xs (6 * it + 2))] M := OH.l hL.sh (o_keep hL hC hR hn)
  refine g_callL (As := [.ref 0, .int (xs (6 * it + 1)), .int (xs (6 * it + 2)), .ref 500]) zL_p dL_law_1135 wL_keep rfl hc (fun Γ' v M' h => (hP Γ' v M' h).1) (lv_in hL.sh h5 h6) (fun v hv => by cases hv) ⟨by show d + 9 ≤ 2048; omega, by show 200 + 50 * d ≤ 84000; omega⟩ ⟨by show kn.1 + mc ≤ 601024; omega, by show kn.2 + ms ≤ 7293034; omega⟩ (Nat.zero_le _) (fun Γ1 v M1 hv => ?_)
  obtain ⟨hE1, gt1, hS1, k, rfl, d2, P2, hd2, hc2, hP2⟩ := hP Γ1 v M1 hv
  show G _ _ _ _ _ 1138 _ [.int k] _
  refine g_istore5 dL_law_1138 rfl rfl ?_
  refine g_aload_n2 dL_law_1140 rfl ?_
  refine g_argL (it := it) (jn := 1) hS1.2.2.2.2 hi hLn (by omega) dL_law_1141 dL_law_1142 dL_law_1144 dL_law_1145 dL_law_1146 rfl rfl (by decide) ?_
  refine g_argL (it := it) (jn := 2) hS1.2.2.2.2 hi hLn (by omega) dL_law_1147 dL_law_1148 dL_law_1150 dL_law_1151 dL_law_1152 rfl rfl (by decide) ?_
  refine g_callVi2 dL_law_1153 rfl vL_139 hS1.2.1.1 rfl hc2 ⟨by show d2 + 2 ≤ 2048; omega, by show 90 + 50 * d2 ≤ 84000; omega⟩ (Nat.zero_le _) (fun z M2 h2 => ?_)
  obtain ⟨e1, e2, A', hC', hR', hn', hL'⟩ := hP2 z M2 h2
  refine g_istore6 dL_law_1156 rfl rfl ?_
  refine g_aload_n2 dL_law_1158 rfl ?_
  refine g_callVi0 dL_law_1159 rfl vL_82 hS1.2.1.1 rfl (r_thrown hS1.2.1) ⟨by decide, by decide⟩ (Nat.zero_le _) (fun zt M3 h3 => ?_)
  obtain ⟨q1, q2⟩ := h3
  subst q1
  subst q2
  refine g_iload5 dL_law_1162 rfl ?_
  refine g_icmp_eq (t := 1169) dL_law_1164 rfl rfl (fun _ => ?_) (fun hne => absurd e1 hne)
  refine g_iload5 dL_law_1169 rfl ?_
  refine g_if_ne (t := 1186) dL_law_1171 rfl rfl (fun _ => ?_) (fun hk0 => ?_)
  · refine g_goto (t := 1502) dL_law_1186 rfl ?_
    exact kk Γ1 gt1 _ A' _ _ _ (Or.inr ⟨_, rfl⟩) (Or.inr ⟨_, rfl⟩) hL' hC' hR' hn' (by show kn.1 + mc ≤ _; omega) (by show kn.2 + ms ≤ _; omega)
  · refine g_aload_n3 dL_law_1174 rfl ?_
    refine g_iconst (v := 0) dL_law_1175 rfl rfl ?_
    refine g_lald dL_law_1176 rfl hS1.2.2.2.1 (i_in (by decide)) ?_
    refine g_iload6 dL_law_1177 rfl ?_
    refine g_i2l dL_law_1179 rfl ?_
    refine g_lcmp dL_law_1180 rfl ?_
    refine g_if_eq (t := 1186) dL_law_1181 rfl rfl (fun _ => ?_) (fun hne => absurd (by have := e2 hk0; show lg_cmp (_ : Int64) _ = 0; rw [show (0 : Int32).toNatClampNeg = 0 from rfl, this]; exact cmp_self _) hne)
    refine g_goto (t := 1502) dL_law_1186 rfl ?_
    exact kk Γ1 gt1 _ A' _ _ _ (Or.inr ⟨_, rfl⟩) (Or.inr ⟨_, rfl⟩) hL' hC' hR' hn' (by show kn.1 + mc ≤ _; omega) (by show kn.2 + ms ≤ _; omega)
theorem case_18 (hL : LW b Γ gt M) (hC : RC A M) (hR : RR A M) (hn : AOK A it) (hi : i.toInt = 6 * (it : Int)) (hLn : 6 * it + 6 ≤ L) (hit : it ≤ 512) (h5 : yi y5) (h6 : yi y6) (hkn : kn.1 ≤ 590000 ∧ kn.2 ≤ 7280000) (kk : KL b L xs kn it i) : G Γ μL_law room_1 kn (g_ZL b L xs) 1189 (lvL i y5 y6) [] M := by
  refine g_aload_n1 dL_law_1189 rfl ?_
  refine g_argL (it := it) (jn := 1) hL.2.2.2.2.1 hi hLn (by omega) dL_law_1190 dL_law_1191 dL_law_1193 dL_law_1194 dL_law_1195 rfl rfl (by decide) ?_
  refine g_aload_n3 dL_law_1196 rfl ?_
  obtain ⟨d, mc, ms, P, hd, hmc, hms, hc, hP⟩ : OL b Γ it yL_fewest μL_fewest hhL_fewest [.ref 0, .int (xs (6 * it + 1)), .ref 500] yX6_fewest μX6_fewest [.ref 300, .int (xs (6 * it + 1))] M := OH.l hL.sh (o_fewest hL hC hR hn)
  refine g_callL (As := [.ref 0, .int (xs (6 * it + 1)), .ref 500]) zL_p dL_law_1197 wL_fewest rfl hc (fun Γ' v M' h => (hP Γ' v M' h).1) (lv_in hL.sh h5 h6) (fun v hv => by cases hv) ⟨by show d + 9 ≤ 2048; omega, by show 200 + 50 * d ≤ 84000; omega⟩ ⟨by show kn.1 + mc ≤ 601024; omega, by show kn.2 + ms ≤ 7293034; omega⟩ (Nat.zero_le _) (fun Γ1 v M1 hv => ?_)
  obtain ⟨hE1, gt1, hS1, k, rfl, d2, P2, hd2, hc2, hP2⟩ := hP Γ1 v M1 hv
  show G _ _ _ _ _ 1200 _ [.int k] _
  refine g_istore5 dL_law_1200 rfl rfl ?_
  refine g_aload_n2 dL_law_1202 rfl ?_
  refine g_argL (it := it) (jn := 1) hS1.2.2.2.2 hi hLn (by omega) dL_law_1203 dL_law_1204 dL_law_1206 dL_law_1207 dL_law_1208 rfl rfl (by decide) ?_
  refine g_callVi1 dL_law_1209 rfl vL_142 hS1.2.1.1 rfl hc2 ⟨by show d2 + 2 ≤ 2048; omega, by show 90 + 50 * d2 ≤ 84000; omega⟩ (Nat.zero_le _) (fun z M2 h2 => ?_)
  obtain ⟨e1, e2, A', hC', hR', hn', hL'⟩ := hP2 z M2 h2
  refine g_istore6 dL_law_1212 rfl rfl ?_
  refine g_aload_n2 dL_law_1214 rfl ?_
  refine g_callVi0 dL_law_1215 rfl vL_82 hS1.2.1.1 rfl (r_thrown hS1.2.1) ⟨by decide, by decide⟩ (Nat.zero_le _) (fun zt M3 h3 => ?_)
  obtain ⟨q1, q2⟩ := h3
  subst q1
  subst q2
  refine g_iload5 dL_law_1218 rfl ?_
  refine g_icmp_eq (t := 1225) dL_law_1220 rfl rfl (fun _ => ?_) (fun hne => absurd e1 hne)
  refine g_iload5 dL_law_1225 rfl ?_
  refine g_if_ne (t := 1242) dL_law_1227 rfl rfl (fun _ => ?_) (fun hk0 => ?_)
  · refine g_goto (t := 1502) dL_law_1242 rfl ?_
    exact kk Γ1 gt1 _ A' _ _ _ (Or.inr ⟨_, rfl⟩) (Or.inr ⟨_, rfl⟩) hL' hC' hR' hn' (by show kn.1 + mc ≤ _; omega) (by show kn.2 + ms ≤ _; omega)
  · refine g_aload_n3 dL_law_1230 rfl ?_
    refine g_iconst (v := 0) dL_law_1231 rfl rfl ?_
    refine g_lald dL_law_1232 rfl hS1.2.2.2.1 (i_in (by decide)) ?_
    refine g_iload6 dL_law_1233 rfl ?_
    refine g_i2l dL_law_1235 rfl ?_
    refine g_lcmp dL_law_1236 rfl ?_
    refine g_if_eq (t := 1242) dL_law_1237 rfl rfl (fun _ => ?_) (fun hne => absurd (by have := e2 hk0; show lg_cmp (_ : Int64) _ = 0; rw [show (0 : Int32).toNatClampNeg = 0 from rfl, this]; exact cmp_self _) hne)
    refine g_goto (t := 1502) dL_law_1242 rfl ?_
    exact kk Γ1 gt1 _ A' _ _ _ (Or.inr ⟨_, rfl⟩) (Or.inr ⟨_, rfl⟩) hL' hC' hR' hn' (by show kn.1 + mc ≤ _; omega) (by show kn.2 + ms ≤ _; omega)
theorem case_19 (hL : LW b Γ gt M) (hC : RC A M) (hR : RR A M) (hn : AOK A it) (hi : i.toInt = 6 * (it : Int)) (hLn : 6 * it + 6 ≤ L) (hit : it ≤ 512) (h5 : yi y5) (h6 : yi y6) (hkn : kn.1 ≤ 590000 ∧ kn.2 ≤ 7280000) (kk : KL b L xs kn it i) : G Γ μL_law room_1 kn (g_ZL b L xs) 1245 (lvL i y5 y6) [] M := by
  refine g_aload_n1 dL_law_1245 rfl ?_
  refine g_argL (it := it) (jn := 1) hL.2.2.2.2.1 hi hLn (by omega) dL_law_1246 dL_law_1247 dL_law_1249 dL_law_1250 dL_law_1251 rfl rfl (by decide) ?_
  refine g_argL (it := it) (jn := 2) hL.2.2.2.2.1 hi hLn (by omega) dL_law_1252 dL_law_1253 dL_law_1255 dL_law_1256 dL_law_1257 rfl rfl (by decide) ?_
  refine g_argL (it := it) (jn := 3) hL.2.2.2.2.1 hi hLn (by omega) dL_law_1258 dL_law_1259 dL_law_1261 dL_law_1262 dL_law_1263 rfl rfl (by decide) ?_
  refine g_if_eq (t := 1271) dL_law_1264 rfl rfl (fun hx => ?_) (fun hx => ?_)
  · refine g_iconst (v := 0) dL_law_1271 rfl rfl ?_
    refine g_aload_n3 dL_law_1272 rfl ?_
    obtain ⟨d, mc, ms, P, hd, hmc, hms, hc, hP⟩ : OL b Γ it yL_answers μL_answers hhL_answers [.ref 0, .int (xs (6 * it + 1)), .int (xs (6 * it + 2)), .int 0, .ref 500] yX6_answers μX6_answers [.ref 300, .int (xs (6 * it + 1)), .int (xs (6 * it + 2)), .int 0] M := OH.l hL.sh (o_answers hL hC hR hn)
    refine g_callL (As := [.ref 0, .int (xs (6 * it + 1)), .int (xs (6 * it + 2)), .int 0, .ref 500]) zL_p dL_law_1273 wL_answers rfl hc (fun Γ' v M' h => (hP Γ' v M' h).1) (lv_in hL.sh h5 h6) (fun v hv => by cases hv) ⟨by show d + 9 ≤ 2048; omega, by show 200 + 50 * d ≤ 84000; omega⟩ ⟨by show kn.1 + mc ≤ 601024; omega, by show kn.2 + ms ≤ 7293034; omega⟩ (Nat.zero_le _) (fun Γ1 v M1 hv => ?_)
    obtain ⟨hE1, gt1, hS1, k, rfl, d2, P2, hd2, hc2, hP2⟩ := hP Γ1 v M1 hv
    show G _ _ _ _ _ 1276 _ [.int k] _
    refine g_istore5 dL_law_1276 rfl rfl ?_
    refine g_aload_n2 dL_law_1278 rfl ?_
    refine g_argL (it := it) (jn := 1) hS1.2.2.2.2 hi hLn (by omega) dL_law_1279 dL_law_1280 dL_law_1282 dL_law_1283 dL_law_1284 rfl rfl (by decide) ?_
    refine g_argL (it := it) (jn := 2) hS1.2.2.2.2 hi hLn (by omega) dL_law_1285 dL_law_1286 dL_law_1288 dL_law_1289 dL_law_1290 rfl rfl (by decide) ?_
    refine g_argL (it := it) (jn := 3) hS1.2.2.2.2 hi hLn (by omega) dL_law_1291 dL_law_1292 dL_law_1294 dL_law_1295 dL_law_1296 rfl rfl (by decide) ?_
    refine g_if_eq (t := 1304) dL_law_1297 rfl rfl (fun _ => ?_) (fun hy => absurd hx hy)
    refine g_iconst (v := 0) dL_law_1304 rfl rfl ?_
    refine g_callVi3 dL_law_1305 rfl vL_146 hS1.2.1.1 rfl hc2 ⟨by show d2 + 2 ≤ 2048; omega, by show 90 + 50 * d2 ≤ 84000; omega⟩ (Nat.zero_le _) (fun z M2 h2 => ?_)
    obtain ⟨e1, e2, A', hC', hR', hn', hL'⟩ := hP2 z M2 h2
    refine g_istore6 dL_law_1308 rfl rfl ?_
    refine g_aload_n2 dL_law_1310 rfl ?_
    refine g_callVi0 dL_law_1311 rfl vL_82 hS1.2.1.1 rfl (r_thrown hS1.2.1) ⟨by decide, by decide⟩ (Nat.zero_le _) (fun zt M3 h3 => ?_)
    obtain ⟨q1, q2⟩ := h3
    subst q1
    subst q2
    refine g_iload5 dL_law_1314 rfl ?_
    refine g_icmp_eq (t := 1321) dL_law_1316 rfl rfl (fun _ => ?_) (fun hne => absurd e1 hne)
    refine g_iload5 dL_law_1321 rfl ?_
    refine g_if_ne (t := 1338) dL_law_1323 rfl rfl (fun _ => ?_) (fun hk0 => ?_)
    · refine g_goto (t := 1502) dL_law_1338 rfl ?_
      exact kk Γ1 gt1 _ A' _ _ _ (Or.inr ⟨_, rfl⟩) (Or.inr ⟨_, rfl⟩) hL' hC' hR' hn' (by show kn.1 + mc ≤ _; omega) (by show kn.2 + ms ≤ _; omega)
    · refine g_aload_n3 dL_law_1326 rfl ?_
      refine g_iconst (v := 0) dL_law_1327 rfl rfl ?_
      refine g_lald dL_law_1328 rfl hS1.2.2.2.1 (i_in (by decide)) ?_
      refine g_iload6 dL_law_1329 rfl ?_
      refine g_i2l dL_law_1331 rfl ?_
      refine g_lcmp dL_law_1332 rfl ?_
      refine g_if_eq (t := 1338) dL_law_1333 rfl rfl (fun _ => ?_) (fun hne => absurd (by have := e2 hk0; show lg_cmp (_ : Int64) _ = 0; rw [show (0 : Int32).toNatClampNeg = 0 from rfl, this]; exact cmp_self _) hne)
      refine g_goto (t := 1502) dL_law_1338 rfl ?_
      exact kk Γ1 gt1 _ A' _ _ _ (Or.inr ⟨_, rfl⟩) (Or.inr ⟨_, rfl⟩) hL' hC' hR' hn' (by show kn.1 + mc ≤ _; omega) (by show kn.2 + ms ≤ _; omega)
  · refine g_iconst (v := 1) dL_law_1267 rfl rfl ?_
    refine g_goto (t := 1272) dL_law_1268 rfl ?_
    refine g_aload_n3 dL_law_1272 rfl ?_
    obtain ⟨d, mc, ms, P, hd, hmc, hms, hc, hP⟩ : OL b Γ it yL_answers μL_answers hhL_answers [.ref 0, .int (xs (6 * it + 1)), .int (xs (6 * it + 2)), .int 1, .ref 500] yX6_answers μX6_answers [.ref 300, .int (xs (6 * it + 1)), .int (xs (6 * it + 2)), .int 1] M := OH.l hL.sh (o_answers hL hC hR hn)
    refine g_callL (As := [.ref 0, .int (xs (6 * it + 1)), .int (xs (6 * it + 2)), .int 1, .ref 500]) zL_p dL_law_1273 wL_answers rfl hc (fun Γ' v M' h => (hP Γ' v M' h).1) (lv_in hL.sh h5 h6) (fun v hv => by cases hv) ⟨by show d + 9 ≤ 2048; omega, by show 200 + 50 * d ≤ 84000; omega⟩ ⟨by show kn.1 + mc ≤ 601024; omega, by show kn.2 + ms ≤ 7293034; omega⟩ (Nat.zero_le _) (fun Γ1 v M1 hv => ?_)
    obtain ⟨hE1, gt1, hS1, k, rfl, d2, P2, hd2, hc2, hP2⟩ := hP Γ1 v M1 hv
    show G _ _ _ _ _ 1276 _ [.int k] _
    refine g_istore5 dL_law_1276 rfl rfl ?_
    refine g_aload_n2 dL_law_1278 rfl ?_
    refine g_argL (it := it) (jn := 1) hS1.2.2.2.2 hi hLn (by omega) dL_law_1279 dL_law_1280 dL_law_1282 dL_law_1283 dL_law_1284 rfl rfl (by decide) ?_
    refine g_argL (it := it) (jn := 2) hS1.2.2.2.2 hi hLn (by omega) dL_law_1285 dL_law_1286 dL_law_1288 dL_law_1289 dL_law_1290 rfl rfl (by decide) ?_
    refine g_argL (it := it) (jn := 3) hS1.2.2.2.2 hi hLn (by omega) dL_law_1291 dL_law_1292 dL_law_1294 dL_law_1295 dL_law_1296 rfl rfl (by decide) ?_
    refine g_if_eq (t := 1304) dL_law_1297 rfl rfl (fun hy => absurd hy hx) (fun _ => ?_)
    refine g_iconst (v := 1) dL_law_1300 rfl rfl ?_
    refine g_goto (t := 1305) dL_law_1301 rfl ?_
    refine g_callVi3 dL_law_1305 rfl vL_146 hS1.2.1.1 rfl hc2 ⟨by show d2 + 2 ≤ 2048; omega, by show 90 + 50 * d2 ≤ 84000; omega⟩ (Nat.zero_le _) (fun z M2 h2 => ?_)
    obtain ⟨e1, e2, A', hC', hR', hn', hL'⟩ := hP2 z M2 h2
    refine g_istore6 dL_law_1308 rfl rfl ?_
    refine g_aload_n2 dL_law_1310 rfl ?_
    refine g_callVi0 dL_law_1311 rfl vL_82 hS1.2.1.1 rfl (r_thrown hS1.2.1) ⟨by decide, by decide⟩ (Nat.zero_le _) (fun zt M3 h3 => ?_)
    obtain ⟨q1, q2⟩ := h3
    subst q1
    subst q2
    refine g_iload5 dL_law_1314 rfl ?_
    refine g_icmp_eq (t := 1321) dL_law_1316 rfl rfl (fun _ => ?_) (fun hne => absurd e1 hne)
    refine g_iload5 dL_law_1321 rfl ?_
    refine g_if_ne (t := 1338) dL_law_1323 rfl rfl (fun _ => ?_) (fun hk0 => ?_)
    · refine g_goto (t := 1502) dL_law_1338 rfl ?_
      exact kk Γ1 gt1 _ A' _ _ _ (Or.inr ⟨_, rfl⟩) (Or.inr ⟨_, rfl⟩) hL' hC' hR' hn' (by show kn.1 + mc ≤ _; omega) (by show kn.2 + ms ≤ _; omega)
    · refine g_aload_n3 dL_law_1326 rfl ?_
      refine g_iconst (v := 0) dL_law_1327 rfl rfl ?_
      refine g_lald dL_law_1328 rfl hS1.2.2.2.1 (i_in (by decide)) ?_
      refine g_iload6 dL_law_1329 rfl ?_
      refine g_i2l dL_law_1331 rfl ?_
      refine g_lcmp dL_law_1332 rfl ?_
      refine g_if_eq (t := 1338) dL_law_1333 rfl rfl (fun _ => ?_) (fun hne => absurd (by have := e2 hk0; show lg_cmp (_ : Int64) _ = 0; rw [show (0 : Int32).toNatClampNeg = 0 from rfl, this]; exact cmp_self _) hne)
      refine g_goto (t := 1502) dL_law_1338 rfl ?_
      exact kk Γ1 gt1 _ A' _ _ _ (Or.inr ⟨_, rfl⟩) (Or.inr ⟨_, rfl⟩) hL' hC' hR' hn' (by show kn.1 + mc ≤ _; omega) (by show kn.2 + ms ≤ _; omega)
theorem case_20 (hL : LW b Γ gt M) (hC : RC A M) (hR : RR A M) (hn : AOK A it) (hi : i.toInt = 6 * (it : Int)) (hLn : 6 * it + 6 ≤ L) (hit : it ≤ 512) (h5 : yi y5) (h6 : yi y6) (hkn : kn.1 ≤ 590000 ∧ kn.2 ≤ 7280000) (kk : KL b L xs kn it i) : G Γ μL_law room_1 kn (g_ZL b L xs) 1341 (lvL i y5 y6) [] M := by
  refine g_aload_n1 dL_law_1341 rfl ?_
  refine g_argL (it := it) (jn := 1) hL.2.2.2.2.1 hi hLn (by omega) dL_law_1342 dL_law_1343 dL_law_1345 dL_law_1346 dL_law_1347 rfl rfl (by decide) ?_
  refine g_argL (it := it) (jn := 2) hL.2.2.2.2.1 hi hLn (by omega) dL_law_1348 dL_law_1349 dL_law_1351 dL_law_1352 dL_law_1353 rfl rfl (by decide) ?_
  refine g_aload_n3 dL_law_1354 rfl ?_
  obtain ⟨d, mc, ms, P, hd, hmc, hms, hc, hP⟩ : OL b Γ it yL_round μL_round hhL_round [.ref 0, .int (xs (6 * it + 1)), .int (xs (6 * it + 2)), .ref 500] yX6_round μX6_round [.ref 300, .int (xs (6 * it + 1)), .int (xs (6 * it + 2))] M := OH.l hL.sh (o_round hL hC hR hn)
  refine g_callL (As := [.ref 0, .int (xs (6 * it + 1)), .int (xs (6 * it + 2)), .ref 500]) zL_p dL_law_1355 wL_round rfl hc (fun Γ' v M' h => (hP Γ' v M' h).1) (lv_in hL.sh h5 h6) (fun v hv => by cases hv) ⟨by show d + 9 ≤ 2048; omega, by show 200 + 50 * d ≤ 84000; omega⟩ ⟨by show kn.1 + mc ≤ 601024; omega, by show kn.2 + ms ≤ 7293034; omega⟩ (Nat.zero_le _) (fun Γ1 v M1 hv => ?_)
  obtain ⟨hE1, gt1, hS1, k, rfl, d2, P2, hd2, hc2, hP2⟩ := hP Γ1 v M1 hv
  show G _ _ _ _ _ 1358 _ [.int k] _
  refine g_istore5 dL_law_1358 rfl rfl ?_
  refine g_aload_n2 dL_law_1360 rfl ?_
  refine g_argL (it := it) (jn := 1) hS1.2.2.2.2 hi hLn (by omega) dL_law_1361 dL_law_1362 dL_law_1364 dL_law_1365 dL_law_1366 rfl rfl (by decide) ?_
  refine g_argL (it := it) (jn := 2) hS1.2.2.2.2 hi hLn (by omega) dL_law_1367 dL_law_1368 dL_law_1370 dL_law_1371 dL_law_1372 rfl rfl (by decide) ?_
  refine g_callVi2 dL_law_1373 rfl vL_149 hS1.2.1.1 rfl hc2 ⟨by show d2 + 2 ≤ 2048; omega, by show 90 + 50 * d2 ≤ 84000; omega⟩ (Nat.zero_le _) (fun z M2 h2 => ?_)
  obtain ⟨e1, e2, A', hC', hR', hn', hL'⟩ := hP2 z M2 h2
  refine g_istore6 dL_law_1376 rfl rfl ?_
  refine g_aload_n2 dL_law_1378 rfl ?_
  refine g_callVi0 dL_law_1379 rfl vL_82 hS1.2.1.1 rfl (r_thrown hS1.2.1) ⟨by decide, by decide⟩ (Nat.zero_le _) (fun zt M3 h3 => ?_)
  obtain ⟨q1, q2⟩ := h3
  subst q1
  subst q2
  refine g_iload5 dL_law_1382 rfl ?_
  refine g_icmp_eq (t := 1389) dL_law_1384 rfl rfl (fun _ => ?_) (fun hne => absurd e1 hne)
  refine g_iload5 dL_law_1389 rfl ?_
  refine g_if_ne (t := 1406) dL_law_1391 rfl rfl (fun _ => ?_) (fun hk0 => ?_)
  · refine g_goto (t := 1502) dL_law_1406 rfl ?_
    exact kk Γ1 gt1 _ A' _ _ _ (Or.inr ⟨_, rfl⟩) (Or.inr ⟨_, rfl⟩) hL' hC' hR' hn' (by show kn.1 + mc ≤ _; omega) (by show kn.2 + ms ≤ _; omega)
  · refine g_aload_n3 dL_law_1394 rfl ?_
    refine g_iconst (v := 0) dL_law_1395 rfl rfl ?_
    refine g_lald dL_law_1396 rfl hS1.2.2.2.1 (i_in (by decide)) ?_
    refine g_iload6 dL_law_1397 rfl ?_
    refine g_i2l dL_law_1399 rfl ?_
    refine g_lcmp dL_law_1400 rfl ?_
    refine g_if_eq (t := 1406) dL_law_1401 rfl rfl (fun _ => ?_) (fun hne => absurd (by have := e2 hk0; show lg_cmp (_ : Int64) _ = 0; rw [show (0 : Int32).toNatClampNeg = 0 from rfl, this]; exact cmp_self _) hne)
    refine g_goto (t := 1502) dL_law_1406 rfl ?_
    exact kk Γ1 gt1 _ A' _ _ _ (Or.inr ⟨_, rfl⟩) (Or.inr ⟨_, rfl⟩) hL' hC' hR' hn' (by show kn.1 + mc ≤ _; omega) (by show kn.2 + ms ≤ _; omega)
theorem case_21 (hL : LW b Γ gt M) (hC : RC A M) (hR : RR A M) (hn : AOK A it) (hi : i.toInt = 6 * (it : Int)) (hLn : 6 * it + 6 ≤ L) (hit : it ≤ 512) (h5 : yi y5) (h6 : yi y6) (hkn : kn.1 ≤ 590000 ∧ kn.2 ≤ 7280000) (kk : KL b L xs kn it i) : G Γ μL_law room_1 kn (g_ZL b L xs) 1409 (lvL i y5 y6) [] M := by
  refine g_aload_n1 dL_law_1409 rfl ?_
  refine g_argL (it := it) (jn := 1) hL.2.2.2.2.1 hi hLn (by omega) dL_law_1410 dL_law_1411 dL_law_1413 dL_law_1414 dL_law_1415 rfl rfl (by decide) ?_
  refine g_aload_n3 dL_law_1416 rfl ?_
  obtain ⟨d, mc, ms, P, hd, hmc, hms, hc, hP⟩ : OL b Γ it yL_days μL_days hhL_days [.ref 0, .int (xs (6 * it + 1)), .ref 500] yX6_days μX6_days [.ref 300, .int (xs (6 * it + 1))] M := OH.l hL.sh (o_days hL hC hR hn (by omega))
  refine g_callL (As := [.ref 0, .int (xs (6 * it + 1)), .ref 500]) zL_p dL_law_1417 wL_days rfl hc (fun Γ' v M' h => (hP Γ' v M' h).1) (lv_in hL.sh h5 h6) (fun v hv => by cases hv) ⟨by show d + 9 ≤ 2048; omega, by show 200 + 50 * d ≤ 84000; omega⟩ ⟨by show kn.1 + mc ≤ 601024; omega, by show kn.2 + ms ≤ 7293034; omega⟩ (Nat.zero_le _) (fun Γ1 v M1 hv => ?_)
  obtain ⟨hE1, gt1, hS1, k, rfl, d2, P2, hd2, hc2, hP2⟩ := hP Γ1 v M1 hv
  show G _ _ _ _ _ 1420 _ [.int k] _
  refine g_istore5 dL_law_1420 rfl rfl ?_
  refine g_aload_n2 dL_law_1422 rfl ?_
  refine g_argL (it := it) (jn := 1) hS1.2.2.2.2 hi hLn (by omega) dL_law_1423 dL_law_1424 dL_law_1426 dL_law_1427 dL_law_1428 rfl rfl (by decide) ?_
  refine g_callVi1 dL_law_1429 rfl vL_152 hS1.2.1.1 rfl hc2 ⟨by show d2 + 2 ≤ 2048; omega, by show 90 + 50 * d2 ≤ 84000; omega⟩ (Nat.zero_le _) (fun z M2 h2 => ?_)
  obtain ⟨e1, e2, A', hC', hR', hn', hL'⟩ := hP2 z M2 h2
  refine g_istore6 dL_law_1432 rfl rfl ?_
  refine g_aload_n2 dL_law_1434 rfl ?_
  refine g_callVi0 dL_law_1435 rfl vL_82 hS1.2.1.1 rfl (r_thrown hS1.2.1) ⟨by decide, by decide⟩ (Nat.zero_le _) (fun zt M3 h3 => ?_)
  obtain ⟨q1, q2⟩ := h3
  subst q1
  subst q2
  refine g_iload5 dL_law_1438 rfl ?_
  refine g_icmp_eq (t := 1445) dL_law_1440 rfl rfl (fun _ => ?_) (fun hne => absurd e1 hne)
  refine g_iload5 dL_law_1445 rfl ?_
  refine g_if_ne (t := 1462) dL_law_1447 rfl rfl (fun _ => ?_) (fun hk0 => ?_)
  · refine g_goto (t := 1502) dL_law_1462 rfl ?_
    exact kk Γ1 gt1 _ A' _ _ _ (Or.inr ⟨_, rfl⟩) (Or.inr ⟨_, rfl⟩) hL' hC' hR' hn' (by show kn.1 + mc ≤ _; omega) (by show kn.2 + ms ≤ _; omega)
  · refine g_aload_n3 dL_law_1450 rfl ?_
    refine g_iconst (v := 0) dL_law_1451 rfl rfl ?_
    refine g_lald dL_law_1452 rfl hS1.2.2.2.1 (i_in (by decide)) ?_
    refine g_iload6 dL_law_1453 rfl ?_
    refine g_i2l dL_law_1455 rfl ?_
    refine g_lcmp dL_law_1456 rfl ?_
    refine g_if_eq (t := 1462) dL_law_1457 rfl rfl (fun _ => ?_) (fun hne => absurd (by have := e2 hk0; show lg_cmp (_ : Int64) _ = 0; rw [show (0 : Int32).toNatClampNeg = 0 from rfl, this]; exact cmp_self _) hne)
    refine g_goto (t := 1502) dL_law_1462 rfl ?_
    exact kk Γ1 gt1 _ A' _ _ _ (Or.inr ⟨_, rfl⟩) (Or.inr ⟨_, rfl⟩) hL' hC' hR' hn' (by show kn.1 + mc ≤ _; omega) (by show kn.2 + ms ≤ _; omega)
theorem case_22 (hL : LW b Γ gt M) (hC : RC A M) (hR : RR A M) (hn : AOK A it) (hi : i.toInt = 6 * (it : Int)) (hLn : 6 * it + 6 ≤ L) (hit : it ≤ 512) (h5 : yi y5) (h6 : yi y6) (hkn : kn.1 ≤ 590000 ∧ kn.2 ≤ 7280000) (kk : KL b L xs kn it i) : G Γ μL_law room_1 kn (g_ZL b L xs) 1465 (lvL i y5 y6) [] M := by
  refine g_aload_n1 dL_law_1465 rfl ?_
  obtain ⟨d, P, hd, hc, hP⟩ : OD b Γ gt it yX5_still μX5_still [.ref 0] yX6_still μX6_still [.ref 300] M := o_still hL hC hR hn (by omega)
  refine g_callVi0 dL_law_1466 rfl vL_153 hL.1.1 rfl hc ⟨by show d + 2 ≤ 2048; omega, by show 90 + 50 * d ≤ 84000; omega⟩ (Nat.zero_le _) (fun z M1 h1 => ?_)
  obtain ⟨d2, P2, hd2, hc2, hP2⟩ := hP z M1 h1
  refine g_aload_n2 dL_law_1469 rfl ?_
  refine g_callVi0 dL_law_1470 rfl vL_156 hL.2.1.1 rfl hc2 ⟨by show d2 + 2 ≤ 2048; omega, by show 90 + 50 * d2 ≤ 84000; omega⟩ (Nat.le_of_ble_eq_true rfl) (fun z2 M2 h2 => ?_)
  obtain ⟨ez, A', hC', hR', hn', hL'⟩ := hP2 z2 M2 h2
  refine g_icmp_eq (t := 1502) dL_law_1473 rfl rfl (fun _ => ?_) (fun hne => absurd ez hne)
  exact kk Γ gt _ A' _ _ _ h5 h6 hL' hC' hR' hn' (by omega) (by omega)
theorem case_23 (hL : LW b Γ gt M) (hC : RC A M) (hR : RR A M) (hn : AOK A it) (hi : i.toInt = 6 * (it : Int)) (hLn : 6 * it + 6 ≤ L) (hit : it ≤ 512) (h5 : yi y5) (h6 : yi y6) (hkn : kn.1 ≤ 590000 ∧ kn.2 ≤ 7280000) (kk : KL b L xs kn it i) : G Γ μL_law room_1 kn (g_ZL b L xs) 1478 (lvL i y5 y6) [] M := by
  refine g_aload_n1 dL_law_1478 rfl ?_
  obtain ⟨d, P, hd, hc, hP⟩ := o_image hL hC hR hn
  refine g_callVv0 dL_law_1479 rfl vL_157 hL.1.1 rfl hc ⟨by show d + 2 ≤ 2048; omega, by show 90 + 50 * d ≤ 84000; omega⟩ (Nat.zero_le _) (fun M1 h1 => ?_)
  obtain ⟨d2, P2, hd2, hc2, hP2⟩ := hP M1 h1
  refine g_aload_n2 dL_law_1482 rfl ?_
  refine g_callVv0 dL_law_1483 rfl vL_160 hL.2.1.1 rfl hc2 ⟨by show d2 + 2 ≤ 2048; omega, by show 90 + 50 * d2 ≤ 84000; omega⟩ (Nat.zero_le _) (fun M2 h2 => ?_)
  obtain ⟨A', hC', hR', hn', hL'⟩ := hP2 M2 h2
  refine g_goto (t := 1502) dL_law_1486 rfl ?_
  exact kk Γ gt _ A' _ _ _ h5 h6 hL' hC' hR' hn' (by omega) (by omega)
theorem case_24 (hL : LW b Γ gt M) (hC : RC A M) (hR : RR A M) (hn : AOK A it) (hi : i.toInt = 6 * (it : Int)) (hLn : 6 * it + 6 ≤ L) (hit : it ≤ 512) (h5 : yi y5) (h6 : yi y6) (hkn : kn.1 ≤ 590000 ∧ kn.2 ≤ 7280000) (kk : KL b L xs kn it i) : G Γ μL_law room_1 kn (g_ZL b L xs) 1489 (lvL i y5 y6) [] M := by
  refine g_aload_n1 dL_law_1489 rfl ?_
  obtain ⟨d, P, hd, hc, hP⟩ : OD b Γ gt it yX5_restore μX5_restore [.ref 0] yX6_restore μX6_restore [.ref 300] M := o_restore hL hC hR hn
  refine g_callVi0 dL_law_1490 rfl vL_161 hL.1.1 rfl hc ⟨by show d + 2 ≤ 2048; omega, by show 90 + 50 * d ≤ 84000; omega⟩ (Nat.zero_le _) (fun z M1 h1 => ?_)
  obtain ⟨d2, P2, hd2, hc2, hP2⟩ := hP z M1 h1
  refine g_aload_n2 dL_law_1493 rfl ?_
  refine g_callVi0 dL_law_1494 rfl vL_165 hL.2.1.1 rfl hc2 ⟨by show d2 + 2 ≤ 2048; omega, by show 90 + 50 * d2 ≤ 84000; omega⟩ (Nat.le_of_ble_eq_true rfl) (fun z2 M2 h2 => ?_)
  obtain ⟨ez, A', hC', hR', hn', hL'⟩ := hP2 z2 M2 h2
  refine g_icmp_eq (t := 1502) dL_law_1497 rfl rfl (fun _ => ?_) (fun hne => absurd ez hne)
  exact kk Γ gt _ A' _ _ _ h5 h6 hL' hC' hR' hn' (by omega) (by omega)
end LC
