theorem ofI {x : Int} (h : -1000000 ≤ x ∧ x ≤ 1000000) : (Int32.ofInt x).toInt = x := by
  have e : Int32.size = 4294967296 := rfl
  rw [Int32.toInt_ofInt, e]
  exact Int.bmod_eq_of_le (by omega) (by omega)
theorem RW.same {T T' : gTw} {r : Nat → Int32} (h : RW T r) (e : ∀ f i, f = 3 ∨ f = 4 ∨ f = 5 ∨ f = 6 → T' f i = T f i) (e0 : T' 0 0 = T 0 0) (e1 : T' 0 1 = T 0 1) : RW T' r := by
  have eh : ∀ p, hasT T' p = hasT T p := fun p => by unfold hasT; rw [e 6 p (by omega)]
  refine ⟨fun p hp => ?_, fun i hi => ?_⟩
  · rw [e0] at hp
    rw [e 3 p (by omega), e 4 p (by omega), e 5 p (by omega), eh, e1]; exact h.1 p hp
  · rw [e1] at hi; rw [e0]; exact h.2 i hi
theorem RW.ex {T : gTw} {r : Nat → Int32} {g s k : Nat} {m : Int} (hI : INV T) (hr : RW T r) (hc : canG T g s m k) : ∃ r', RW (giftT T g s m k) r' := by
  have b0 := hI.1.1
  have hg6 : g < 6 := by have := hc.1; omega
  have hb := (hI.1.2.2.2.2.2.2.1 g hg6).2.2.1
  have hm := hc.2.2.2.2
  have hk := hc.2.1
  have hw := wtT_rng (s := s) hI.1
  have e1 : (Int32.ofInt m).toInt = m := ofI (by omega)
  have := RW.gift (n := Int32.ofInt m) (v := Int32.ofInt (wtT T s + m)) (oI := Int32.ofInt k) (pI := Int32.ofInt g) hI.1 hr (by rw [e1]; exact hc) hI.2.1 (by rw [e1, ofI (by omega)]) (ofI (by omega)) (ofI (by omega))
  rw [e1] at this
  exact ⟨_, this⟩
theorem hist_pd {S0 : gSt} (h0 : INV S0.1) (hg : S0.2.1 ≤ 200) (hH : HIST S0.2.1 S0.1 S0.2.2) (hr : ∃ r, RW S0.1 r) : ∀ (p : Nat) (S : gSt), (p : Int) ≤ S0.1 0 0 → pdP S0 p S → HIST S.2.1 S.1 S.2.2 ∧ ∃ r, RW S.1 r := by
  intro p
  induction p with
  | zero => intro S _ h; have e : S = S0 := h; subst e; exact ⟨hH, hr⟩
  | succ p ih =>
    intro S hp h
    obtain ⟨S1, h1, h2⟩ := h
    have hi := pdP_inv h0 hg p S1 (by omega) h1
    obtain ⟨a1, r, a2⟩ := ih S1 (by omega) h1
    rcases h2 with ⟨-, e⟩ | ⟨m, c1, c2, e⟩
    · subst e; exact ⟨a1, r, a2⟩
    · subst e
      have hp1 : (p : Int) < S1.1 0 0 := by rw [hi.2.2.2 0 0 (by decide) (by decide) (by decide) (by decide)]; omega
      have hc := (chosenT_can hi.1.1 hp1 c1 hi.1.2.2).1
      exact ⟨HIST.give hi.1 a2 hc a1, RW.ex hi.1 a2 hc⟩
theorem hist_dy {S0 : gSt} (h0 : INV S0.1) (hg : S0.2.1 ≤ 200) (hH : HIST S0.2.1 S0.1 S0.2.2) (hr : ∃ r, RW S0.1 r) : ∀ (k : Nat) (S : gSt), S0.1 0 4 + k ≤ 100000 → dyP S0 k S → HIST S.2.1 S.1 S.2.2 ∧ ∃ r, RW S.1 r := by
  intro k
  induction k with
  | zero => intro S _ h; have e : S = S0 := h; subst e; exact ⟨hH, hr⟩
  | succ k ih =>
    intro S hk h
    obtain ⟨S1, S2, h1, h2, e⟩ := h
    have hi := dyP_inv h0 hg k S1 (by push_cast at hk; omega) h1
    have b0 := hi.1.1.1
    obtain ⟨a1, a2⟩ := ih S1 (by push_cast at hk; omega) h1
    obtain ⟨c1, r, c2⟩ := hist_pd hi.1 hi.2.1 a1 a2 _ S2 (by omega) h2
    subst e
    refine ⟨HIST.day _ _ c1, r, c2.same (fun f i hf => ?_) ?_ ?_⟩
    · show upT (dryT S2.1) 0 4 (S2.1 0 4 + 1) f i = _
      rw [upT, if_neg (by omega), dryT, if_neg (by omega)]
    · show upT (dryT S2.1) 0 4 (S2.1 0 4 + 1) 0 0 = _
      rw [upT, if_neg (by omega), dryT, if_neg (by omega)]
    · show upT (dryT S2.1) 0 4 (S2.1 0 4 + 1) 0 1 = _
      rw [upT, if_neg (by omega), dryT, if_neg (by omega)]
section OHs
variable {b : Nat} {Γ : gW} {gt : Option Nat} {M : gM} {A : gAb} {n : Nat}
theorem o_days (hL : LW b Γ gt M) (hC : RC A M) (hR : RR A M) (hn : AOK A n) (h5 : n ≤ 600) {m : Int32} : OH b Γ gt n yL_days μL_days hhL_days [.ref 0, .int m, .ref 500] yX6_days μX6_days [.ref 300, .int m] M := by
  have hO := hn.o1
  have hr0 := hn.2.2.2.1
  have hst := hn.2.2.2.2.1
  have hd4 := hn.2.2.1
  have c1 := hC.1
  have c2 := hC.2.1
  have hg := c1.2.2.2.1
  refine ⟨6, _, by decide, h_days hL.1 hL.2.2.2.1 (by decide) (x_days hL.1 hn.1 hC.1 (by omega)) (fun E M' h => h.1), fun Γ1 v M1 h => ?_⟩
  obtain ⟨eΓ, h⟩ := h
  refine ⟨eΓ, ?_⟩
  rcases h with ⟨z, M0, ⟨f, rg, S1, s1, s2, s3⟩, e1, e2⟩ | ⟨e1, q⟩
  · have e9 : M1.1 = M0.1 := by rw [e2]; rfl
    have hR0 : RR A M1 := by rw [e2]; exact (hR.fc hO (fun j hj => f.1 j (by omega) (by omega) (by omega))).ul hO
    have hL0 : LW b Γ gt M1 := by
      refine LW.m hL (by rw [e9]; exact f.1 400 (by decide) (by decide) (by decide)) (fun _ j hj => ⟨by rw [e9]; exact f.1 j (by unfold lG at hj; omega) (by unfold lG at hj; omega) (by unfold lG at hj; omega), ?_⟩)
      rw [e2, g_ul_ne (by unfold lG at hj; omega), f.2]
    refine ⟨0, e1, 5, _, by decide, r_days hL.2.1 hn.1 hR0.1 hg (by omega), fun z2 M2 h2 => ?_⟩
    rcases h2 with ⟨v1, -⟩ | ⟨v1, S2, v2, v3, v4, v5⟩
    · exact absurd rg v1
    have eS : S1 = S2 := dyP_uniq _ _ _ s2 v4
    subst eS
    have hi := dyP_inv hn.1 hg _ S1 (by omega) s2
    have hh := hist_dy hn.1 hg hn.2.1 ⟨_, hR.1.1.2.2.1⟩ _ S1 (by omega) s2
    have fr2 : FR M1 (g_u M1 300 1 0) := FR.c
    refine ⟨by rw [v2.2.2 1 (by decide) (by decide)]; exact code_at, fun _ => ?_, (S1, A.2.1, A.2.2), ?_, ?_, hn.set hi.1 hh.1 (by rw [hi.2.2.2]; omega) (by omega) (by omega), ?_⟩
    · rw [v2.2.1]
      show M1.2 500 0 = _
      rw [e2, g_ul_at, i32_eq v5 s3]
      exact if_pos rfl
    · have hC0 : RC (S1, A.2.1, A.2.2) M1 := by
        rw [e2]
        exact (hC.up s1 ⟨by rw [f.1 0 (by decide) (by decide) (by decide)]; exact c2.1, by rw [f.1 0 (by decide) (by decide) (by decide)]; exact c2.2⟩ (fun j _ _ a c d => f.1 j a c d) (fun k _ _ => by rw [f.1 0 (by decide) (by decide) (by decide)])).ul
      exact hC0.fr (fun j hj => by rw [v2.1 j (by unfold cN at hj; omega) (by unfold cN at hj; omega) (by unfold cN at hj; omega) (by unfold cN at hj; omega)]; exact g_u_ne (by unfold cN at hj; omega))
    · exact hR0.up v3 ⟨by rw [v2.1 406 (by decide) (by decide) (by decide) (by decide), g_u_ne (by decide)]; exact hR0.2.1.1, by rw [v2.1 406 (by decide) (by decide) (by decide) (by decide), g_u_ne (by decide)]; exact hR0.2.1.2⟩ (fun j hj _ a c => by rw [v2.1 j (by unfold rN at hj; omega) a (by unfold rN at hj; omega) c]; exact g_u_ne (by unfold rN at hj; omega)) (fun k hk a c => by rw [v2.2.2 k a c, g_u_eq, if_neg (by unfold rK at hk; omega)])
    · exact LW.m hL0 (by rw [v2.1 400 (by decide) (by decide) (by decide) (by decide)]; exact g_u_ne (by decide)) (fun _ j hj => ⟨by rw [v2.1 j (by unfold lG at hj; omega) (by unfold lG at hj; omega) (by unfold lG at hj; omega) (by unfold lG at hj; omega)]; exact g_u_ne (by unfold lG at hj; omega), by rw [v2.2.1]; rfl⟩)
  · obtain ⟨-, q1, q2⟩ := q
    subst q1
    refine ⟨1, e1, 5, _, by decide, r_days hL.2.1 hn.1 hR.1 hg (by omega), fun z2 M2 h2 => ?_⟩
    rcases h2 with ⟨v1, -, v3⟩ | ⟨v1, -⟩
    · subst v3
      exact ⟨code_at, fun h => absurd h (by decide), A, hC.frr FR.c2, hR.frr hO FR.c2, hn.up (by omega), hL.frr FR.c2⟩
    · exact absurd v1 q2
end OHs
