/-- the world at the law's entry: the classes, the array classes, the addresses of the constants and of the script; no object yet -/
theorem start_world {s : State} {b : Nat} {A : Nat → Prop} (hts : ∀ w ∈ lw_tbl, w.before #[Value.ref b] s = true) (hf : ∀ w ∈ nFl, w.before #[Value.ref b] s = true) (hA : ∀ a : Nat, a < s.heap.size → ¬ A a) : ∃ Γ : gW, Γ.2.2.2.1 = [] ∧ Γ.2.2.1 598 = b ∧ va_K Γ.1 vwCl (g_T Γ) s ∧ g_KH Γ A s s.heap := by
  have htg : ∀ w ∈ g_UW, w.before #[Value.ref b] s = true := fun w h => hts w (List.mem_filter.mp h).1
  obtain ⟨c0, i0, h0⟩ := u_known (C := RX0) (T := TX0) (N := 2) (n := 2) htg uwX0 (htg _ nw_X5_19.2.1)
  obtain ⟨c1, i1, h1⟩ := u_known (C := RX1) (T := TX1) (N := 6) (n := 6) htg uwX1 (htg _ nw_X5_244.2.1)
  obtain ⟨c2, i2, h2⟩ := u_known (C := RX2) (T := TX2) (N := 13) (n := 13) htg uwX2 (htg _ nw_X5_49.2.1)
  obtain ⟨c3, i3, h3⟩ := u_known (C := RX3) (T := TX3) (N := 16) (n := 16) htg uwX3 (htg _ nw_X5_7.2.1)
  obtain ⟨c4, i4, h4⟩ := u_known (C := RX4) (T := TX4) (N := 5) (n := 5) htg uwX4 (htg _ nw_X5_59.2.1)
  obtain ⟨c5, i5, h5⟩ := u_known (C := RX5) (T := TX5) (N := 18) (n := 18) htg uwX5 (htg _ nw_L_8.2.1)
  obtain ⟨c6, i6, h6⟩ := u_known (C := RX6) (T := TX6) (N := 55) (n := 55) htg uwX6 (htg _ nw_L_68.2.1)
  obtain ⟨a0, x0, y0⟩ := arr_ex (htg _ w_ab)
  obtain ⟨a1, x1, y1⟩ := arr_ex (htg _ w_ai)
  obtain ⟨a2, x2, y2⟩ := arr_ex (htg _ w_al)
  obtain ⟨a3, x3, y3⟩ := arr_ex (htg _ w_as)
  obtain ⟨a4, x4, y4⟩ := arr_ex (htg _ w_az)
  obtain ⟨a5, x5, y5⟩ := arr_str (hts _ t_ao)
  obtain ⟨f, hk⟩ := k1_all hts hf hA
  have hus := va_Zqof (A := A) (hts _ t_us) (hts _ t_iT) (hf _ n_us) hA
  have hss := va_Zqof (A := A) (hts _ t_ss) (hts _ t_iT) (hf _ n_ss) hA
  have hcs := va_Zof (A := A) (hts _ t_cs) (hts _ t_iS) (va_eqt (hf _ n_cs)) hA
  obtain ⟨z, hz⟩ : ∃ z : Nat, va_Z "jdk/internal/util/Preconditions" "SIOOBE_FORMATTER" "Ljava/util/function/BiFunction;" .null A s s.heap ∨ va_Z "jdk/internal/util/Preconditions" "SIOOBE_FORMATTER" "Ljava/util/function/BiFunction;" (.ref z) A s s.heap := by
    rcases va_Zqof (A := A) (hts _ t_si) (hts _ t_iP) (hf _ n_si) hA with h | ⟨t, h⟩
    · exact ⟨0, Or.inl h⟩
    · exact ⟨t, Or.inr h⟩
  obtain ⟨ad, e8, e9, e6, e7⟩ : ∃ ad : Nat → Nat, ad 598 = b ∧ ad 599 = z ∧ (∀ c, c < 30 → ad (600 + c) = (f c).1) ∧ (∀ c, c < 30 → ad (700 + c) = (f c).2) := by
    refine ⟨fun i => if i = 598 then b else if i = 599 then z else if i < 700 then (f (i - 600)).1 else (f (i - 700)).2, rfl, rfl, fun c hc => ?_, fun c hc => ?_⟩
    · show (if 600 + c = 598 then b else if 600 + c = 599 then z else if 600 + c < 700 then (f (600 + c - 600)).1 else (f (600 + c - 700)).2) = _
      rw [if_neg (by omega), if_neg (by omega), if_pos (by omega), Nat.add_sub_cancel_left]
    · show (if 700 + c = 598 then b else if 700 + c = 599 then z else if 700 + c < 700 then (f (700 + c - 600)).1 else (f (700 + c - 700)).2) = _
      rw [if_neg (by omega), if_neg (by omega), if_neg (by omega), Nat.add_sub_cancel_left]
  obtain ⟨dC, dI, hKc⟩ : ∃ (dC : Nat → ClassId) (dI : Nat → Nat → Nat), ∀ (k : Nat) (q : vw_C), vwCl[k]? = some q → u_Kn s q.1 q.2.1 q.2.2 (dC k) (dI k) := by
    refine ⟨fun k => match k with | 0 => c0 | 1 => c1 | 2 => c2 | 3 => c3 | 4 => c4 | 5 => c5 | _ => c6, fun k => match k with | 0 => i0 | 1 => i1 | 2 => i2 | 3 => i3 | 4 => i4 | 5 => i5 | _ => i6, ?_⟩
    intro k q hq
    match k, hq with
    | 0, hq => cases hq; exact h0
    | 1, hq => cases hq; exact h1
    | 2, hq => cases hq; exact h2
    | 3, hq => cases hq; exact h3
    | 4, hq => cases hq; exact h4
    | 5, hq => cases hq; exact h5
    | 6, hq => cases hq; exact h6
    | k + 7, hq => simp [vwCl] at hq
  refine ⟨((dC, dI), (fun k => match k with | 0 => a0 | 1 => a1 | 2 => a2 | 3 => a3 | 4 => a4 | _ => a5), ad, [], fun _ => .inl (0, [])), rfl, e8, ⟨hKc, ?_⟩, ?_, ⟨hcs, ?_⟩, ⟨hus, ly_of (hts _ t_us) hA⟩, ⟨hss, ly_of (hts _ t_ss) hA⟩⟩
  · intro k q hq
    match k, hq with
    | 0, hq => cases hq; exact ⟨x0, y0⟩
    | 1, hq => cases hq; exact ⟨x1, y1⟩
    | 2, hq => cases hq; exact ⟨x2, y2⟩
    | 3, hq => cases hq; exact ⟨x3, y3⟩
    | 4, hq => cases hq; exact ⟨x4, y4⟩
    | 5, hq => cases hq; exact ⟨x5, y5⟩
    | k + 6, hq => simp [g_T] at hq
  · intro c q hc
    have hlt : c < 30 := (List.getElem?_eq_some_iff.mp hc).1
    have := hk c q hc
    rw [← e6 c hlt, ← e7 c hlt] at this
    exact this
  · show _ ∨ va_Z _ _ _ (.ref (ad 599)) A s s.heap
    rw [e9]
    exact hz
/-- THE LAW, from its entry -/
theorem whole_start {p : Program} {e : Env} {s : State} {m : MethodId} {below : List Frame} {meth : Method} {c : Code} (l : Launch) (hnt : l.stackTraces = false) {b L : Nat} {xs : Nat → Int32} (hL : L ≤ 3072) (C0 : lw_At p s m meth c b L xs) : W p l e room_1 s m #[Value.ref b] below meth c s.heap [] 0 0 (lw_Z below #[Value.ref b] s) (entryFrame m ([Value.ref b] : List Value).toArray 7) := by
  obtain ⟨hx, hb, hr, hml, hown, hts, hX, hbl, hlocks, hgv⟩ := id C0
  have hf : ∀ w ∈ nFl, w.before #[Value.ref b] s = true := flat_of_before _ hgv
  obtain ⟨Γ, g1, g2, g3, g4⟩ := start_world (A := fun q : Nat => s.heap.size ≤ q) hts hf (fun a h => Nat.not_le.mpr h)
  have hl := lv_entry ([.ref b]) (n := 7) (Nat.le_of_ble_eq_true rfl)
  rw [lg_entry_eq]
  generalize (lg_sl ([.ref b]) ++ List.replicate (7 - (lg_sl ([.ref b])).length) Slot.unset).toArray = ls at hl ⊢
  have hl : lv_has ls 7 [(0, .ref b)] := hl
  have e0 : ∀ M : gM, g_ws Γ M = [] := fun M => by unfold g_ws; rw [g1]; rfl
  have hF : g_F Γ μL_law room_1 (0, 0) p s m #[Value.ref b] meth c (fun q : Nat => s.heap.size ≤ q) := ⟨hx, hb, by rw [hr]; rfl, hlocks, hml, hown, fun w h => hts w (List.mem_filter.mp h).1, g3, fun _ h => h, Nat.zero_le _, Nat.zero_le _, g4⟩
  have hXX : g_X Γ μL_law s s.heap [] (fun q : Nat => s.heap.size ≤ q) ls [some (.ref 598), none, none, none, none, none, none] M00 := by
    refine ⟨by rw [e0]; exact fun k q h => by simp at h, by rw [e0]; exact ⟨fun i j p q h => by simp at h, fun k q h => by simp at h⟩, va_S.rf, hl.1, hl.2.1, rfl, fun k v hk => ?_⟩
    match k, hk with
    | 0, hk =>
      cases hk
      show ls[0]? = some (.val (.ref (Γ.2.2.1 598)))
      rw [g2]
      exact hl.2.2 (0, .ref b) List.mem_cons_self
    | 1, hk => cases hk
    | 2, hk => cases hk
    | 3, hk => cases hk
    | 4, hk => cases hk
    | 5, hk => cases hk
    | 6, hk => cases hk
    | k + 7, hk => simp at hk
  have K := law_0 (xs := xs) hL g1 g2 p ⟨l, hnt⟩ e s m #[Value.ref b] below meth c s.heap [] (fun q : Nat => s.heap.size ≤ q) ls hF hXX
  intro T hT X0
  obtain ⟨t, a, b9⟩ := K T hT X0
  exact ⟨t, a, b9 ⟨⟨hX, hbl, Nat.not_le.mpr hbl⟩, px_of hts hf, rfl, fun q h => h⟩⟩
