/-- how many cuts help, and the first of them -/
noncomputable def cutStep (ok : Prop) (t a : Nat) (q : Int × Int) : Int × Int := @ite _ ok (Classical.propDecidable _) (q.1 + 1, if q.2 = -1 then 100 * (t : Int) + a else q.2) q
noncomputable def cutIn (ok : Nat → Prop) (t : Nat) : Nat → Int × Int → Int × Int
  | 0, q => q
  | m + 1, q => cutStep (ok (m + 1)) t (m + 1) (cutIn ok t m q)
noncomputable def cutOut (ok : Nat → Nat → Prop) (m : Nat → Nat) : Nat → Int × Int
  | 0 => (0, -1)
  | n + 1 => cutIn (ok n) n (m n) (cutOut ok m n)
def okT (T : gTw) (p t a : Nat) : Prop := (∃ u, fitT (upT T 7 t (a : Int)) p u) ∨ ∃ u, fitT (upT T 7 t (T 7 t - (a : Int))) p u
def mT (T : gTw) (p t : Nat) : Nat := if (hasT T p).testBit t = true then (T 7 t / 2).toNat else 0
theorem cutStep_yes {ok : Prop} {t a : Nat} {q : Int × Int} (h : ok) : cutStep ok t a q = (q.1 + 1, if q.2 = -1 then 100 * (t : Int) + a else q.2) := if_pos h
theorem cutStep_no {ok : Prop} {t a : Nat} {q : Int × Int} (h : ¬ ok) : cutStep ok t a q = q := if_neg h
theorem cutIn_rng (ok : Nat → Prop) (t m : Nat) (q : Int × Int) (h : -1 ≤ q.2) : q.1 ≤ (cutIn ok t m q).1 ∧ (cutIn ok t m q).1 ≤ q.1 + m ∧ -1 ≤ (cutIn ok t m q).2 := by
  induction m with
  | zero => exact ⟨Int.le_refl _, by simp [cutIn], h⟩
  | succ m ih =>
    rw [cutIn]
    by_cases hk : ok (m + 1)
    · rw [cutStep_yes hk]
      refine ⟨?_, ?_, ?_⟩
      · show _ ≤ (cutIn ok t m q).1 + 1; omega
      · show (cutIn ok t m q).1 + 1 ≤ _; omega
      · show -1 ≤ if (cutIn ok t m q).2 = -1 then 100 * (t : Int) + ((m + 1 : Nat) : Int) else (cutIn ok t m q).2
        split <;> omega
    · rw [cutStep_no hk]; omega
theorem cutOut_rng (ok : Nat → Nat → Prop) (m : Nat → Nat) (hm : ∀ t, m t ≤ 50) (n : Nat) : 0 ≤ (cutOut ok m n).1 ∧ (cutOut ok m n).1 ≤ 50 * n ∧ -1 ≤ (cutOut ok m n).2 := by
  induction n with
  | zero => exact ⟨Int.le_refl _, Int.le_refl _, Int.le_refl _⟩
  | succ n ih =>
    rw [cutOut]
    have := cutIn_rng (ok n) n (m n) (cutOut ok m n) ih.2.2
    have := hm n
    omega
theorem mT_le {T : gTw} (hO : TOK T) {p t : Nat} (ht : t < 12) : mT T p t ≤ 50 := by
  have := (hO.2.2.2.2.2.2.2 t ht).1
  rw [mT]; split <;> omega
set_option maxHeartbeats 1200000 in
theorem l_cutIn {Γ : gW} {M : gM} {T : gTw} (hR : g_Ref Γ) (hO : TOK T) (hS : RS T M) {p : Int32} (hp : 0 ≤ p.toInt ∧ p.toInt < T 0 0) {w h i : Int32} (hi : 0 ≤ i.toInt ∧ i.toInt < T 0 1) {q : Int × Int} (hq0 : 0 ≤ q.1 ∧ q.1 ≤ 100000) (hq1 : -1 ≤ q.2) {Q : Option Value → gM → Prop} (hk : ∀ (n f a : Int32), n.toInt = (cutIn (okT T p.toInt.toNat i.toInt.toNat) i.toInt.toNat (mT T p.toInt.toNat i.toInt.toNat) q).1 → f.toInt = (cutIn (okT T p.toInt.toNat i.toInt.toNat) i.toInt.toNat (mT T p.toInt.toNat i.toInt.toNat) q).2 → G Γ μX6_cut (g_R 5) (0, 0) (g_Z Γ Q) 172 [some (.ref 300), some (.int p), some (.int w), some (.int n), some (.int f), some (.int h), some (.int i), some (.int a)] [] M) : ∀ (n9 : Nat) (n f a : Int32), (100 - a.toInt).toNat = n9 → 1 ≤ a.toInt → a.toInt ≤ (mT T p.toInt.toNat i.toInt.toNat : Int) + 1 → n.toInt = (cutIn (okT T p.toInt.toNat i.toInt.toNat) i.toInt.toNat (a.toInt.toNat - 1) q).1 → f.toInt = (cutIn (okT T p.toInt.toNat i.toInt.toNat) i.toInt.toNat (a.toInt.toNat - 1) q).2 → G Γ μX6_cut (g_R 5) (0, 0) (g_Z Γ Q) 82 [some (.ref 300), some (.int p), some (.int w), some (.int n), some (.int f), some (.int h), some (.int i), some (.int a)] [] M := by
  intro n9
  induction n9 using Nat.strongRecOn with
  | ind n9 ih =>
    intro n f a hn ha1 ha2 hnn hff
    obtain ⟨hC, hW, hA, hDy, hWe⟩ := id hS
    obtain ⟨o_pe, o_th, o_la, o_wi, o_da, o_we, o_p, o_i⟩ := id hO
    obtain ⟨r_0, r_1, r_2, r_3, r_p, r_i⟩ := id hC
    clear o_p r_p r_i
    have ob := (o_i i.toInt.toNat (by omega)).1
    have hmt := mT_le hO (p := p.toInt.toNat) (t := i.toInt.toNat) (by omega)
    have hcr := cutIn_rng (okT T p.toInt.toNat i.toInt.toNat) i.toInt.toNat (a.toInt.toNat - 1) q hq1
    have hw9 := hW i.toInt.toNat (by omega)
    have hbt := (hA.1 p.toInt.toNat (by omega)).2.2.2 i.toInt.toNat
    have epn : ((p.toInt.toNat : Nat) : Int) = p.toInt := by omega
    have ein : ((i.toInt.toNat : Nat) : Int) = i.toInt := by omega
    refine g_iload7 dX6_cut_82 rfl ?_
    refine g_aload_n0 dX6_cut_84 rfl ?_
    refine g_getr dX6_cut_85 rfl fX6_47 hR.1 rfl ?_
    refine g_iload6 dX6_cut_88 rfl ?_
    refine g_ialdI dX6_cut_90 rfl (rf_weight hR) ⟨by omega, by omega⟩ ?_
    refine g_iconstI dX6_cut_91 rfl rfl (fun w91 h91 => ?_)
    refine g_idivI dX6_cut_92 rfl ⟨by omega, by omega⟩ (fun w92 h92 => ?_)
    rw [h91, hw9] at h92
    refine g_icmp_gtI (t := 172) dX6_cut_93 (by decide) rfl (fun c93 => ?_) (fun c93 => ?_)
    · -- 93 t
      have hend : a.toInt.toNat - 1 = mT T p.toInt.toNat i.toInt.toNat := by
        rw [mT] at ha2 ⊢
        split at ha2
        · rename_i hb; rw [if_pos hb]; omega
        · rename_i hb; rw [if_neg hb]; omega
      rw [hend] at hnn hff
      exact hk _ _ _ hnn hff
    · -- 93 f
      refine g_aload_n0 dX6_cut_96 rfl ?_
      refine g_getr dX6_cut_97 rfl fX6_41 hR.1 rfl ?_
      refine g_iload6 dX6_cut_100 rfl ?_
      refine g_ialdI dX6_cut_102 rfl (rf_now hR) ⟨by omega, by omega⟩ ?_
      refine g_iload_n1 dX6_cut_103 rfl ?_
      refine g_icmp_neI (t := 172) dX6_cut_104 (by decide) rfl (fun c104 => ?_) (fun c104 => ?_)
      · -- 104 t
        have hend : a.toInt.toNat - 1 = mT T p.toInt.toNat i.toInt.toNat := by
          rw [mT] at ha2 ⊢
          split at ha2
          · rename_i hb; have := (hbt.mp hb).2; omega
          · rename_i hb; rw [if_neg hb]; omega
        rw [hend] at hnn hff
        exact hk _ _ _ hnn hff
      · -- 104 f
        have hin : a.toInt ≤ (mT T p.toInt.toNat i.toInt.toNat : Int) := by
          rw [mT, if_pos (hbt.mpr ⟨by omega, by omega⟩)]; omega
        have hstep : cutIn (okT T p.toInt.toNat i.toInt.toNat) i.toInt.toNat a.toInt.toNat q = cutStep (okT T p.toInt.toNat i.toInt.toNat a.toInt.toNat) i.toInt.toNat a.toInt.toNat (cutIn (okT T p.toInt.toNat i.toInt.toNat) i.toInt.toNat (a.toInt.toNat - 1) q) := by
          obtain ⟨m, em⟩ : ∃ m, a.toInt.toNat = m + 1 := ⟨a.toInt.toNat - 1, by omega⟩
          rw [em, cutIn]; rfl
        have ean : ((a.toInt.toNat : Nat) : Int) = a.toInt := by omega
        refine g_aload_n0 dX6_cut_107 rfl ?_
        refine g_iload_n1 dX6_cut_108 rfl ?_
        refine g_iload6 dX6_cut_109 rfl ?_
        refine g_iload7 dX6_cut_111 rfl ?_
        refine g_callVi3 dX6_cut_113 rfl vX6_374 hR.1 rfl (r_fitsWith hR hO hS hp hi ⟨by omega, by omega⟩) (g_rm (by omega)) (Nat.le_of_ble_eq_true rfl) (fun z113 M113 e113 => ?_)
        obtain ⟨rfl, e113, f113⟩ := e113
        rw [← ean] at f113
        refine g_if_neI (t := 142) dX6_cut_116 (by decide) rfl (fun c116 => ?_) (fun c116 => ?_)
        · -- 116 t
          have hok : okT T p.toInt.toNat i.toInt.toNat a.toInt.toNat := Or.inl (f113.mp (by omega))
          clear f113 e113
          refine g_iincI3 dX6_cut_142 rfl rfl rfl ⟨by omega, by omega⟩ (fun w142 h142 => ?_)
          refine g_iload4 dX6_cut_145 rfl ?_
          refine g_iconstI dX6_cut_147 rfl rfl (fun w147 h147 => ?_)
          refine g_icmp_neI (t := 162) dX6_cut_148 (by decide) rfl (fun c148 => ?_) (fun c148 => ?_)
          · -- 148 t
            refine g_iload4 dX6_cut_162 rfl ?_
            refine g_istore4 dX6_cut_164 rfl rfl ?_
            refine g_iincI7 dX6_cut_166 rfl rfl rfl ⟨by omega, by omega⟩ (fun w166 h166 => ?_)
            refine g_goto (t := 82) dX6_cut_169 (by decide) ?_
            have e1 : w166.toInt.toNat - 1 = a.toInt.toNat := by omega
            first
              | (have hz := hnok; rw [cutStep_no hz] at hstep; exact ih _ (by omega) _ _ _ rfl (by omega) (by omega) (by rw [e1, hstep]; exact hnn) (by rw [e1, hstep]; exact hff))
              | (rw [cutStep_yes hok] at hstep
                 have hff2 := hff
                 refine ih _ (by omega) _ _ _ rfl (by omega) (by omega) (by rw [e1, hstep]; show _ = (cutIn _ _ _ q).1 + 1; omega) ?_
                 rw [e1, hstep]
                 show _ = if (cutIn _ _ _ q).2 = -1 then _ else (cutIn _ _ _ q).2
                 rw [← hff2]
                 first
                   | (have hz := h158; rw [if_pos (by omega)]; omega)
                   | (rw [if_neg (by omega)]))
          · -- 148 f
            refine g_bipushI dX6_cut_151 rfl rfl (fun w151 h151 => ?_)
            refine g_iload6 dX6_cut_153 rfl ?_
            refine g_imulI dX6_cut_155 rfl ⟨by rw [h151]; omega, by rw [h151]; omega⟩ (fun w155 h155 => ?_)
            rw [h151] at h155
            refine g_iload7 dX6_cut_156 rfl ?_
            refine g_iaddI dX6_cut_158 rfl ⟨by omega, by omega⟩ (fun w158 h158 => ?_)
            refine g_goto (t := 164) dX6_cut_159 (by decide) ?_
            refine g_istore4 dX6_cut_164 rfl rfl ?_
            refine g_iincI7 dX6_cut_166 rfl rfl rfl ⟨by omega, by omega⟩ (fun w166 h166 => ?_)
            refine g_goto (t := 82) dX6_cut_169 (by decide) ?_
            have e1 : w166.toInt.toNat - 1 = a.toInt.toNat := by omega
            first
              | (have hz := hnok; rw [cutStep_no hz] at hstep; exact ih _ (by omega) _ _ _ rfl (by omega) (by omega) (by rw [e1, hstep]; exact hnn) (by rw [e1, hstep]; exact hff))
              | (rw [cutStep_yes hok] at hstep
                 have hff2 := hff
                 refine ih _ (by omega) _ _ _ rfl (by omega) (by omega) (by rw [e1, hstep]; show _ = (cutIn _ _ _ q).1 + 1; omega) ?_
                 rw [e1, hstep]
                 show _ = if (cutIn _ _ _ q).2 = -1 then _ else (cutIn _ _ _ q).2
                 rw [← hff2]
                 first
                   | (have hz := h158; rw [if_pos (by omega)]; omega)
                   | (rw [if_neg (by omega)]))
        · -- 116 f
          have hno1 : ¬ ∃ u, fitT (upT T 7 i.toInt.toNat ((a.toInt.toNat : Nat) : Int)) p.toInt.toNat u := fun h => by have := f113.mpr h; omega
          clear f113 e113
          refine g_aload_n0 dX6_cut_119 rfl ?_
          refine g_iload_n1 dX6_cut_120 rfl ?_
          refine g_iload6 dX6_cut_121 rfl ?_
          refine g_aload_n0 dX6_cut_123 rfl ?_
          refine g_getr dX6_cut_124 rfl fX6_47 hR.1 rfl ?_
          refine g_iload6 dX6_cut_127 rfl ?_
          refine g_ialdI dX6_cut_129 rfl (rf_weight hR) ⟨by omega, by omega⟩ ?_
          refine g_iload7 dX6_cut_130 rfl ?_
          refine g_isubI dX6_cut_132 rfl ⟨by omega, by omega⟩ (fun w132 h132 => ?_)
          refine g_callVi3 dX6_cut_133 rfl vX6_374 hR.1 rfl (r_fitsWith hR hO hS hp hi ⟨by omega, by omega⟩) (g_rm (by omega)) (Nat.le_of_ble_eq_true rfl) (fun z133 M133 e133 => ?_)
          obtain ⟨rfl, e133, f133⟩ := e133
          rw [h132, hw9, ← ean] at f133
          refine g_if_neI (t := 142) dX6_cut_136 (by decide) rfl (fun c136 => ?_) (fun c136 => ?_)
          · -- 136 t
            have hok : okT T p.toInt.toNat i.toInt.toNat a.toInt.toNat := Or.inr (f133.mp (by omega))
            clear f133 e133
            refine g_iincI3 dX6_cut_142 rfl rfl rfl ⟨by omega, by omega⟩ (fun w142 h142 => ?_)
            refine g_iload4 dX6_cut_145 rfl ?_
            refine g_iconstI dX6_cut_147 rfl rfl (fun w147 h147 => ?_)
            refine g_icmp_neI (t := 162) dX6_cut_148 (by decide) rfl (fun c148 => ?_) (fun c148 => ?_)
            · -- 148 t
              refine g_iload4 dX6_cut_162 rfl ?_
              refine g_istore4 dX6_cut_164 rfl rfl ?_
              refine g_iincI7 dX6_cut_166 rfl rfl rfl ⟨by omega, by omega⟩ (fun w166 h166 => ?_)
              refine g_goto (t := 82) dX6_cut_169 (by decide) ?_
              have e1 : w166.toInt.toNat - 1 = a.toInt.toNat := by omega
              first
                | (have hz := hnok; rw [cutStep_no hz] at hstep; exact ih _ (by omega) _ _ _ rfl (by omega) (by omega) (by rw [e1, hstep]; exact hnn) (by rw [e1, hstep]; exact hff))
                | (rw [cutStep_yes hok] at hstep
                   have hff2 := hff
                   refine ih _ (by omega) _ _ _ rfl (by omega) (by omega) (by rw [e1, hstep]; show _ = (cutIn _ _ _ q).1 + 1; omega) ?_
                   rw [e1, hstep]
                   show _ = if (cutIn _ _ _ q).2 = -1 then _ else (cutIn _ _ _ q).2
                   rw [← hff2]
                   first
                     | (have hz := h158; rw [if_pos (by omega)]; omega)
                     | (rw [if_neg (by omega)]))
            · -- 148 f
              refine g_bipushI dX6_cut_151 rfl rfl (fun w151 h151 => ?_)
              refine g_iload6 dX6_cut_153 rfl ?_
              refine g_imulI dX6_cut_155 rfl ⟨by rw [h151]; omega, by rw [h151]; omega⟩ (fun w155 h155 => ?_)
              rw [h151] at h155
              refine g_iload7 dX6_cut_156 rfl ?_
              refine g_iaddI dX6_cut_158 rfl ⟨by omega, by omega⟩ (fun w158 h158 => ?_)
              refine g_goto (t := 164) dX6_cut_159 (by decide) ?_
              refine g_istore4 dX6_cut_164 rfl rfl ?_
              refine g_iincI7 dX6_cut_166 rfl rfl rfl ⟨by omega, by omega⟩ (fun w166 h166 => ?_)
              refine g_goto (t := 82) dX6_cut_169 (by decide) ?_
              have e1 : w166.toInt.toNat - 1 = a.toInt.toNat := by omega
              first
                | (have hz := hnok; rw [cutStep_no hz] at hstep; exact ih _ (by omega) _ _ _ rfl (by omega) (by omega) (by rw [e1, hstep]; exact hnn) (by rw [e1, hstep]; exact hff))
                | (rw [cutStep_yes hok] at hstep
                   have hff2 := hff
                   refine ih _ (by omega) _ _ _ rfl (by omega) (by omega) (by rw [e1, hstep]; show _ = (cutIn _ _ _ q).1 + 1; omega) ?_
                   rw [e1, hstep]
                   show _ = if (cutIn _ _ _ q).2 = -1 then _ else (cutIn _ _ _ q).2
                   rw [← hff2]
                   first
                     | (have hz := h158; rw [if_pos (by omega)]; omega)
                     | (rw [if_neg (by omega)]))
          · -- 136 f
            have hnok : ¬ okT T p.toInt.toNat i.toInt.toNat a.toInt.toNat := fun h => h.elim hno1 (fun h => by have := f133.mpr h; omega)
            clear f133 e133
            refine g_goto (t := 166) dX6_cut_139 (by decide) ?_
            refine g_iincI7 dX6_cut_166 rfl rfl rfl ⟨by omega, by omega⟩ (fun w166 h166 => ?_)
            refine g_goto (t := 82) dX6_cut_169 (by decide) ?_
            have e1 : w166.toInt.toNat - 1 = a.toInt.toNat := by omega
            first
              | (have hz := hnok; rw [cutStep_no hz] at hstep; exact ih _ (by omega) _ _ _ rfl (by omega) (by omega) (by rw [e1, hstep]; exact hnn) (by rw [e1, hstep]; exact hff))
              | (rw [cutStep_yes hok] at hstep
                 have hff2 := hff
                 refine ih _ (by omega) _ _ _ rfl (by omega) (by omega) (by rw [e1, hstep]; show _ = (cutIn _ _ _ q).1 + 1; omega) ?_
                 rw [e1, hstep]
                 show _ = if (cutIn _ _ _ q).2 = -1 then _ else (cutIn _ _ _ q).2
                 rw [← hff2]
                 first
                   | (have hz := h158; rw [if_pos (by omega)]; omega)
                   | (rw [if_neg (by omega)]))
set_option maxHeartbeats 1200000 in
theorem l_cutOut {Γ : gW} {M : gM} {T : gTw} (hR : g_Ref Γ) (hO : TOK T) (hS : RS T M) {p : Int32} (hp : 0 ≤ p.toInt ∧ p.toInt < T 0 0) {w h : Int32} (hh : h.toInt = 1) {Q : Option Value → gM → Prop} (hk : ∀ (n f i : Int32) (z : Option Value), n.toInt = (cutOut (okT T p.toInt.toNat) (fun t => if t < 12 then mT T p.toInt.toNat t else 0) (T 0 1).toNat).1 → f.toInt = (cutOut (okT T p.toInt.toNat) (fun t => if t < 12 then mT T p.toInt.toNat t else 0) (T 0 1).toNat).2 → G Γ μX6_cut (g_R 5) (0, 0) (g_Z Γ Q) 178 [some (.ref 300), some (.int p), some (.int w), some (.int n), some (.int f), some (.int h), some (.int i), z] [] M) : ∀ (n9 : Nat) (n f i : Int32) (z : Option Value), (T 0 1).toNat - i.toInt.toNat = n9 → 0 ≤ i.toInt → i.toInt ≤ T 0 1 → n.toInt = (cutOut (okT T p.toInt.toNat) (fun t => if t < 12 then mT T p.toInt.toNat t else 0) i.toInt.toNat).1 → f.toInt = (cutOut (okT T p.toInt.toNat) (fun t => if t < 12 then mT T p.toInt.toNat t else 0) i.toInt.toNat).2 → G Γ μX6_cut (g_R 5) (0, 0) (g_Z Γ Q) 63 [some (.ref 300), some (.int p), some (.int w), some (.int n), some (.int f), some (.int h), some (.int i), z] [] M := by
  intro n9
  induction n9 using Nat.strongRecOn with
  | ind n9 ih =>
    intro n f i z hn hi0 hi1 hnn hff
    obtain ⟨hC, hW, hA, hDy, hWe⟩ := id hS
    obtain ⟨o_pe, o_th, o_la, o_wi, o_da, o_we, o_p, o_i⟩ := id hO
    obtain ⟨r_0, r_1, r_2, r_3, r_p, r_i⟩ := id hC
    clear o_p r_p r_i
    have hor := cutOut_rng (okT T p.toInt.toNat) (fun t => if t < 12 then mT T p.toInt.toNat t else 0) (fun t => by by_cases h : t < 12; (rw [if_pos h]; exact mT_le hO h); (rw [if_neg h]; omega)) i.toInt.toNat
    refine g_iload6 dX6_cut_63 rfl ?_
    refine g_aload_n0 dX6_cut_65 rfl ?_
    refine g_getr dX6_cut_66 rfl fX6_25 hR.1 rfl ?_
    refine g_iconstI dX6_cut_69 rfl rfl (fun w69 h69 => ?_)
    refine g_ialdI dX6_cut_70 rfl (rf_told hR) ⟨by omega, by omega⟩ ?_
    have et70 : w69.toInt.toNat = 1 := by omega
    rw [et70]
    clear et70
    refine g_icmp_geI (t := 178) dX6_cut_71 (by decide) rfl (fun c71 => ?_) (fun c71 => ?_)
    · -- 71 t
      exact hk _ _ _ _ (by rw [show (T 0 1).toNat = i.toInt.toNat by omega]; exact hnn) (by rw [show (T 0 1).toNat = i.toInt.toNat by omega]; exact hff)
    · -- 71 f
      refine g_iload5 dX6_cut_74 rfl ?_
      refine g_if_eqI (t := 178) dX6_cut_76 (by decide) rfl (fun c76 => absurd c76 (by omega)) (fun c76 => ?_)
      refine g_iconstI dX6_cut_79 rfl rfl (fun w79 h79 => ?_)
      refine g_istore7 dX6_cut_80 rfl rfl ?_
      refine l_cutIn hR hO hS hp ⟨hi0, by omega⟩ (q := (cutOut (okT T p.toInt.toNat) (fun t => if t < 12 then mT T p.toInt.toNat t else 0) i.toInt.toNat)) (by omega) (by omega) (fun n1 f1 a1 hn1 hf1 => ?_) _ _ _ _ rfl (by omega) (by omega) (by rw [h79]; exact hnn) (by rw [h79]; exact hff)
      refine g_iincI6 dX6_cut_172 rfl rfl rfl ⟨by omega, by omega⟩ (fun w172 h172 => ?_)
      refine g_goto (t := 63) dX6_cut_175 (by decide) ?_
      have e1 : w172.toInt.toNat = i.toInt.toNat + 1 := by omega
      have e2 : (if i.toInt.toNat < 12 then mT T p.toInt.toNat i.toInt.toNat else 0) = mT T p.toInt.toNat i.toInt.toNat := if_pos (by omega)
      exact ih _ (by omega) _ _ _ _ rfl (by omega) (by omega) (by rw [e1, cutOut, e2]; exact hn1) (by rw [e1, cutOut, e2]; exact hf1)
