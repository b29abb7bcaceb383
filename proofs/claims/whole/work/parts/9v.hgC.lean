/-- the class holds the town, the gifts and their rows -/
def CSB (S : gSt) (M : gM) : Prop := tv M 100 = S.1 ∧ TBt M 100 ∧ (M.1 220 0).toInt = (S.2.1 : Int) ∧ S.2.1 ≤ 200 ∧ ∀ i, i < S.2.1 → ∀ j, j < 9 → (M.1 221 (i * 9 + j)).toInt = S.2.2 i j
def frB (M M' : gM) : Prop := (∀ j, j ≠ 220 → j ≠ 221 → ¬ (103 ≤ j ∧ j ≤ 106) → M'.1 j = M.1 j) ∧ M'.2 = M.2
set_option maxHeartbeats 1200000 in
theorem x_makeGift {Γ : gW} {gt : Option Nat} {M : gM} (hA : g_HG Γ gt) {S : gSt} {p s k : Nat} {n : Int} {pI sI nI kI : Int32} (hI : INV S.1) (hS : CSB S M) (hg : S.2.1 < 200) (hc : canG S.1 p s n k) (hpI : pI.toInt = (p : Int)) (hsI : sI.toInt = (s : Int)) (hnI : nI.toInt = n) (hkI : kI.toInt = (k : Int)) : Ct Γ yX5_makeGiftByBook μX5_makeGiftByBook 2 [.ref 0, .int pI, .int sI, .int nI, .int kI] M (g_qv (fun M1 => CSB (gvS S p s n k) M1 ∧ frB M M1)) := by
  obtain ⟨hT, hTt, h0, h1, h2⟩ := id hS
  have hO := hI.1
  have hb0 := hO.1
  obtain ⟨c1, c2, c3, c4, c5, c6⟩ := id hc
  have hB : TB M 100 := TB.of (by rw [hT]; exact hO) hTt
  have hbp := hO.2.2.2.2.2.2.1 p (by omega)
  have hs12 : s < 4096 := by
    have a := sub_le c4
    unfold hasT at a
    omega
  refine g_enter rfl rfl rfl (Nat.le_of_ble_eq_true rfl) ?_
  show G Γ _ _ _ _ 0 [some (.ref 0), some (.int pI), some (.int sI), some (.int nI), some (.int kI)] [] M
  refine g_aload_n0 dX5_makeGiftByBook_0 rfl ?_
  refine g_getr dX5_makeGiftByBook_1 rfl fX5_22 hA.1 rfl ?_
  refine g_aload_n0 dX5_makeGiftByBook_4 rfl ?_
  refine g_getr dX5_makeGiftByBook_5 rfl fX5_10 hA.1 rfl ?_
  refine g_iload_n1 dX5_makeGiftByBook_8 rfl ?_
  refine g_iload_n2 dX5_makeGiftByBook_9 rfl ?_
  refine g_iload_n3 dX5_makeGiftByBook_10 rfl ?_
  refine g_iload4 dX5_makeGiftByBook_11 rfl ?_
  refine g_callVv5 dX5_makeGiftByBook_13 rfl vX5_183 (hg_book hA).1 rfl (c_bkWrite (hg_book hA) (hg_town hA) (TBw.of hB) (Or.inr (by decide)) (by omega) (by omega) (by omega) (by omega) (by omega)) (g_rm (by omega)) (Nat.le_of_ble_eq_true rfl) (fun M13 e13 => ?_)
  obtain ⟨v, hv, w1, w2, w3, w4, w5⟩ := e13
  have hT13 : tv M13 100 = S.1 := by rw [← hT]; exact tv_far (fun j a b => w1 j (by omega) (by omega))
  have hTt13 : TBt M13 100 := TBt.far hTt (w1 _ (by decide) (by decide)) (w1 _ (by decide) (by decide)) (w1 _ (by decide) (by decide))
  have hB13 : TB M13 100 := TB.of (by rw [hT13]; exact hO) hTt13
  refine g_aload_n0 dX5_makeGiftByBook_16 rfl ?_
  refine g_getr dX5_makeGiftByBook_17 rfl fX5_10 hA.1 rfl ?_
  refine g_iload_n1 dX5_makeGiftByBook_20 rfl ?_
  refine g_iload_n2 dX5_makeGiftByBook_21 rfl ?_
  refine g_iload_n3 dX5_makeGiftByBook_22 rfl ?_
  refine g_iload4 dX5_makeGiftByBook_23 rfl ?_
  refine g_callVv4 dX5_makeGiftByBook_25 rfl vX5_187 (hg_town hA).1 rfl (c_makeGift (hg_town hA) (TBw.of hB13) (by omega) (by omega) (by omega) (by omega)) (g_rm (by omega)) (Nat.le_of_ble_eq_true rfl) (fun M25 e25 => ?_)
  refine g_vret dX5_makeGiftByBook_28 rfl ?_
  obtain ⟨v2, hv2, e25⟩ := e25
  rw [show pI.toInt.toNat = p by omega, show kI.toInt.toNat = k by omega] at e25 w4
  rw [show sI.toInt.toNat = s by omega] at hv2 hv
  have hbs : bn sI = s := bn_lit hsI
  have e3 : (M13.1 (100 + 3) p).toInt = S.1 3 p := by rw [← hT13]; exact (tvp (f := 3) (by decide) (by omega)).symm
  have tf : ∀ f q, f ≤ 6 → q < 6 → (M.1 (100 + f) q).toInt = S.1 f q := fun f q hf hq => by rw [← hT]; exact (tvp hf hq).symm
  refine ⟨rfl, ⟨?_, ?_, ?_, ?_, fun i hi j hj => ?_⟩, fun j a b c => ?_, ?_⟩
  · rw [e25, v_gift hB13 (by omega) (by omega) c3 (by omega) (by omega) (by rw [hbs]; exact hv2), hT13, hbs, hnI]; rfl
  · rw [e25]; exact TBt.far hTt13 (gm_o (by decide)) (gm_o (by decide)) (gm_o (by decide))
  · rw [e25, gm_o (by decide), w3]; show _ = ((S.2.1 + 1 : Nat) : Int); omega
  · show S.2.1 + 1 ≤ 200; omega
  · rw [e25, gm_o (by decide)]
    show _ = (if i = S.2.1 then bkT S.1 p s n k else S.2.2 i) j
    have h00 : (M.1 220 0).toInt.toNat = S.2.1 := by omega
    by_cases hig : i = S.2.1
    · rw [if_pos hig, hig, ← h00]
      have := w4 j hj
      rw [show (220 + 1 : Nat) = 221 from rfl] at this
      rw [this]
      have t4p := tf 4 p (by decide) (by omega)
      have t5p := tf 5 p (by decide) (by omega)
      have t4k := tf 4 k (by decide) (by omega)
      have t5k := tf 5 k (by decide) (by omega)
      have hw : wt M 100 s = wtT S.1 s := by rw [v_wt, hT]
      rcases (show j = 0 ∨ j = 1 ∨ j = 2 ∨ j = 3 ∨ j = 4 ∨ j = 5 ∨ j = 6 ∨ j = 7 ∨ j = 8 by omega) with q | q | q | q | q | q | q | q | q <;> subst q <;> simp only [wrRow, bkT] <;> simp <;> omega
    · rw [if_neg hig]
      have hi2 : i < S.2.1 := by have : i < S.2.1 + 1 := hi; omega
      have := w5 (i * 9 + j) (by omega)
      rw [show (220 + 1 : Nat) = 221 from rfl] at this
      rw [this]; exact h2 i hi2 j hj
  · rw [e25, gm_o (by omega)]; exact w1 j a b
  · rw [e25]; exact w2
