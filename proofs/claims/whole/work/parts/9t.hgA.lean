/-! the class HeavyGifts: the object 0; its search for gifts is there or not yet -/
def g_HG (Γ : gW) (gt : Option Nat) : Prop := g_o Γ 0 (.inl (5, [some (some 100), some (some 120), some (some 220), none, none, none, some (some 140), some (some 222), none, none, some (some 230), none, some (some 240), some (some 1), none, some gt, some (some 2), some (some 3)])) ∧ g_Town Γ 100 ∧ g_Town Γ 120 ∧ g_Town Γ 140 ∧ g_Book Γ 220 ∧ g_Book Γ 222 ∧ g_Tape Γ ∧ g_Week Γ ∧ g_o Γ 1 (.inr (1, 6)) ∧ g_o Γ 2 (.inr (1, 1000)) ∧ g_o Γ 3 (.inr (1, 12)) ∧ (gt = none ∨ (gt = some 250 ∧ g_Get Γ))
section HGs
variable {Γ : gW} {gt : Option Nat}
theorem hg_town (h : g_HG Γ gt) : g_Town Γ 100 := h.2.1
theorem hg_spare (h : g_HG Γ gt) : g_Town Γ 120 := h.2.2.1
theorem hg_imageTown (h : g_HG Γ gt) : g_Town Γ 140 := h.2.2.2.1
theorem hg_book (h : g_HG Γ gt) : g_Book Γ 220 := h.2.2.2.2.1
theorem hg_imageBook (h : g_HG Γ gt) : g_Book Γ 222 := h.2.2.2.2.2.1
theorem hg_tape (h : g_HG Γ gt) : g_Tape Γ := h.2.2.2.2.2.2.1
theorem hg_week (h : g_HG Γ gt) : g_Week Γ := h.2.2.2.2.2.2.2.1
theorem hg_keptOrder (h : g_HG Γ gt) : g_o Γ 1 (.inr (1, 6)) := h.2.2.2.2.2.2.2.2.1
theorem hg_made (h : g_HG Γ gt) : g_o Γ 2 (.inr (1, 1000)) := h.2.2.2.2.2.2.2.2.2.1
theorem hg_byWeight (h : g_HG Γ gt) : g_o Γ 3 (.inr (1, 12)) := h.2.2.2.2.2.2.2.2.2.2.1
end HGs
set_option maxHeartbeats 1200000 in
theorem x_fault {Γ : gW} {gt : Option Nat} {M : gM} (hA : g_HG Γ gt)  : Ct Γ yX5_fault μX5_fault 0 [.ref 0] M (g_qi (fun z M1 => M1 = M ∧ z = M.1 0 11)) := by
  refine g_enter rfl rfl rfl (Nat.le_of_ble_eq_true rfl) ?_
  show G Γ _ _ _ _ 0 [some (.ref 0)] [] M
  refine g_aload_n0 dX5_fault_0 rfl ?_
  refine g_geti dX5_fault_1 rfl fX5_56 hA.1 rfl ?_
  refine g_iret dX5_fault_4 rfl ?_
  exact ⟨_, rfl, rfl, rfl⟩
