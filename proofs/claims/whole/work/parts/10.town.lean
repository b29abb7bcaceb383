/-! a Town by its number t: the object t, its arrays t + 1 .. t + 10 -/
def g_Town (Γ : gW) (t : Nat) : Prop := g_o Γ t (.inl (3, [none, none, none, none, none, none, some (some (t + 1)), some (some (t + 2)), some (some (t + 3)), some (some (t + 4)), some (some (t + 5)), some (some (t + 6)), some (some (t + 7)), some (some (t + 8)), some (some (t + 9)), some (some (t + 10))]))
  ∧ g_o Γ (t + 1) (.inr (1, 6)) ∧ g_o Γ (t + 2) (.inr (1, 6)) ∧ g_o Γ (t + 3) (.inr (1, 6)) ∧ g_o Γ (t + 4) (.inr (1, 6)) ∧ g_o Γ (t + 5) (.inr (1, 6)) ∧ g_o Γ (t + 6) (.inr (1, 6)) ∧ g_o Γ (t + 7) (.inr (1, 12)) ∧ g_o Γ (t + 8) (.inr (1, 12)) ∧ g_o Γ (t + 9) (.inr (1, 64)) ∧ g_o Γ (t + 10) (.inr (1, 64))
section
variable {Γ : gW} {t : Nat} (h : g_Town Γ t)
theorem tw_kind (h : g_Town Γ t) : g_o Γ (t + 1) (.inr (1, 6)) := h.2.1
theorem tw_goal (h : g_Town Γ t) : g_o Γ (t + 2) (.inr (1, 6)) := h.2.2.1
theorem tw_sand (h : g_Town Γ t) : g_o Γ (t + 3) (.inr (1, 6)) := h.2.2.2.1
theorem tw_owed (h : g_Town Γ t) : g_o Γ (t + 4) (.inr (1, 6)) := h.2.2.2.2.1
theorem tw_owedTo (h : g_Town Γ t) : g_o Γ (t + 5) (.inr (1, 6)) := h.2.2.2.2.2.1
theorem tw_has (h : g_Town Γ t) : g_o Γ (t + 6) (.inr (1, 6)) := h.2.2.2.2.2.2.1
theorem tw_weight (h : g_Town Γ t) : g_o Γ (t + 7) (.inr (1, 12)) := h.2.2.2.2.2.2.2.1
theorem tw_worth (h : g_Town Γ t) : g_o Γ (t + 8) (.inr (1, 12)) := h.2.2.2.2.2.2.2.2.1
theorem tw_lowWeights (h : g_Town Γ t) : g_o Γ (t + 9) (.inr (1, 64)) := h.2.2.2.2.2.2.2.2.2.1
theorem tw_highWeights (h : g_Town Γ t) : g_o Γ (t + 10) (.inr (1, 64)) := h.2.2.2.2.2.2.2.2.2.2
end
