theorem aw_tab : ∀ (ci : Nat) (q : vw_C), vwCl[ci]? = some q → (∀ w ∈ u_ws q.1 q.2.1 q.2.2, w ∈ TT) ∧ (∀ k, k < q.2.2 → parseFieldDescriptor (q.2.1 k).2.2.1 = some (aw_ty ci k)) ∧ (∀ a, a < q.2.2 → ∀ b, b < q.2.2 → a ≠ b → (q.2.1 a).2.1 ≠ (q.2.1 b).2.1) := by
  intro ci q h
  match ci, h with
  | 0, h => cases h; exact ⟨aw_ws0, tyX0_ok, nmX0⟩
  | 1, h => cases h; exact ⟨aw_ws1, tyX1_ok, nmX1⟩
  | 2, h => cases h; exact ⟨aw_ws2, tyX2_ok, nmX2⟩
  | 3, h => cases h; exact ⟨aw_ws3, tyX3_ok, nmX3⟩
  | 4, h => cases h; exact ⟨aw_ws4, tyX4_ok, nmX4⟩
  | 5, h => cases h; exact ⟨aw_ws5, tyX5_ok, nmX5⟩
  | 6, h => cases h; exact ⟨aw_ws6, tyX6_ok, nmX6⟩
  | 7, h => cases h; exact ⟨aw_ws7, tyX7_ok, nmX7⟩
  | 8, h => cases h; exact ⟨aw_ws8, tyX8_ok, nmX8⟩
  | 9, h => cases h; exact ⟨aw_ws9, tyX9_ok, nmX9⟩
  | 10, h => cases h; exact ⟨aw_ws10, tyX10_ok, nmX10⟩
  | 11, h => cases h; exact ⟨aw_ws11, tyX11_ok, nmX11⟩
  | k + 12, h => simp [vwCl] at h
