/-! ===== rows that read and write the heap ===== -/
theorem cl_at {ci : Nat} (h : ci < 12) : vwCl[ci]? = some (clC ci, clT ci, clN ci) := by
  match ci, h with
  | 0, _ | 1, _ | 2, _ | 3, _ | 4, _ | 5, _ | 6, _ | 7, _ | 8, _ | 9, _ | 10, _ | 11, _ => rfl
theorem cl_nm : ∀ ci, ci < 12 → ∀ a, a < clN ci → ∀ b, b < clN ci → a ≠ b → (clT ci a).2.1 ≠ (clT ci b).2.1 := by decide +kernel
theorem cl_ty : ∀ ci, ci < 12 → ∀ k, k < clN ci → parseFieldDescriptor (clT ci k).2.2.1 = some (tyC ci k) := by decide +kernel
theorem cl_ws : ∀ ci, ci < 12 → ∀ w ∈ u_ws (clC ci) (clT ci) (clN ci), w ∈ lw_tbl ∧ goodWord w = true := by decide +kernel
theorem cl_tb {ci : Nat} (h : ci < 12) : ∀ w ∈ u_ws (clC ci) (clT ci) (clN ci), w ∈ TB := fun w hw => TB_of (cl_ws ci h w hw).1 (cl_ws ci h w hw).2
