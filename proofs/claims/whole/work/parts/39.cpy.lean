/-! ===== copies on the reference's slots ===== -/
def scpy (s : Sg) (f sp t dp n : Int) : Sg := fun o' k' => if o' = t ∧ dp ≤ k' ∧ k' < dp + n then s f (sp + (k' - dp)) else s o' k'
theorem lift_cpy {A : AHp} {s : Sg} {f sp t dp n : Int} (hf : 307 ≤ f ∧ f < 350) (ht : 307 ≤ t ∧ t < 350) : hcpy (lift A s) f sp t dp n = lift A (scpy s f sp t dp n) := by
  refine hx_eq rfl (fun o' k' => ?_)
  rw [hv_cpy, hv_lift, hv_lift, hv_lift, if_pos hf]
  unfold scpy
  by_cases e : o' = t ∧ dp ≤ k' ∧ k' < dp + n
  · rw [if_pos e, if_pos (by omega), if_pos e]
  · rw [if_neg e]
    split <;> rfl
theorem scpy_o {s : Sg} {f sp t dp n o' k' : Int} (h : o' ≠ t) : scpy s f sp t dp n o' k' = s o' k' := if_neg (fun q => h q.1)
