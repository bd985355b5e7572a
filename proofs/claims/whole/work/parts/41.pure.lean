theorem sgn_mul {d r : Int} (h : (r = 1 ∧ 0 < d) ∨ (r = -1 ∧ d < 0) ∨ (r = 0 ∧ d = 0)) : d * r = max d (-d) := by
  rcases h with ⟨h1, h2⟩ | ⟨h1, h2⟩ | ⟨h1, h2⟩
  · rw [h1, Int.mul_one]; omega
  · rw [h1]; omega
  · rw [h1, h2]; rfl
theorem RM_0 : RM (fun _ => 16) (fun _ => 16) (fun _ _ _ => false) nz0 0 none none 3 (fun _ => 16) (fun _ => 16) (fun _ => 0) (upd (upd (fun _ => 0) 8 16) 9 16) 0 (-1) (-1) 3 := by
  refine ⟨fun f _ => ⟨(by decide : (16 : Int32).toInt = ((16 : Nat) : Int)), (by decide : (16 : Int32).toInt = ((16 : Nat) : Int)), (by decide : 1 ≤ 16), (by decide : 1 ≤ 16), (by decide : (16 + 15) / 16 * 16 ≤ 4000), (by decide : 16 ≤ 64000), (by decide : 16 ≤ 4000), RF_blank⟩, RC_0.2.1, by decide, by decide, by decide, fun s h => (by cases h), by decide, fun s h => (by cases h), rfl, by decide, by decide⟩
