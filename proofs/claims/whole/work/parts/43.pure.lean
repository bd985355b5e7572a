theorem up4 {j : Nat} (hj : j < 4) : upd (upd (upd (upd (fun _ => 0) 0 16) 1 16) 2 16) 3 16 j = (fun _ : Nat => (16 : Int32)) j := by
  rcases c4 hj with rfl | rfl | rfl | rfl <;> rfl
