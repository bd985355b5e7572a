theorem b_sshr (n : Nat) (hn : n < 32) (x : Int32) {i : Nat} (hi : i < 32) : bt (x >>> (nI n &&& 31)) i = if n + i < 32 then bt x (n + i) else bt x 31 := by
  unfold bt
  rw [Int32.toBitVec_shiftRight]
  show (x.toBitVec.sshiftRight ((nI n &&& 31).toBitVec.smod 32).toNat).getLsbD i = _
  rw [s_l n hn, BitVec.getLsbD_sshiftRight, BitVec.msb_eq_getLsbD_last]
  simp [hi]
theorem b_sark {x y v : Int32} {a : Nat} (hy : y.toInt = (a : Int)) (ha : a < 32) (hv : v = x >>> (y &&& 31)) : bt v 0 = bt x a := by
  have e := ti_nI hy
  subst e
  rw [hv, b_sshr a ha x (by omega), if_pos (by omega), Nat.add_zero]
theorem bitM_post {g : Nat → Int32} {rw X Y : Nat} {w v r sh : Int32} (hw : w = g (Y * rw + X / 16)) (hs : sh.toInt = 15 - ((X : Int) % 16)) (hv : v = w >>> (sh &&& 31)) (hr : r = v &&& 1) : r.toInt = (b1 (BV g rw X Y) : Int) := by
  have e : sh.toInt = ((15 - X % 16 : Nat) : Int) := by omega
  rw [hr, and1, b_sark e (by omega) hv, hw]
  unfold BV b1
  split <;> rfl
theorem rc_comm {r y : Int} {R Y : Nat} (h1 : r = (R : Int)) (h2 : y = (Y : Int)) : r * y = ((Y * R : Nat) : Int) := by
  rw [h1, h2, Int.natCast_mul, Int.mul_comm]
theorem word_post {g g' : Nat → Int32} {rw wd ht : Nat} {B : Nat → Nat → Bool} (h : RF g rw wd ht B) (h' : RF g' rw wd ht B) (hw : wd ≤ 16 * rw) (h0 : 0 < rw) {i : Nat} (hi : i < rw * ht) : g i = g' i := (RF_same hw h h' h0).mpr (fun _ _ _ _ => rfl) i hi
