theorem sameM_post {g g' : Nat → Int32} {wN hN : Nat → Nat} {t t2 n0 : Nat} {B B' : Nat → Nat → Bool} {r : Int32} (hw : 1 ≤ wN t) (hww : wN t = wN t2) (hhh : hN t = hN t2) (h : RF g (rN wN t) (wN t) (hN t) B) (h' : RF g' (rN wN t2) (wN t2) (hN t2) B') (hn : n0 = rN wN t * hN t) (hc : (r.toInt = 1 ∧ ∀ j, j < n0 → g j = g' j) ∨ (r.toInt = 0 ∧ ∃ j, j < n0 ∧ ¬ g j = g' j)) :
    (r.toInt = 1 ∧ wN t = wN t2 ∧ hN t = hN t2 ∧ ∀ x y, x < wN t → y < hN t → B x y = B' x y) ∨ (r.toInt = 0 ∧ ¬ (wN t = wN t2 ∧ hN t = hN t2 ∧ ∀ x y, x < wN t → y < hN t → B x y = B' x y)) := by
  have e : rN wN t2 = rN wN t := by unfold rN; rw [hww]
  rw [e, ← hww, ← hhh] at h'
  have hi := RF_same (by unfold rN; omega) h h' (by unfold rN; omega)
  subst hn
  rcases hc with ⟨q, z⟩ | ⟨q, z⟩
  · exact Or.inl ⟨q, hww, hhh, hi.mp z⟩
  · refine Or.inr ⟨q, fun k => ?_⟩
    obtain ⟨j, h1, h2⟩ := z
    exact h2 (hi.mpr k.2.2 j h1)
theorem wn_small {w h : Int} (hw : 1 ≤ w) (hh : 1 ≤ h) (hp : ((w + 15) / 16) * h ≤ 4000) : w ≤ 64000 ∧ h ≤ 4000 := by
  have h1 : 1 ≤ (w + 15) / 16 := by omega
  have h2 : (w + 15) / 16 * 1 ≤ (w + 15) / 16 * h := Int.mul_le_mul_of_nonneg_left hh (by omega)
  have h3 : 1 * h ≤ (w + 15) / 16 * h := Int.mul_le_mul_of_nonneg_right h1 (by omega)
  omega
theorem zero_up (ws : Nat → Int32) (t n0 : Nat) : upd (fun j => if 4000 * t ≤ j ∧ j < 4000 * t + n0 then 0 else ws j) (4000 * t + n0) 0 = fun j => if 4000 * t ≤ j ∧ j < 4000 * t + (n0 + 1) then 0 else ws j := by
  funext j
  show (if j = 4000 * t + n0 then 0 else if 4000 * t ≤ j ∧ j < 4000 * t + n0 then 0 else ws j) = _
  by_cases q : j = 4000 * t + n0
  · rw [if_pos q, if_pos (by omega)]
  · rw [if_neg q]
    by_cases q2 : 4000 * t ≤ j ∧ j < 4000 * t + n0
    · rw [if_pos q2, if_pos (by omega)]
    · rw [if_neg q2, if_neg (by omega)]
theorem put_s0 {b : Bool} {j : Nat} {L : Int} : (b && decide (j < 16)) = (b && (decide (j < 16) && !(decide (15 - j < 0) && decide (L ≤ 15 - (j : Int))))) := by
  rw [decide_eq_false (p := 15 - j < 0) (by omega)]
  simp
theorem put_s1 {b : Bool} {j n0 : Nat} {L : Int} (h : (n0 : Int) < L) : (b && (decide (j < 16) && !(decide (15 - j < n0) && decide (L ≤ 15 - (j : Int))))) = (b && (decide (j < 16) && !(decide (15 - j < n0 + 1) && decide (L ≤ 15 - (j : Int))))) := by
  by_cases q : j < 16
  · congr 3
    rw [Bool.eq_iff_iff]
    simp only [Bool.and_eq_true, decide_eq_true_eq]
    omega
  · rw [decide_eq_false q, Bool.false_and, Bool.false_and]
theorem put_s2 {b : Bool} {j n0 : Nat} {L : Int} (h : L ≤ (n0 : Int) ∧ n0 < 16) : ((b && (decide (j < 16) && !(decide (15 - j < n0) && decide (L ≤ 15 - (j : Int))))) && !decide (j = 15 - n0)) = (b && (decide (j < 16) && !(decide (15 - j < n0 + 1) && decide (L ≤ 15 - (j : Int))))) := by
  rw [Bool.and_assoc, Bool.and_assoc]
  by_cases q : j < 16
  · congr 2
    rw [Bool.eq_iff_iff]
    simp only [Bool.and_eq_true, Bool.not_eq_true', Bool.and_eq_false_iff, decide_eq_true_eq, decide_eq_false_iff_not]
    omega
  · rw [decide_eq_false q, Bool.false_and, Bool.false_and]
theorem put_s3 {b : Bool} {j n0 : Nat} {L W m : Int} (hn : n0 = 16) (hL : L = W - 16 * m) : (b && (decide (j < 16) && !(decide (15 - j < n0) && decide (L ≤ 15 - (j : Int))))) = (b && (decide (j < 16) && decide (16 * m + 15 - (j : Int) < W))) := by
  by_cases q : j < 16
  · congr 2
    rw [Bool.eq_iff_iff]
    simp only [Bool.not_eq_true', Bool.and_eq_false_iff, decide_eq_true_eq, decide_eq_false_iff_not]
    omega
  · rw [decide_eq_false q, Bool.false_and, Bool.false_and]
theorem ne_ti {x y : Int32} (h : ¬ x.toInt = y.toInt) : ¬ x = y := fun q => h (by rw [q])
