theorem ca_n {nz : Nat → Int} {ax : Nat} {len L R : Int} (hL : L = max (max 0 (nz (6 + ax) - nz ax)) (-(nz ax))) (hR : R = min (min (nz (2 + ax)) (nz (6 + ax) + nz (8 + ax) - nz ax)) (len - nz ax)) : nz ax + L = stA nz ax none ∧ nz ax + R = enA nz ax len none := by
  unfold stA enA
  dsimp only
  subst hL hR
  constructor
  · omega
  · omega
theorem ca_s {nz : Nat → Int} {ax : Nat} {len S L R L2 R2 : Int} (hL : L = max (max 0 (nz (6 + ax) - nz ax)) (-(nz ax))) (hR : R = min (min (nz (2 + ax)) (nz (6 + ax) + nz (8 + ax) - nz ax)) (len - nz ax)) (hL2 : L2 = max (max L (-(nz (4 + ax)))) L) (hR2 : R2 = min (min R (S - nz (4 + ax))) R) : nz ax + L2 = stA nz ax (some S) ∧ nz ax + R2 = enA nz ax len (some S) := by
  obtain ⟨h1, h2⟩ := ca_n hL hR
  clear hL hR
  unfold stA at h1 ⊢
  unfold enA at h2 ⊢
  dsimp only at h1 h2 ⊢
  have hx0 : 0 ≤ max (max (nz ax) (nz (6 + ax))) 0 := Int.le_max_right _ _
  have hy0 : min (min (nz ax + nz (2 + ax)) (nz (6 + ax) + nz (8 + ax))) len ≤ len := Int.min_le_right _ _
  generalize max (max (nz ax) (nz (6 + ax))) 0 = x at h1 hx0 ⊢
  generalize min (min (nz ax + nz (2 + ax)) (nz (6 + ax) + nz (8 + ax))) len = y at h2 hy0 ⊢
  have e1 : nz ax + L = x := by omega
  have e2 : nz ax + R = y := by omega
  clear h1 h2
  subst hL2 hR2
  constructor
  · omega
  · omega
/-- the target's bits on the way: rows above Y, and of row Y the places before X -/
def cuB (Bt : Nat → Nat → Nat → Bool) (nz : Nat → Int) (tn : Nat) (sn pn : Option Nat) (rA : Int32) (stx exN sty Y X : Nat) : Nat → Nat → Bool := fun a b =>
  if (sty ≤ b ∧ b < Y ∧ stx ≤ a ∧ a < exN) ∨ (b = Y ∧ stx ≤ a ∧ a < X) then rB rA (inA Bt nz sn pn a b) (Bt tn a b) else Bt tn a b
theorem inM_inA {Bt : Nat → Nat → Nat → Bool} {nz : Nat → Int} {sn pn : Option Nat} {X Y : Nat} : inM Bt sn pn ((X : Int) + (nz 4 - nz 0)).toNat ((Y : Int) + (nz 5 - nz 1)).toNat X Y = inA Bt nz sn pn X Y := by
  unfold inM inA srcM patM
  cases sn <;> cases pn <;> rfl
theorem va_up_id {α : Type} (f : Nat → α) (k : Nat) : va_up f k (f k) = f := by
  funext j
  show (if j = k then f k else f j) = f j
  by_cases q : j = k
  · rw [if_pos q, q]
  · rw [if_neg q]
section CU
variable {Bt : Nat → Nat → Nat → Bool} {nz : Nat → Int} {tn : Nat} {sn pn : Option Nat} {rA : Int32} {stx exN sty Y X : Nat}
theorem cu_0 : va_up Bt tn (cuB Bt nz tn sn pn rA stx exN sty sty stx) = Bt := by
  have e : cuB Bt nz tn sn pn rA stx exN sty sty stx = Bt tn := by
    funext a b
    unfold cuB
    rw [if_neg (by omega)]
  rw [e, va_up_id]
theorem cu_step (hX : stx ≤ X) : va_up (va_up Bt tn (cuB Bt nz tn sn pn rA stx exN sty Y X)) tn (fun a b => if a = X ∧ b = Y then rB rA (inM Bt sn pn ((X : Int) + (nz 4 - nz 0)).toNat ((Y : Int) + (nz 5 - nz 1)).toNat X Y) (va_up Bt tn (cuB Bt nz tn sn pn rA stx exN sty Y X) tn X Y) else va_up Bt tn (cuB Bt nz tn sn pn rA stx exN sty Y X) tn a b) = va_up Bt tn (cuB Bt nz tn sn pn rA stx exN sty Y (X + 1)) := by
  rw [bx_uu, va_up_self, inM_inA]
  congr 1
  funext a b
  by_cases q : a = X ∧ b = Y
  · obtain ⟨rfl, rfl⟩ := q
    rw [if_pos ⟨rfl, rfl⟩]
    unfold cuB
    rw [if_neg (by omega), if_pos (by omega)]
  · rw [if_neg q]
    unfold cuB
    by_cases c : (sty ≤ b ∧ b < Y ∧ stx ≤ a ∧ a < exN) ∨ (b = Y ∧ stx ≤ a ∧ a < X)
    · rw [if_pos c, if_pos (by omega)]
    · rw [if_neg c, if_neg (by omega)]
theorem cu_row (h : sty ≤ Y) : cuB Bt nz tn sn pn rA stx exN sty Y exN = cuB Bt nz tn sn pn rA stx exN sty (Y + 1) stx := by
  funext a b
  unfold cuB
  by_cases c : (sty ≤ b ∧ b < Y ∧ stx ≤ a ∧ a < exN) ∨ (b = Y ∧ stx ≤ a ∧ a < exN)
  · rw [if_pos c, if_pos (by omega)]
  · rw [if_neg c, if_neg (by omega)]
theorem cu_end {wN hN : Nat → Nat} {eyN : Nat} (e1 : (stx : Int) = stA nz 0 (sn.map fun s => (wN s : Int))) (e2 : (exN : Int) = max (enA nz 0 (wN tn) (sn.map fun s => (wN s : Int))) (stx : Int)) (e3 : (sty : Int) = stA nz 1 (sn.map fun s => (hN s : Int))) (e4 : (eyN : Int) = max (enA nz 1 (hN tn) (sn.map fun s => (hN s : Int))) (sty : Int)) : va_up Bt tn (cuB Bt nz tn sn pn rA stx exN sty eyN stx) = cpA wN hN nz tn sn pn rA Bt := by
  funext f a b
  unfold cpA
  rw [← e1, ← e3]
  generalize enA nz 0 (wN tn) (sn.map fun s => (wN s : Int)) = x at e2 ⊢
  generalize enA nz 1 (hN tn) (sn.map fun s => (hN s : Int)) = y at e4 ⊢
  by_cases q : f = tn
  · subst q
    rw [va_up_self]
    unfold cuB
    by_cases c : (sty ≤ b ∧ b < eyN ∧ stx ≤ a ∧ a < exN) ∨ (b = eyN ∧ stx ≤ a ∧ a < stx)
    · rw [if_pos c, if_pos ⟨rfl, ⟨by omega, by omega⟩, by omega, by omega⟩]
    · rw [if_neg c, if_neg]
      intro z
      obtain ⟨-, ⟨z1, z2⟩, z3, z4⟩ := z
      exact c (by omega)
  · rw [va_up_ne _ _ q, if_neg (fun z => q z.1)]
end CU
theorem pat_rf {g : Nat → Int32} {wN hN : Nat → Nat} {B : Nat → Nat → Bool} {mk : Nat → Int32} {q : Nat} (h16 : wN q = 16 ∧ hN q = 16) (h : RF g (rN wN q) (wN q) (hN q) B) (hm : ∀ j, j < 16 → mk j = g j) (hh : ∀ i j, 16 ≤ j → bt (mk i) j = false) : RF mk 1 16 16 B := by
  have e : rN wN q = 1 := by unfold rN; rw [h16.1]
  rw [e, h16.1, h16.2] at h
  exact h.words hh (fun i hi => hm i (by omega))
theorem row_mul {Y sty : Nat} {cw : Int} (h : sty ≤ Y) : ((Y + 1 : Nat) - sty : Int) * cw = ((Y : Int) - sty) * cw + cw := by
  rw [show ((Y + 1 : Nat) - sty : Int) = ((Y : Int) - sty) + 1 by omega, Int.add_mul, Int.one_mul]
theorem src_bd {wN hN : Nat → Nat} {nz : Nat → Int} {tn s : Nat} {sn : Option Nat} (hs : sn = some s) : -(nz 4 - nz 0) ≤ stA nz 0 (sn.map fun s => (wN s : Int)) ∧ enA nz 0 (wN tn) (sn.map fun s => (wN s : Int)) ≤ (wN s : Int) - (nz 4 - nz 0) ∧ -(nz 5 - nz 1) ≤ stA nz 1 (sn.map fun s => (hN s : Int)) ∧ enA nz 1 (hN tn) (sn.map fun s => (hN s : Int)) ≤ (hN s : Int) - (nz 5 - nz 1) := by
  subst hs
  exact ⟨Int.le_max_right _ _, Int.min_le_right _ _, Int.le_max_right _ _, Int.min_le_right _ _⟩
