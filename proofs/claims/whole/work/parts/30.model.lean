/-! ===== the reference's cells ===== -/
abbrev tyM (cI : ClassId) : List (ClassId × FieldType) := [(cI, .int)]
def w_md (m0 a1 a2 a3 a4 a5 a6 : Nat) (cI : ClassId) (wd ht ws bf mk nu : Nat → Int32) (tg so pa ru : Int32) : va_W :=
  [(m0, .inr (3, [.ref a1, .ref a2, .ref a3, .ref a4, .ref a5, .int tg, .int so, .int pa, .int ru, .ref a6])), (a1, .inl (cI, 4, .inl wd)), (a2, .inl (cI, 4, .inl ht)), (a3, .inl (cI, 16000, .inl ws)), (a4, .inl (cI, 4000, .inl bf)), (a5, .inl (cI, 16, .inl mk)), (a6, .inl (cI, 10, .inl nu))]
def oz (o : Option Nat) : Int := match o with
  | none => -1
  | some s => (s : Int)
/-- a form's words within the reference's one array -/
def mw (ws : Nat → Int32) (f : Nat) : Nat → Int32 := fun i => ws (4000 * f + i)
def RM (wN hN : Nat → Nat) (Bt : Nat → Nat → Nat → Bool) (nz : Nat → Int) (tn : Nat) (sn pn : Option Nat) (rA : Int32) (wd ht ws nu : Nat → Int32) (tg so pa ru : Int32) : Prop :=
  (∀ f, f < 4 → (wd f).toInt = (wN f : Int) ∧ (ht f).toInt = (hN f : Int) ∧ 1 ≤ wN f ∧ 1 ≤ hN f ∧ rN wN f * hN f ≤ 4000 ∧ wN f ≤ 64000 ∧ hN f ≤ 4000 ∧ RF (mw ws f) (rN wN f) (wN f) (hN f) (Bt f)) ∧
  (∀ i, i < 10 → (nu i).toInt = nz i ∧ -32768 ≤ nz i ∧ nz i ≤ 32767) ∧ tg.toInt = (tn : Int) ∧ tn < 4 ∧ so.toInt = oz sn ∧ (∀ s, sn = some s → s < 4) ∧ pa.toInt = oz pn ∧ (∀ q, pn = some q → q < 4) ∧ ru = rA ∧ 0 ≤ ru.toInt ∧ ru.toInt < 16
theorem oz_lo {o : Option Nat} (h : ∀ s, o = some s → s < 4) : -1 ≤ oz o ∧ oz o < 4 := by
  cases o with
  | none => exact ⟨by decide, by decide⟩
  | some s => have := h s rfl; unfold oz; dsimp only; omega
theorem oz_none {o : Option Nat} (h : oz o = -1) : o = none := by
  cases o with
  | none => rfl
  | some s => unfold oz at h; dsimp only at h; omega
theorem oz_some {o : Option Nat} (h : oz o ≠ -1) : ∃ s, o = some s ∧ oz o = (s : Int) := by
  cases o with
  | none => exact absurd rfl h
  | some s => exact ⟨s, rfl, rfl⟩
theorem tl_i {x : Int32} {y : Int64} (h : y = x.toInt64) : y.toInt = x.toInt := by rw [h]; exact Int32.toInt_toInt64 x
theorem tl_bm {z : Int} (h1 : -9223372036854775808 ≤ z) (h2 : z ≤ 9223372036854775807) : z.bmod (2 ^ 64) = z := by
  have e : (2 ^ 64 : Nat) = 18446744073709551616 := by decide
  rw [e]
  exact Int.bmod_eq_of_le (by omega) (by omega)
theorem tl_add {x y : Int64} {a b : Int} (hx : x.toInt = a) (hy : y.toInt = b) (h1 : -9223372036854775808 ≤ a + b) (h2 : a + b ≤ 9223372036854775807) : (x + y).toInt = a + b := by
  rw [Int64.toInt_add, hx, hy]; exact tl_bm h1 h2
theorem tl_mul {x y : Int64} {a b : Int} (hx : x.toInt = a) (hy : y.toInt = b) (h1 : -9223372036854775808 ≤ a * b) (h2 : a * b ≤ 9223372036854775807) : (x * y).toInt = a * b := by
  rw [Int64.toInt_mul, hx, hy]; exact tl_bm h1 h2
theorem tl_div {x y : Int64} {a b : Int} (hx : x.toInt = a) (hy : y.toInt = b) (h1 : 0 ≤ a) (h2 : 0 < b) : (x / y).toInt = a / b := by
  have h3 := Int64.toInt_lt x
  have h4 : (a / b) ≤ a := Int.ediv_le_self b h1
  have h5 : 0 ≤ a / b := Int.ediv_nonneg h1 (by omega)
  rw [Int64.toInt_div, hx, hy, Int.tdiv_eq_ediv_of_nonneg h1]; exact tl_bm (by omega) (by omega)
theorem tl_cmp {x y : Int64} {a b : Int} {z : Int32} (hx : x.toInt = a) (hy : y.toInt = b) (h : z = lg_cmp x y) : (z.toInt = 1 ∧ b < a) ∨ (z.toInt = 0 ∧ a = b) ∨ (z.toInt = -1 ∧ a < b) := by
  subst h
  have h1 : x < y ↔ a < b := by rw [← hx, ← hy]; exact Int64.lt_iff_toInt_lt
  have h2 : y < x ↔ b < a := by rw [← hx, ← hy]; exact Int64.lt_iff_toInt_lt
  have h3 : x = y ↔ a = b := by rw [← hx, ← hy]; exact Int64.toInt_inj.symm
  unfold lg_cmp
  by_cases c1 : x > y
  · rw [if_pos c1]; exact Or.inl ⟨by decide, h2.mp c1⟩
  · rw [if_neg c1]
    by_cases c2 : x = y
    · rw [if_pos c2]; exact Or.inr (Or.inl ⟨by decide, h3.mp c2⟩)
    · rw [if_neg c2]
      have q1 := mt h2.mpr c1
      have q2 := mt h3.mpr c2
      exact Or.inr (Or.inr ⟨by decide, by omega⟩)
/-- greatest and least of three, closed to omega -/
def gr3 (a b c : Int) : Int := max (max a b) c
def le3 (a b c : Int) : Int := min (min a b) c
theorem gr3_cg {a b c a' b' c' r : Int} (h : r = gr3 a b c) (ha : a = a') (hb : b = b') (hc : c = c') : r = max (max a' b') c' := by subst ha hb hc; exact h
theorem le3_cg {a b c a' b' c' r : Int} (h : r = le3 a b c) (ha : a = a') (hb : b = b') (hc : c = c') : r = min (min a' b') c' := by subst ha hb hc; exact h
