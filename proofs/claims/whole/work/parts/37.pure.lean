theorem lt_s' {i : Nat} {f g : Nat → Int32} {x : Int32} (h : ∀ j, j < i → f j = g j) (hx : x = g i) : ∀ j, j < i + 1 → upd f i x j = g j := by
  intro j hj
  show (if j = i then x else f j) = g j
  by_cases q : j = i
  · rw [if_pos q, q]; exact hx
  · rw [if_neg q]; exact h j (by omega)
theorem hi_up {f : Nat → Int32} {i : Nat} {x : Int32} (h : ∀ i j, 16 ≤ j → bt (f i) j = false) (hx : ∀ j, 16 ≤ j → bt x j = false) : ∀ i' j, 16 ≤ j → bt (upd f i x i') j = false := by
  intro i' j hj
  show bt (if i' = i then x else f i') j = false
  by_cases q : i' = i
  · rw [if_pos q]; exact hx j hj
  · rw [if_neg q]; exact h i' j hj
theorem rB_sh (ru : Int32) (s d : Bool) : rB ru s d = bt ru ((1 - b1 s) * 2 + 1 - b1 d) := by
  unfold rB b1
  cases s <;> cases d <;> simp
theorem b1_z (b : Bool) : ((b1 b : Int) = 0 ↔ b = false) ∧ ((b1 b : Int) = 1 ↔ b = true) := by unfold b1; cases b <;> decide
theorem b1_inj {a b : Bool} (h : (b1 a : Int) = (b1 b : Int)) : a = b := by unfold b1 at h; cases a <;> cases b <;> simp_all
/-- one bit of a form is set -/
theorem RF_bit {g : Nat → Int32} {rw wd ht X Y : Nat} {B : Nat → Nat → Bool} {w : Int32} {b : Bool} (hX : X < wd) (hw : wd ≤ 16 * rw) (hY : Y < ht) (h : RF g rw wd ht B) (hb : ∀ j, j < 32 → bt w j = if j = 15 - X % 16 then b else bt (g (Y * rw + X / 16)) j) : RF (upd g (Y * rw + X / 16) w) rw wd ht (fun x y => if x = X ∧ y = Y then b else B x y) := by
  refine ⟨hi_up h.1 (fun j hj => ?_), fun x y hx hy => ?_⟩
  · rcases Nat.lt_or_ge j 32 with z | z
    · rw [hb j z, if_neg (by omega)]; exact h.1 _ j hj
    · exact b_big z
  · rw [BV_upd (by omega) hx]
    show _ = (decide (x < wd) && if x = X ∧ y = Y then b else B x y)
    by_cases q : y = Y ∧ x / 16 = X / 16
    · rw [if_pos q, hb _ (by omega)]
      by_cases q2 : x = X
      · subst q2
        rw [if_pos rfl, if_pos ⟨rfl, q.1⟩, decide_eq_true hX, Bool.true_and]
      · rw [if_neg (by omega), if_neg (fun z => q2 z.1)]
        have := h.2 x y hx hy
        unfold BV at this
        rw [q.1, q.2] at this
        rw [this, q.1]
    · rw [if_neg q, if_neg (fun z => q ⟨z.2, by rw [z.1]⟩)]
      exact h.2 x y hx hy
theorem cb_or {w o r : Int32} {a : Nat} (ho : ∀ j, j < 32 → bt o j = decide (j = a)) (hr : r = w ||| o) {b : Bool} (hb : b = true) : ∀ j, j < 32 → bt r j = if j = a then b else bt w j := by
  intro j hj
  rw [hr, b_or, ho j hj, hb]
  by_cases q : j = a
  · rw [if_pos q, decide_eq_true q, Bool.or_true]
  · rw [if_neg q, decide_eq_false q, Bool.or_false]
theorem cb_and {w o n r : Int32} {a : Nat} (ho : ∀ j, j < 32 → bt o j = decide (j = a)) (hn : n = o ^^^ (-1)) (hr : r = w &&& n) {b : Bool} (hb : b = false) : ∀ j, j < 32 → bt r j = if j = a then b else bt w j := by
  intro j hj
  rw [hr, b_and, hn, b_not hj, ho j hj, hb]
  by_cases q : j = a
  · rw [if_pos q, decide_eq_true q]; simp
  · rw [if_neg q, decide_eq_false q]; simp
theorem and15m {x z : Int32} {n : Nat} (hx : x.toInt = (n : Int)) (hz : z = x &&& 15) : z.toInt = ((n % 16 : Nat) : Int) := by
  have e := ti_nI hx
  have hb := ti_hi x
  subst e
  rw [hz, show (15 : Int32) = nI 15 from rfl, nx_and, and15, nI_toInt (by omega)]
/-- the reference's source bit and pattern bit -/
def srcM (B0 : Nat → Nat → Nat → Bool) (sn : Option Nat) (SX SY : Nat) : Bool := match sn with
  | none => true
  | some s => B0 s SX SY
def patM (B0 : Nat → Nat → Nat → Bool) (pn : Option Nat) (X Y : Nat) : Bool := match pn with
  | none => true
  | some q => B0 q (X % 16) (Y % 16)
def inM (B0 : Nat → Nat → Nat → Bool) (sn pn : Option Nat) (SX SY X Y : Nat) : Bool := srcM B0 sn SX SY && patM B0 pn X Y
theorem srcM_n {B0 : Nat → Nat → Nat → Bool} {sn : Option Nat} {SX SY : Nat} (h : sn = none) : srcM B0 sn SX SY = true := by subst h; rfl
theorem srcM_s {B0 : Nat → Nat → Nat → Bool} {sn : Option Nat} {s SX SY : Nat} (h : sn = some s) : srcM B0 sn SX SY = B0 s SX SY := by subst h; rfl
theorem patM_n {B0 : Nat → Nat → Nat → Bool} {pn : Option Nat} {X Y : Nat} (h : pn = none) : patM B0 pn X Y = true := by subst h; rfl
theorem patM_s {B0 : Nat → Nat → Nat → Bool} {pn : Option Nat} {q X Y : Nat} (h : pn = some q) : patM B0 pn X Y = B0 q (X % 16) (Y % 16) := by subst h; rfl
theorem bool_nf {b : Bool} (h : ¬ b = false) : b = true := by cases b <;> simp_all
theorem bool_nt {b : Bool} (h : ¬ b = true) : b = false := by cases b <;> simp_all
