/-! ===== bits (rows of kit/laws/BITS.to-paste, the family 'Int32 by its bits') ===== -/
def bt (x : Int32) (i : Nat) : Bool := x.toBitVec.getLsbD i
theorem b_ext {x y : Int32} (h : ∀ i, i < 32 → bt x i = bt y i) : x = y := Int32.toBitVec_inj.mp (BitVec.eq_of_getLsbD_eq (fun i hi => h i hi))
theorem b_or (x y : Int32) (i : Nat) : bt (x ||| y) i = (bt x i || bt y i) := by unfold bt; rw [Int32.toBitVec_or, BitVec.getLsbD_or]
theorem b_and (x y : Int32) (i : Nat) : bt (x &&& y) i = (bt x i && bt y i) := by unfold bt; rw [Int32.toBitVec_and, BitVec.getLsbD_and]
theorem b_xor (x y : Int32) (i : Nat) : bt (x ^^^ y) i = (bt x i ^^ bt y i) := by unfold bt; rw [Int32.toBitVec_xor, BitVec.getLsbD_xor]
theorem b_big {x : Int32} {i : Nat} (h : 32 ≤ i) : bt x i = false := BitVec.getLsbD_of_ge _ _ h
theorem b_255 (i : Nat) : bt 255 i = decide (i < 8) := by
  rcases Nat.lt_or_ge i 32 with h | h
  · exact (by decide +kernel : ∀ i, i < 32 → bt 255 i = decide (i < 8)) i h
  · rw [b_big h, decide_eq_false (by omega)]
theorem b_65535 (i : Nat) : bt 65535 i = decide (i < 16) := by
  rcases Nat.lt_or_ge i 32 with h | h
  · exact (by decide +kernel : ∀ i, i < 32 → bt 65535 i = decide (i < 16)) i h
  · rw [b_big h, decide_eq_false (by omega)]
theorem b_m1 : ∀ i, i < 32 → bt (-1) i = true := by decide +kernel
theorem b_0 (i : Nat) : bt 0 i = false := BitVec.getLsbD_zero
theorem s_l : ∀ n, n < 32 → ((nI n &&& 31).toBitVec.smod 32).toNat = n := by decide +kernel
theorem s_u : ∀ n, n < 32 → (((nI n).toUInt32 &&& Int32.toUInt32 31).toBitVec % 32).toNat = n := by decide +kernel
theorem b_shl (n : Nat) (hn : n < 32) (x : Int32) {i : Nat} (hi : i < 32) : bt (x <<< (nI n &&& 31)) i = (decide (n ≤ i) && bt x (i - n)) := by
  unfold bt
  rw [Int32.toBitVec_shiftLeft]
  show (x.toBitVec <<< ((nI n &&& 31).toBitVec.smod 32).toNat).getLsbD i = _
  rw [s_l n hn, BitVec.getLsbD_shiftLeft]
  rcases Nat.lt_or_ge i n with h | h
  · simp [h, Nat.not_le.mpr h]
  · simp [hi, h, Nat.not_lt.mpr h]
theorem b_ushr (n : Nat) (hn : n < 32) (x : Int32) (i : Nat) : bt ((x.toUInt32 >>> ((nI n).toUInt32 &&& Int32.toUInt32 31)).toInt32) i = bt x (n + i) := by
  show (x.toUInt32 >>> ((nI n).toUInt32 &&& Int32.toUInt32 31)).toBitVec.getLsbD i = x.toUInt32.toBitVec.getLsbD (n + i)
  rw [UInt32.toBitVec_shiftRight]
  show (x.toUInt32.toBitVec >>> (((nI n).toUInt32 &&& Int32.toUInt32 31).toBitVec % 32).toNat).getLsbD i = _
  rw [s_u n hn, BitVec.getLsbD_ushiftRight]
/-! ===== mine ===== -/
theorem b_shrk {x y v : Int32} {a : Nat} (hy : y.toInt = (a : Int)) (ha : a < 32) (hv : v = (x.toUInt32 >>> (y.toUInt32 &&& Int32.toUInt32 31)).toInt32) (j : Nat) : bt v j = bt x (a + j) := by
  have e := ti_nI hy
  subst e
  rw [hv]
  exact b_ushr a ha x j
theorem b_not {x : Int32} {j : Nat} (hj : j < 32) : bt (x ^^^ (-1)) j = !bt x j := by
  rw [b_xor, b_m1 j hj]; simp
/-- spanMask's bits -/
theorem sm_bt {x y f g n r : Int32} {a b : Nat} (hx : x.toInt = (a : Int)) (hy : y.toInt = (b : Int)) (ha : a < 32) (hb : b < 32) (hf : f = ((65535 : Int32).toUInt32 >>> (x.toUInt32 &&& Int32.toUInt32 31)).toInt32) (hg : g = ((65535 : Int32).toUInt32 >>> (y.toUInt32 &&& Int32.toUInt32 31)).toInt32) (hn : n = g ^^^ (-1)) (hr : r = f &&& n) {j : Nat} (hj : j < 32) : bt r j = (decide (a + j < 16) && !decide (b + j < 16)) := by
  rw [hr, b_and, hn, b_not hj, b_shrk hx ha hf, b_shrk hy hb hg, b_65535, b_65535]
theorem sm_post {k st en x y f g n r : Int32} (h1 : 0 ≤ k.toInt) (h3 : st.toInt - 16 * k.toInt ≤ 15) (h4 : 1 ≤ en.toInt - 16 * k.toInt) (hx : x.toInt = max (st.toInt - 16 * k.toInt) 0) (hy : y.toInt = min (en.toInt - 16 * k.toInt) 16) (hf : f = ((65535 : Int32).toUInt32 >>> (x.toUInt32 &&& Int32.toUInt32 31)).toInt32) (hg : g = ((65535 : Int32).toUInt32 >>> (y.toUInt32 &&& Int32.toUInt32 31)).toInt32) (hn : n = g ^^^ (-1)) (hr : r = f &&& n) : ∀ j, j < 32 → bt r j = (decide (j < 16) && (decide (st.toInt ≤ 16 * k.toInt + 15 - j) && decide (16 * k.toInt + 15 - j < en.toInt))) := by
  intro j hj
  rw [sm_bt (a := x.toInt.toNat) (b := y.toInt.toNat) (by omega) (by omega) (by omega) (by omega) hf hg hn hr hj, Bool.eq_iff_iff]
  simp only [Bool.and_eq_true, Bool.not_eq_true', decide_eq_true_eq, decide_eq_false_iff_not]
  omega
theorem b_1 (i : Nat) : bt 1 i = decide (i = 0) := by
  rcases Nat.lt_or_ge i 32 with h | h
  · exact (by decide +kernel : ∀ i, i < 32 → bt 1 i = decide (i = 0)) i h
  · rw [b_big h, decide_eq_false (by omega)]
theorem and1 (v : Int32) : (v &&& 1).toInt = if bt v 0 then 1 else 0 := by
  have e : v &&& 1 = (if bt v 0 then 1 else 0 : Int32) := by
    refine b_ext (fun i _ => ?_)
    rw [b_and, b_1]
    by_cases q : i = 0
    · subst q
      cases bt v 0 <;> decide
    · rw [decide_eq_false q, Bool.and_false]
      cases bt v 0
      · exact (b_0 i).symm
      · show false = bt 1 i
        rw [b_1, decide_eq_false q]
  rw [e]
  cases bt v 0 <;> rfl
/-- a word's bit of a row's place x -/
def BV (g : Nat → Int32) (rw x y : Nat) : Bool := bt (g (y * rw + x / 16)) (15 - x % 16)
theorem rc_inj {rw y k Y K : Nat} (hk : k < rw) (hK : K < rw) (h : y * rw + k = Y * rw + K) : y = Y ∧ k = K := by
  have h0 : 0 < rw := by omega
  have h1 : (y * rw + k) / rw = y := by rw [Nat.mul_comm, Nat.mul_add_div h0, Nat.div_eq_of_lt hk, Nat.add_zero]
  have h2 : (Y * rw + K) / rw = Y := by rw [Nat.mul_comm, Nat.mul_add_div h0, Nat.div_eq_of_lt hK, Nat.add_zero]
  have h3 : y = Y := by rw [← h1, h, h2]
  subst h3
  exact ⟨rfl, by omega⟩
theorem rc_lt {rw y k ht : Nat} (hk : k < rw) (hy : y < ht) : y * rw + k < rw * ht := by
  have h1 : (y + 1) * rw ≤ ht * rw := Nat.mul_le_mul_right rw (by omega)
  have h2 : (y + 1) * rw = y * rw + rw := Nat.succ_mul y rw
  have h3 : ht * rw = rw * ht := Nat.mul_comm _ _
  omega
/-- one word written: the bits of all places -/
theorem BV_upd {g : Nat → Int32} {rw y k : Nat} {w : Int32} (hk : k < rw) {x Y : Nat} (hx : x < 16 * rw) : BV (upd g (y * rw + k) w) rw x Y = if Y = y ∧ x / 16 = k then bt w (15 - x % 16) else BV g rw x Y := by
  unfold BV
  by_cases h : Y = y ∧ x / 16 = k
  · obtain ⟨rfl, rfl⟩ := h
    rw [if_pos ⟨rfl, rfl⟩]
    show bt (if _ = _ then _ else _) _ = _
    rw [if_pos rfl]
  · rw [if_neg h]
    show bt (if _ = _ then _ else _) _ = _
    rw [if_neg]
    intro e
    obtain ⟨h1, h2⟩ := rc_inj (by omega) hk e
    exact h ⟨h1, h2⟩
/-- the rule on two bits -/
def rB (ru : Int32) (s d : Bool) : Bool := (bt ru 0 && (s && d)) || (bt ru 1 && (s && !d)) || (bt ru 2 && (!s && d)) || (bt ru 3 && (!s && !d))
/-- the source's bit there, 0 where it has none -/
def SB (g : Nat → Int32) (rw ht : Nat) (X Y : Int) : Bool := decide (0 ≤ X ∧ X < 16 * (rw : Int) ∧ 0 ≤ Y ∧ Y < (ht : Int)) && BV g rw X.toNat Y.toNat
/-- what comes in at x, y -/
def IB (g : Nat → Nat → Int32) (rw ht : Nat → Nat) (so pa : Option Nat) (sx sy : Int) (x y : Nat) : Bool :=
  (match so with | none => true | some s => SB (g s) (rw s) (ht s) ((x : Int) + sx) ((y : Int) + sy)) && (match pa with | none => true | some q => BV (g q) 1 (x % 16) (y % 16))
/-- words that a row's copying has written behind n of them -/
def PR (lw : Bool) (first last n k : Nat) : Prop := if lw then last < k + n else k < first + n
