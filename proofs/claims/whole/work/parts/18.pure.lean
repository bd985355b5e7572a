/-! ===== a line, by the document's words ===== -/
def sgn (z : Int) : Int := if 0 < z then 1 else if z < 0 then -1 else 0
def lnR (wN hN : Nat → Nat) (tg : Nat) (so pa : Option Nat) (ru : Int32) (ax : Nat) (way side : Int) : Nat → Int → (Nat → Int) → (Nat → Nat → Nat → Bool) → Int32 → (Nat → Int) × (Nat → Nat → Nat → Bool) × Int32
  | 0, _, nz, B, c => (nz, B, c)
  | n + 1, rs, nz, B, c =>
    if -32768 ≤ nz ax + sgn way ∧ nz ax + sgn way ≤ 32767 then
      if rs - max side (-side) < 0 then
        if -32768 ≤ va_up nz ax (nz ax + sgn way) (1 - ax) + sgn side ∧ va_up nz ax (nz ax + sgn way) (1 - ax) + sgn side ≤ 32767 then
          if n = 0 then (va_up (va_up nz ax (nz ax + sgn way)) (1 - ax) (va_up nz ax (nz ax + sgn way) (1 - ax) + sgn side), B, c)
          else lnR wN hN tg so pa ru ax way side n (rs - max side (-side) + max way (-way)) (va_up (va_up nz ax (nz ax + sgn way)) (1 - ax) (va_up nz ax (nz ax + sgn way) (1 - ax) + sgn side)) (cpA wN hN (va_up (va_up nz ax (nz ax + sgn way)) (1 - ax) (va_up nz ax (nz ax + sgn way) (1 - ax) + sgn side)) tg so pa ru B) (c + Int32.ofInt (cnA wN hN (va_up (va_up nz ax (nz ax + sgn way)) (1 - ax) (va_up nz ax (nz ax + sgn way) (1 - ax) + sgn side)) tg so))
        else (va_up nz ax (nz ax + sgn way), B, c)
      else
        if n = 0 then (va_up nz ax (nz ax + sgn way), B, c)
        else lnR wN hN tg so pa ru ax way side n (rs - max side (-side)) (va_up nz ax (nz ax + sgn way)) (cpA wN hN (va_up nz ax (nz ax + sgn way)) tg so pa ru B) (c + Int32.ofInt (cnA wN hN (va_up nz ax (nz ax + sgn way)) tg so))
    else (nz, B, c)
/-- a whole line along an axis -/
def lnA (wN hN : Nat → Nat) (tg : Nat) (so pa : Option Nat) (ru : Int32) (ax : Nat) (way side : Int) (nz : Nat → Int) (B : Nat → Nat → Nat → Bool) : (Nat → Int) × (Nat → Nat → Nat → Bool) × Int32 :=
  lnR wN hN tg so pa ru ax way side (max way (-way)).toNat (max way (-way) / 2) nz (cpA wN hN nz tg so pa ru B) (Int32.ofInt (cnA wN hN nz tg so))
theorem ofI_of {r : Int32} {z : Int} (h : r.toInt = z) : r = Int32.ofInt z := by rw [← h]; exact (Int32.ofInt_toInt r).symm
section LNR
variable {wN hN : Nat → Nat} {tg : Nat} {so pa : Option Nat} {ru : Int32} {ax : Nat} {way side rs : Int} {n : Nat} {nz : Nat → Int} {B : Nat → Nat → Nat → Bool} {c : Int32}
theorem lnR_out (h : ¬ (-32768 ≤ nz ax + sgn way ∧ nz ax + sgn way ≤ 32767)) : lnR wN hN tg so pa ru ax way side (n + 1) rs nz B c = (nz, B, c) := by
  unfold lnR; rw [if_neg h]
theorem lnR_flat (h : -32768 ≤ nz ax + sgn way ∧ nz ax + sgn way ≤ 32767) (h2 : ¬ rs - max side (-side) < 0) : lnR wN hN tg so pa ru ax way side (n + 1) rs nz B c = if n = 0 then (va_up nz ax (nz ax + sgn way), B, c) else lnR wN hN tg so pa ru ax way side n (rs - max side (-side)) (va_up nz ax (nz ax + sgn way)) (cpA wN hN (va_up nz ax (nz ax + sgn way)) tg so pa ru B) (c + Int32.ofInt (cnA wN hN (va_up nz ax (nz ax + sgn way)) tg so)) := by
  conv => lhs; unfold lnR
  rw [if_pos h, if_neg h2]
theorem lnR_aside_out (h : -32768 ≤ nz ax + sgn way ∧ nz ax + sgn way ≤ 32767) (h2 : rs - max side (-side) < 0) (h3 : ¬ (-32768 ≤ va_up nz ax (nz ax + sgn way) (1 - ax) + sgn side ∧ va_up nz ax (nz ax + sgn way) (1 - ax) + sgn side ≤ 32767)) : lnR wN hN tg so pa ru ax way side (n + 1) rs nz B c = (va_up nz ax (nz ax + sgn way), B, c) := by
  conv => lhs; unfold lnR
  rw [if_pos h, if_pos h2, if_neg h3]
theorem lnR_aside (h : -32768 ≤ nz ax + sgn way ∧ nz ax + sgn way ≤ 32767) (h2 : rs - max side (-side) < 0) (h3 : -32768 ≤ va_up nz ax (nz ax + sgn way) (1 - ax) + sgn side ∧ va_up nz ax (nz ax + sgn way) (1 - ax) + sgn side ≤ 32767) : lnR wN hN tg so pa ru ax way side (n + 1) rs nz B c = if n = 0 then (va_up (va_up nz ax (nz ax + sgn way)) (1 - ax) (va_up nz ax (nz ax + sgn way) (1 - ax) + sgn side), B, c) else lnR wN hN tg so pa ru ax way side n (rs - max side (-side) + max way (-way)) (va_up (va_up nz ax (nz ax + sgn way)) (1 - ax) (va_up nz ax (nz ax + sgn way) (1 - ax) + sgn side)) (cpA wN hN (va_up (va_up nz ax (nz ax + sgn way)) (1 - ax) (va_up nz ax (nz ax + sgn way) (1 - ax) + sgn side)) tg so pa ru B) (c + Int32.ofInt (cnA wN hN (va_up (va_up nz ax (nz ax + sgn way)) (1 - ax) (va_up nz ax (nz ax + sgn way) (1 - ax) + sgn side)) tg so)) := by
  conv => lhs; unfold lnR
  rw [if_pos h, if_pos h2, if_pos h3]
end LNR
theorem sgn_of {r z : Int} (h : (r = 1 ∧ 0 < z) ∨ (r = -1 ∧ z < 0) ∨ (r = 0 ∧ z = 0)) : r = sgn z := by
  unfold sgn
  rcases h with h | h | h
  · rw [if_pos h.2]; exact h.1
  · rw [if_neg (by omega), if_pos h.2]; exact h.1
  · rw [if_neg (by omega), if_neg (by omega)]; exact h.1
/-- one of the order's numbers -/
theorem RC.num {wN hN : Nat → Nat} {Bt : Nat → Nat → Nat → Bool} {nz : Nat → Int} {tg : Nat} {so pa : Option Nat} {ru : Int32} {ln : Nat → Nat} {wd ht rw : Nat → Int32} {g : Nat → Nat → Int32} {nu : Nat → Int32} (h : RC wN hN Bt nz tg so pa ru ln wd ht rw g nu) {i : Nat} {v : Int32} {z : Int} (hv : v.toInt = z) (hz : -32768 ≤ z ∧ z ≤ 32767) : RC wN hN Bt (va_up nz i z) tg so pa ru ln wd ht rw g (upd nu i v) := by
  obtain ⟨h1, h2, hrest⟩ := h
  refine ⟨h1, fun k hk => ?_, hrest⟩
  show (if k = i then v else nu k).toInt = (if k = i then z else nz k) ∧ _
  by_cases q : k = i
  · subst q
    rw [if_pos rfl, if_pos rfl, va_up_self]; exact ⟨hv, hz⟩
  · rw [if_neg q, if_neg q, va_up_ne _ _ q]; exact h2 k hk
theorem or01m {r : Int32} {P Q : Prop} (h : (r.toInt = 1 ∧ P) ∨ (r.toInt = 0 ∧ Q)) : r.toInt = 0 ∨ r.toInt = 1 := or01 h
theorem or_l {r : Int32} {P Q : Prop} (h : (r.toInt = 1 ∧ P) ∨ (r.toInt = 0 ∧ Q)) (hr : r.toInt ≠ 0) : P := by
  rcases h with h | h
  · exact h.2
  · exact absurd h.1 hr
theorem or_r {r : Int32} {P Q : Prop} (h : (r.toInt = 1 ∧ P) ∨ (r.toInt = 0 ∧ Q)) (hr : r.toInt = 0) : Q := by
  rcases h with h | h
  · omega
  · exact h.2
