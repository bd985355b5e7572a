section WBD
variable {h0 qa qn qx qy : Nat} {cI cF : ClassId} {fa ar ln : Nat → Nat} {wd ht rw : Nat → Int32} {g : Nat → Nat → Int32} {nu : Nat → Int32} {X Y : Int32 × Int32 × Int32} {tg : Nat} {so pa : Option Nat} {ru : Int32}
theorem wb_put {t : Nat} (h : t < 4) (f : Nat → Int32) : ((w_bc h0 qa qn qx qy cI cF fa ar ln wd ht rw g nu X Y tg so pa ru).set (5 + t) (fa t, .inr (0, [.int (wd t), .int (ht t), .int (rw t), .ref (ar t)]))).set (9 + t) (ar t, .inl (cI, ln t, .inl f)) = w_bc h0 qa qn qx qy cI cF fa ar ln wd ht rw (va_up g t f) nu X Y tg so pa ru := by
  rcases c4 h with rfl | rfl | rfl | rfl <;> rfl
theorem wb_form {t : Nat} (h : t < 4) (w1 h1 r1 : Int32) (b n : Nat) (f : Nat → Int32) : ((w_bc h0 qa qn qx qy cI cF fa ar ln wd ht rw g nu X Y tg so pa ru).set (5 + t) (fa t, .inr (0, [.int w1, .int h1, .int r1, .ref b]))).set (9 + t) (b, .inl (cI, n, .inl f)) = w_bc h0 qa qn qx qy cI cF fa (va_up ar t b) (va_up ln t n) (va_up wd t w1) (va_up ht t h1) (va_up rw t r1) (va_up g t f) nu X Y tg so pa ru := by
  rcases c4 h with rfl | rfl | rfl | rfl <;> rfl
end WBD
theorem RC.form {wN hN : Nat → Nat} {Bt : Nat → Nat → Nat → Bool} {nz : Nat → Int} {tg : Nat} {so pa : Option Nat} {ru : Int32} {ln : Nat → Nat} {wd ht rw : Nat → Int32} {g : Nat → Nat → Int32} {nu : Nat → Int32} (h : RC wN hN Bt nz tg so pa ru ln wd ht rw g nu) {t n : Nat} {w1 h1 r1 nd : Int32} (a1 : 1 ≤ w1.toInt ∧ w1.toInt ≤ 64000) (a2 : 1 ≤ h1.toInt ∧ h1.toInt ≤ 4000) (a3 : r1.toInt = (w1.toInt + 15) / 16) (a4 : nd.toInt = ((w1.toInt + 15) / 16) * h1.toInt) (a5 : nd.toInt ≤ (n : Int)) (a6 : 16 ≤ n ∧ n ≤ 4000) :
    RC (va_up wN t w1.toInt.toNat) (va_up hN t h1.toInt.toNat) (va_up Bt t (fun _ _ => false)) nz tg so pa ru (va_up ln t n) (va_up wd t w1) (va_up ht t h1) (va_up rw t r1) (va_up g t (fun _ => 0)) nu := by
  obtain ⟨hF, hrest⟩ := h
  refine ⟨fun f hf => ?_, hrest⟩
  by_cases q : f = t
  · subst q
    have e : rN (va_up wN f w1.toInt.toNat) f = (w1.toInt.toNat + 15) / 16 := by unfold rN; rw [va_up_self]
    have hm : (((w1.toInt.toNat + 15) / 16 * h1.toInt.toNat : Nat) : Int) = ((w1.toInt + 15) / 16) * h1.toInt := by
      rw [Int.natCast_mul, Int.toNat_of_nonneg (by omega)]; congr 1; omega
    rw [e]
    simp only [va_up_self]
    refine ⟨by omega, by omega, by omega, by omega, by omega, by omega, a6.1, a6.2, by omega, by omega, RF_blank⟩
  · have e : rN (va_up wN t w1.toInt.toNat) f = rN wN f := by unfold rN; rw [va_up_ne _ _ q]
    rw [e]
    simp only [va_up_ne _ _ q]
    exact hF f hf
/-- a word put, as bits -/
def putB (r i : Nat) (v : Int32) (B : Nat → Nat → Bool) : Nat → Nat → Bool := fun x Y => if Y = i / r ∧ x / 16 = i % r then bt v (15 - x % 16) else B x Y
theorem RF.cg {g : Nat → Int32} {rw wd ht : Nat} {B B' : Nat → Nat → Bool} (h : RF g rw wd ht B) (e : ∀ x y, x < wd → y < ht → B x y = B' x y) : RF g rw wd ht B' := by
  refine ⟨h.1, fun x y hx hy => ?_⟩
  rw [h.2 x y hx hy]
  by_cases q : x < wd
  · rw [e x y q hy]
  · rw [decide_eq_false q, Bool.false_and, Bool.false_and]
theorem RC.put {wN hN : Nat → Nat} {Bt : Nat → Nat → Nat → Bool} {nz : Nat → Int} {tg : Nat} {so pa : Option Nat} {ru : Int32} {ln : Nat → Nat} {wd ht rw : Nat → Int32} {g : Nat → Nat → Int32} {nu : Nat → Int32} (h : RC wN hN Bt nz tg so pa ru ln wd ht rw g nu) {t i : Nat} {u v : Int32} (h4 : t < 4) (hi : i < rN wN t * hN t) (hu : ∀ j, j < 32 → bt u j = (bt v j && (decide (j < 16) && decide (16 * ((i : Int) % (rw t).toInt) + 15 - j < (wd t).toInt)))) :
    RC wN hN (va_up Bt t (putB (rN wN t) i v (Bt t))) nz tg so pa ru ln wd ht rw (va_up g t (upd (g t) i u)) nu := by
  obtain ⟨hF, -⟩ := id h
  refine h.bits (fun f hf => ?_)
  by_cases q : f = t
  · subst q
    obtain ⟨a1, a2, a3, a4, a5, a6, a7, a8, a9, a10, a11⟩ := hF f hf
    rw [va_up_self, va_up_self]
    have r0 : 0 < rN wN f := by unfold rN; omega
    have hk : i % rN wN f < rN wN f := Nat.mod_lt _ r0
    have hy : i / rN wN f < hN f := Nat.div_lt_of_lt_mul hi
    have hd : i / rN wN f * rN wN f + i % rN wN f = i := by rw [Nat.mul_comm]; exact Nat.div_add_mod i _
    have hmod : (i : Int) % (rw f).toInt = ((i % rN wN f : Nat) : Int) := by rw [a3]; exact (Int.natCast_emod i _).symm
    rw [hmod, a1] at hu
    have hp := RF_put (w := u) hk hy a11 (fun j hj => by
      rcases Nat.lt_or_ge j 32 with z | z
      · rw [hu j z, decide_eq_false (by omega), Bool.false_and, Bool.and_false]
      · exact b_big z) (fun j hj hw => by rw [hu j (by omega), decide_eq_false (p := 16 * _ + 15 - (j : Int) < _) (by omega), Bool.and_false, Bool.and_false])
    rw [hd] at hp
    refine hp.cg (fun x y hx hy => ?_)
    unfold putB
    by_cases c : y = i / rN wN f ∧ x / 16 = i % rN wN f
    · rw [if_pos c, if_pos c, hu _ (by omega), decide_eq_true (by omega), decide_eq_true (by omega), Bool.true_and, Bool.and_true]
    · rw [if_neg c, if_neg c]
  · rw [va_up_ne _ _ q, va_up_ne _ _ q]
    exact (hF f hf).2.2.2.2.2.2.2.2.2.2
def ofm (z : Int) : Option Nat := if 0 ≤ z ∧ z < 4 then some z.toNat else none
theorem ofm_s {z : Int} {t : Nat} (h : z = (t : Int)) (h4 : t < 4) : ofm z = some t := by unfold ofm; rw [if_pos (by omega)]; congr 1; omega
theorem ofm_n {z : Int} (h : z < 0 ∨ 4 ≤ z) : ofm z = none := by unfold ofm; rw [if_neg (by omega)]
theorem ofm_lt {z : Int} {s : Nat} (h : ofm z = some s) : s < 4 ∧ z = (s : Int) := by
  unfold ofm at h
  by_cases q : 0 ≤ z ∧ z < 4
  · rw [if_pos q] at h; cases h; omega
  · rw [if_neg q] at h; cases h
theorem RC.tgt {wN hN : Nat → Nat} {Bt : Nat → Nat → Nat → Bool} {nz : Nat → Int} {tg t : Nat} {so pa : Option Nat} {ru : Int32} {ln : Nat → Nat} {wd ht rw : Nat → Int32} {g : Nat → Nat → Int32} {nu : Nat → Int32} (h : RC wN hN Bt nz tg so pa ru ln wd ht rw g nu) (ht4 : t < 4) : RC wN hN Bt nz t so pa ru ln wd ht rw g nu :=
  ⟨h.1, h.2.1, ht4, h.2.2.2⟩
theorem wn_pos (w h : Int) : w < 1 ∨ h < 1 ∨ 1 ≤ ((w + 15) / 16) * h := by
  rcases Int.lt_or_le w 1 with a | a
  · exact Or.inl a
  · rcases Int.lt_or_le h 1 with b | b
    · exact Or.inr (Or.inl b)
    · refine Or.inr (Or.inr ?_)
      have h1 : 1 ≤ (w + 15) / 16 := by omega
      have h2 : (w + 15) / 16 * 1 ≤ (w + 15) / 16 * h := Int.mul_le_mul_of_nonneg_left b (by omega)
      omega
