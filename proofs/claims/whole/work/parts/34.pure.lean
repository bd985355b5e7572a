theorem sar1 {x y v r : Int32} {a : Nat} (hy : y.toInt = (a : Int)) (ha : a < 32) (hv : v = x >>> (y &&& 31)) (hr : r = v &&& 1) : r.toInt = (b1 (bt x a) : Int) := by
  rw [hr, and1, b_sark hy ha hv]
  unfold b1
  split <;> rfl
theorem b1_le (b : Bool) : b1 b ≤ 1 := by unfold b1; split <;> omega
theorem b_32768 (i : Nat) : bt 32768 i = decide (i = 15) := by
  rcases Nat.lt_or_ge i 32 with h | h
  · exact (by decide +kernel : ∀ i, i < 32 → bt 32768 i = decide (i = 15)) i h
  · rw [b_big h, decide_eq_false (by omega)]
theorem one_bt {y v : Int32} {a : Nat} (hy : y.toInt = (a : Int)) (ha : a < 16) (hv : v = (32768 : Int32) >>> (y &&& 31)) {j : Nat} (hj : j < 32) : bt v j = decide (j = 15 - a) := by
  have e := ti_nI hy
  subst e
  rw [hv, b_sshr a (by omega) _ hj]
  by_cases q : a + j < 32
  · rw [if_pos q, b_32768]; exact decide_eq_decide.mpr (by omega)
  · rw [if_neg q, b_32768, decide_eq_false (by omega), decide_eq_false (by omega)]
theorem lt_sX {n : Nat} {P : Nat → Prop} (h : ∃ j, j < n ∧ ¬ P j) : ∃ j, j < n + 1 ∧ ¬ P j := by
  obtain ⟨j, h1, h2⟩ := h
  exact ⟨j, by omega, h2⟩
theorem mw_hi {wN hN : Nat → Nat} {Bt : Nat → Nat → Nat → Bool} {ws : Nat → Int32} (h : ∀ f, f < 4 → RF (mw ws f) (rN wN f) (wN f) (hN f) (Bt f)) : ∀ i j, 16 ≤ j → bt (ws i) j = false := by
  intro i j hj
  have := (h 0 (by omega)).1 i j hj
  unfold mw at this
  rw [show 4000 * 0 + i = i by omega] at this
  exact this
theorem mw_upd {ws : Nat → Int32} {f t i : Nat} {v : Int32} (h4 : f < 4) (hi : i < 4000) (j : Nat) (hj : j < 4000) : mw (upd ws (4000 * t + i) v) f j = if f = t ∧ j = i then v else mw ws f j := by
  unfold mw
  show (if 4000 * f + j = 4000 * t + i then v else ws (4000 * f + j)) = _
  by_cases q : f = t ∧ j = i
  · obtain ⟨rfl, rfl⟩ := q
    rw [if_pos rfl, if_pos ⟨rfl, rfl⟩]
  · rw [if_neg (by omega), if_neg q]
/-- words alike within the form: bits alike -/
theorem RF.words {g g' : Nat → Int32} {rw wd ht : Nat} {B : Nat → Nat → Bool} (h : RF g rw wd ht B) (hi : ∀ i j, 16 ≤ j → bt (g' i) j = false) (e : ∀ i, i < rw * ht → g' i = g i) : RF g' rw wd ht B := by
  refine ⟨hi, fun x y hx hy => ?_⟩
  rw [← h.2 x y hx hy]
  unfold BV
  rw [e _ (rc_lt (by omega) hy)]
section RMS
variable {wN hN : Nat → Nat} {Bt : Nat → Nat → Nat → Bool} {nz : Nat → Int} {tn : Nat} {sn pn : Option Nat} {rA : Int32} {wd ht ws nu : Nat → Int32} {tg so pa ru : Int32}
theorem RM.num (h : RM wN hN Bt nz tn sn pn rA wd ht ws nu tg so pa ru) {i : Nat} {v : Int32} {z : Int} (hv : v.toInt = z) (hz : -32768 ≤ z ∧ z ≤ 32767) : RM wN hN Bt (va_up nz i z) tn sn pn rA wd ht ws (upd nu i v) tg so pa ru := by
  obtain ⟨h1, h2, hrest⟩ := h
  refine ⟨h1, fun k hk => ?_, hrest⟩
  show (if k = i then v else nu k).toInt = (if k = i then z else nz k) ∧ _
  by_cases q : k = i
  · subst q
    rw [if_pos rfl, if_pos rfl, va_up_self]; exact ⟨hv, hz⟩
  · rw [if_neg q, if_neg q, va_up_ne _ _ q]; exact h2 k hk
theorem RM.bits (h : RM wN hN Bt nz tn sn pn rA wd ht ws nu tg so pa ru) {Bt' : Nat → Nat → Nat → Bool} {ws' : Nat → Int32} (hF : ∀ f, f < 4 → RF (mw ws' f) (rN wN f) (wN f) (hN f) (Bt' f)) : RM wN hN Bt' nz tn sn pn rA wd ht ws' nu tg so pa ru := by
  obtain ⟨h1, hrest⟩ := h
  refine ⟨fun f hf => ?_, hrest⟩
  obtain ⟨a1, a2, a3, a4, a5, a6, a7, a8⟩ := h1 f hf
  exact ⟨a1, a2, a3, a4, a5, a6, a7, hF f hf⟩
theorem RM.rf (h : RM wN hN Bt nz tn sn pn rA wd ht ws nu tg so pa ru) : ∀ f, f < 4 → RF (mw ws f) (rN wN f) (wN f) (hN f) (Bt f) := fun f hf => (h.1 f hf).2.2.2.2.2.2.2
/-- a word of a form is set, its bits being B' -/
theorem RM.word (h : RM wN hN Bt nz tn sn pn rA wd ht ws nu tg so pa ru) {t i : Nat} {v : Int32} {B' : Nat → Nat → Bool} (h4 : t < 4) (hi : i < rN wN t * hN t) (hv : ∀ j, 16 ≤ j → bt v j = false) (hB : RF (upd (mw ws t) i v) (rN wN t) (wN t) (hN t) B') : RM wN hN (va_up Bt t B') nz tn sn pn rA wd ht (upd ws (4000 * t + i) v) nu tg so pa ru := by
  have hr := h.rf
  have hws := mw_hi hr
  have h40 := (h.1 t h4).2.2.2.2.1
  have hhi : ∀ i' j, 16 ≤ j → bt (upd ws (4000 * t + i) v i') j = false := by
    intro i' j hj
    show bt (if i' = 4000 * t + i then v else ws i') j = false
    by_cases q : i' = 4000 * t + i
    · rw [if_pos q]; exact hv j hj
    · rw [if_neg q]; exact hws i' j hj
  refine h.bits (fun f hf => ?_)
  have h4f := (h.1 f hf).2.2.2.2.1
  by_cases q : f = t
  · subst q
    rw [va_up_self]
    refine hB.words (fun i' j hj => hhi _ j hj) (fun k hk => ?_)
    rw [mw_upd hf (by omega) k (by omega)]
    show _ = if k = i then v else mw ws f k
    by_cases z : k = i
    · rw [if_pos ⟨rfl, z⟩, if_pos z]
    · rw [if_neg (fun c => z c.2), if_neg z]
  · rw [va_up_ne _ _ q]
    refine (hr f hf).words (fun i' j hj => hhi _ j hj) (fun k hk => ?_)
    rw [mw_upd hf (by omega) k (by omega), if_neg (fun c => q c.1)]
theorem RM.put (h : RM wN hN Bt nz tn sn pn rA wd ht ws nu tg so pa ru) {t i : Nat} {u v : Int32} (h4 : t < 4) (hi : i < rN wN t * hN t) (hu : ∀ j, j < 32 → bt u j = (bt v j && (decide (j < 16) && decide (16 * ((i : Int) % (rN wN t : Int)) + 15 - j < (wN t : Int))))) : RM wN hN (va_up Bt t (putB (rN wN t) i v (Bt t))) nz tn sn pn rA wd ht (upd ws (4000 * t + i) u) nu tg so pa ru := by
  obtain ⟨a1, a2, a4, a5, a6, a9, a10, a11⟩ := h.1 t h4
  have r0 : 0 < rN wN t := by unfold rN; omega
  have hk : i % rN wN t < rN wN t := Nat.mod_lt _ r0
  have hy : i / rN wN t < hN t := Nat.div_lt_of_lt_mul hi
  have hd : i / rN wN t * rN wN t + i % rN wN t = i := by rw [Nat.mul_comm]; exact Nat.div_add_mod i _
  have hmod : (i : Int) % (rN wN t : Int) = ((i % rN wN t : Nat) : Int) := (Int.natCast_emod i _).symm
  rw [hmod] at hu
  have hhi : ∀ j, 16 ≤ j → bt u j = false := fun j hj => by
    rcases Nat.lt_or_ge j 32 with z | z
    · rw [hu j z, decide_eq_false (by omega), Bool.false_and, Bool.and_false]
    · exact b_big z
  have hp := RF_put (w := u) hk hy a11 hhi (fun j hj hw => by rw [hu j (by omega), decide_eq_false (p := 16 * _ + 15 - (j : Int) < _) (by omega), Bool.and_false, Bool.and_false])
  rw [hd] at hp
  refine h.word h4 hi hhi (hp.cg (fun x y hx hy => ?_))
  unfold putB
  by_cases c : y = i / rN wN t ∧ x / 16 = i % rN wN t
  · rw [if_pos c, if_pos c, hu _ (by omega), decide_eq_true (by omega), decide_eq_true (by omega), Bool.true_and, Bool.and_true]
  · rw [if_neg c, if_neg c]
theorem RM.form (h : RM wN hN Bt nz tn sn pn rA wd ht ws nu tg so pa ru) {t : Nat} {w1 h1 : Int32} (h4 : t < 4) (a1 : 1 ≤ w1.toInt ∧ w1.toInt ≤ 64000) (a2 : 1 ≤ h1.toInt ∧ h1.toInt ≤ 4000) (a3 : ((w1.toInt + 15) / 16) * h1.toInt ≤ 4000) : RM (va_up wN t w1.toInt.toNat) (va_up hN t h1.toInt.toNat) (va_up Bt t (fun _ _ => false)) nz tn sn pn rA (upd wd t w1) (upd ht t h1) (fun j => if 4000 * t ≤ j ∧ j < 4000 * t + 4000 then 0 else ws j) nu tg so pa ru := by
  have hr := h.rf
  have hws := mw_hi hr
  obtain ⟨hF, hrest⟩ := h
  refine ⟨fun f hf => ?_, hrest⟩
  have hhi : ∀ i j, 16 ≤ j → bt (mw (fun j => if 4000 * t ≤ j ∧ j < 4000 * t + 4000 then 0 else ws j) f i) j = false := by
    intro i j hj
    unfold mw
    show bt (if _ then _ else _) j = false
    by_cases q : 4000 * t ≤ 4000 * f + i ∧ 4000 * f + i < 4000 * t + 4000
    · rw [if_pos q]; exact b_0 j
    · rw [if_neg q]; exact hws _ j hj
  by_cases q : f = t
  · subst q
    have e : rN (va_up wN f w1.toInt.toNat) f = (w1.toInt.toNat + 15) / 16 := by unfold rN; rw [va_up_self]
    have hm : (((w1.toInt.toNat + 15) / 16 * h1.toInt.toNat : Nat) : Int) = ((w1.toInt + 15) / 16) * h1.toInt := by
      rw [Int.natCast_mul, Int.toNat_of_nonneg (by omega)]; congr 1; omega
    rw [e]
    simp only [va_up_self, pk_us]
    refine ⟨by omega, by omega, by omega, by omega, by omega, by omega, by omega, (RF_blank (rw := (w1.toInt.toNat + 15) / 16)).words hhi (fun i hi => ?_)⟩
    unfold mw
    show (if _ then _ else _) = _
    rw [if_pos (by omega)]
  · have e : rN (va_up wN t w1.toInt.toNat) f = rN wN f := by unfold rN; rw [va_up_ne _ _ q]
    rw [e]
    simp only [va_up_ne _ _ q, pk_un q]
    obtain ⟨b1, b2, b3, b4, b5, b6, b7, b8⟩ := hF f hf
    refine ⟨b1, b2, b3, b4, b5, b6, b7, b8.words hhi (fun i hi => ?_)⟩
    unfold mw
    show (if _ then _ else _) = _
    rw [if_neg (by omega)]
end RMS
