/-! ===== class and reference stand for one state; their answers agree ===== -/
def HB (f : Nat → Int32) : Prop := ∀ i j, 16 ≤ j → bt (f i) j = false
def LI (ln : Nat → Nat) (wd ht rw : Nat → Int32) (g : Nat → Nat → Int32) (nu : Nat → Int32) (tg : Nat) (so pa : Option Nat) (ru : Int32) (wd2 ht2 ws bf mk nu2 : Nat → Int32) (t2 s2 p2 r2 : Int32) : Prop :=
  ∃ (wN hN : Nat → Nat) (Bt : Nat → Nat → Nat → Bool) (nz : Nat → Int), RC wN hN Bt nz tg so pa ru ln wd ht rw g nu ∧ RM wN hN Bt nz tg so pa ru wd2 ht2 ws nu2 t2 s2 p2 r2 ∧ HB mk ∧ HB bf
theorem oz_ofm {z : Int} (h : -1 ≤ z ∧ z < 4) : oz (ofm z) = z := by
  unfold ofm
  by_cases q : 0 ≤ z ∧ z < 4
  · rw [if_pos q]; show ((z.toNat : Nat) : Int) = z; omega
  · rw [if_neg q]; show (-1 : Int) = z; omega
section JJ
variable {wN hN : Nat → Nat} {Bt : Nat → Nat → Nat → Bool} {nz : Nat → Int} {tg : Nat} {so pa : Option Nat} {ru : Int32} {ln : Nat → Nat} {wd ht rw : Nat → Int32} {g : Nat → Nat → Int32} {nu : Nat → Int32} {wd2 ht2 ws bf mk nu2 : Nat → Int32} {t2 s2 p2 r2 : Int32} {ar : Nat → Nat} {X Y : Int32 × Int32 × Int32}
theorem J_form (hM : RM wN hN Bt nz tg so pa ru wd2 ht2 ws nu2 t2 s2 p2 r2) (hR : RC wN hN Bt nz tg so pa ru ln wd ht rw g nu) (hmk : HB mk) (hbf : HB bf) {f w1 h1 r r' : Int32} {u : (Nat → Nat) × (Nat → Nat) × (Nat → Int32) × (Nat → Int32) × (Nat → Int32) × (Nat → Nat → Int32)} {v : (Nat → Int32) × (Nat → Int32) × (Nat → Int32)}
    (h1' : (r.toInt = -1 ∧ u = (ar, ln, wd, ht, rw, g) ∧ (f.toInt < 0 ∨ 4 ≤ f.toInt ∨ w1.toInt < 1 ∨ h1.toInt < 1 ∨ 64000 < w1.toInt ∨ 4000 < h1.toInt ∨ 4000 < ((w1.toInt + 15) / 16) * h1.toInt)) ∨ (∃ t : Nat, f.toInt = (t : Int) ∧ t < 4 ∧ 1 ≤ w1.toInt ∧ 1 ≤ h1.toInt ∧ w1.toInt ≤ 64000 ∧ h1.toInt ≤ 4000 ∧ ((w1.toInt + 15) / 16) * h1.toInt ≤ 4000 ∧ r.toInt = ((w1.toInt + 15) / 16) * h1.toInt ∧ RC (va_up wN t w1.toInt.toNat) (va_up hN t h1.toInt.toNat) (va_up Bt t (fun _ _ => false)) nz tg so pa ru u.2.1 u.2.2.1 u.2.2.2.1 u.2.2.2.2.1 u.2.2.2.2.2 nu))
    (h2' : (r'.toInt = -1 ∧ v = (wd2, ht2, ws) ∧ (f.toInt < 0 ∨ 4 ≤ f.toInt ∨ w1.toInt < 1 ∨ h1.toInt < 1 ∨ 4000 < ((w1.toInt + 15) / 16) * h1.toInt)) ∨ (∃ t : Nat, f.toInt = (t : Int) ∧ t < 4 ∧ 1 ≤ w1.toInt ∧ 1 ≤ h1.toInt ∧ w1.toInt ≤ 64000 ∧ h1.toInt ≤ 4000 ∧ ((w1.toInt + 15) / 16) * h1.toInt ≤ 4000 ∧ r'.toInt = ((w1.toInt + 15) / 16) * h1.toInt ∧ RM (va_up wN t w1.toInt.toNat) (va_up hN t h1.toInt.toNat) (va_up Bt t (fun _ _ => false)) nz tg so pa ru v.1 v.2.1 v.2.2 nu2 t2 s2 p2 r2)) :
    r = r' ∧ LI u.2.1 u.2.2.1 u.2.2.2.1 u.2.2.2.2.1 u.2.2.2.2.2 nu tg so pa ru v.1 v.2.1 v.2.2 bf mk nu2 t2 s2 p2 r2 := by
  rcases h1' with ⟨a1, rfl, a3⟩ | ⟨t, a1, a2, a3, a4, a5, a6, a7, a8, a9⟩ <;> rcases h2' with ⟨b1, rfl, b3⟩ | ⟨t', b1, b2, b3, b4, b5, b6, b7, b8, b9⟩
  · exact ⟨Int32.toInt_inj.mp (by omega), wN, hN, Bt, nz, hR, hM, hmk, hbf⟩
  · omega
  · omega
  · have e : t' = t := by omega
    subst e
    exact ⟨Int32.toInt_inj.mp (by omega), _, _, _, _, a9, b9, hmk, hbf⟩
theorem J_put (hM : RM wN hN Bt nz tg so pa ru wd2 ht2 ws nu2 t2 s2 p2 r2) (hR : RC wN hN Bt nz tg so pa ru ln wd ht rw g nu) (hmk : HB mk) (hbf : HB bf) {f i w r r' : Int32} {u : Nat → Nat → Int32} {v : Nat → Int32}
    (h1' : (r.toInt = 0 ∧ u = g ∧ ((f.toInt < 0 ∨ 4 ≤ f.toInt) ∨ ∃ t : Nat, f.toInt = (t : Int) ∧ t < 4 ∧ (i.toInt < 0 ∨ ((rN wN t * hN t : Nat) : Int) ≤ i.toInt))) ∨ (∃ t : Nat, f.toInt = (t : Int) ∧ t < 4 ∧ 0 ≤ i.toInt ∧ i.toInt < ((rN wN t * hN t : Nat) : Int) ∧ r.toInt = 1 ∧ RC wN hN (va_up Bt t (putB (rN wN t) i.toInt.toNat w (Bt t))) nz tg so pa ru ln wd ht rw u nu))
    (h2' : (r'.toInt = 0 ∧ v = ws ∧ ((f.toInt < 0 ∨ 4 ≤ f.toInt) ∨ ∃ t : Nat, f.toInt = (t : Int) ∧ t < 4 ∧ (i.toInt < 0 ∨ ((rN wN t * hN t : Nat) : Int) ≤ i.toInt))) ∨ (∃ t : Nat, f.toInt = (t : Int) ∧ t < 4 ∧ 0 ≤ i.toInt ∧ i.toInt < ((rN wN t * hN t : Nat) : Int) ∧ r'.toInt = 1 ∧ RM wN hN (va_up Bt t (putB (rN wN t) i.toInt.toNat w (Bt t))) nz tg so pa ru wd2 ht2 v nu2 t2 s2 p2 r2)) :
    r = r' ∧ LI ln wd ht rw u nu tg so pa ru wd2 ht2 v bf mk nu2 t2 s2 p2 r2 := by
  rcases h1' with ⟨a1, rfl, a3⟩ | ⟨t, a1, a2, a3, a4, a5, a6⟩ <;> rcases h2' with ⟨b1, rfl, b3⟩ | ⟨t', b1, b2, b3, b4, b5, b6⟩
  · exact ⟨Int32.toInt_inj.mp (by omega), wN, hN, Bt, nz, hR, hM, hmk, hbf⟩
  · rcases a3 with a3 | ⟨t, c1, c2, c3⟩
    · omega
    · have e : t' = t := by omega
      subst e; omega
  · rcases b3 with b3 | ⟨t', c1, c2, c3⟩
    · omega
    · have e : t' = t := by omega
      subst e; omega
  · have e : t' = t := by omega
    subst e
    exact ⟨Int32.toInt_inj.mp (by omega), _, _, _, _, a6, b6, hmk, hbf⟩
theorem J_word (hM : RM wN hN Bt nz tg so pa ru wd2 ht2 ws nu2 t2 s2 p2 r2) (hR : RC wN hN Bt nz tg so pa ru ln wd ht rw g nu) {f i r r' : Int32}
    (h1' : (r.toInt = -1 ∧ (f.toInt < 0 ∨ 4 ≤ f.toInt)) ∨ (∃ t : Nat, f.toInt = (t : Int) ∧ t < 4 ∧ ((r.toInt = -1 ∧ (i.toInt < 0 ∨ ((rN wN t * hN t : Nat) : Int) ≤ i.toInt)) ∨ (0 ≤ i.toInt ∧ i.toInt < ((rN wN t * hN t : Nat) : Int) ∧ r = g t i.toInt.toNat))))
    (h2' : (r'.toInt = -1 ∧ ((f.toInt < 0 ∨ 4 ≤ f.toInt) ∨ ∃ t : Nat, f.toInt = (t : Int) ∧ t < 4 ∧ (i.toInt < 0 ∨ ((rN wN t * hN t : Nat) : Int) ≤ i.toInt))) ∨ (∃ t : Nat, f.toInt = (t : Int) ∧ t < 4 ∧ 0 ≤ i.toInt ∧ i.toInt < ((rN wN t * hN t : Nat) : Int) ∧ r' = mw ws t i.toInt.toNat)) : r = r' := by
  rcases h1' with ⟨a1, a2⟩ | ⟨t, a1, a2, ⟨a3, a4⟩ | ⟨a3, a4, a5⟩⟩ <;> rcases h2' with ⟨b1, b2⟩ | ⟨t', b1, b2, b3, b4, b5⟩
  · exact Int32.toInt_inj.mp (by omega)
  · omega
  · exact Int32.toInt_inj.mp (by omega)
  · have e : t' = t := by omega
    subst e; omega
  · rcases b2 with b2 | ⟨t', c1, c2, c3⟩
    · omega
    · have e : t' = t := by omega
      subst e; omega
  · have e : t' = t := by omega
    subst e
    rw [a5, b5]
    obtain ⟨z1, z2, z3, z4, z5, z6, z7, z8, z9, z10, z11⟩ := hR.1 t' a2
    exact word_post z11 (hM.rf t' a2) (by unfold rN; omega) (by unfold rN; omega) (by omega)
theorem J_bit {f x y r r' : Int32} (h1' : (r.toInt = -1 ∧ (f.toInt < 0 ∨ 4 ≤ f.toInt)) ∨ (∃ t : Nat, f.toInt = (t : Int) ∧ t < 4 ∧ ((r.toInt = -1 ∧ (x.toInt < 0 ∨ (wN t : Int) ≤ x.toInt ∨ y.toInt < 0 ∨ (hN t : Int) ≤ y.toInt)) ∨ (0 ≤ x.toInt ∧ x.toInt < wN t ∧ 0 ≤ y.toInt ∧ y.toInt < hN t ∧ r.toInt = (b1 (Bt t x.toInt.toNat y.toInt.toNat) : Int)))))
    (h2' : (r'.toInt = -1 ∧ (f.toInt < 0 ∨ 4 ≤ f.toInt)) ∨ (∃ t : Nat, f.toInt = (t : Int) ∧ t < 4 ∧ ((r'.toInt = -1 ∧ (x.toInt < 0 ∨ (wN t : Int) ≤ x.toInt ∨ y.toInt < 0 ∨ (hN t : Int) ≤ y.toInt)) ∨ (0 ≤ x.toInt ∧ x.toInt < wN t ∧ 0 ≤ y.toInt ∧ y.toInt < hN t ∧ r'.toInt = (b1 (Bt t x.toInt.toNat y.toInt.toNat) : Int))))) : r = r' := by
  refine Int32.toInt_inj.mp ?_
  rcases h1' with ⟨a1, a2⟩ | ⟨t, a1, a2, a3⟩ <;> rcases h2' with ⟨b1, b2⟩ | ⟨t', b1, b2, b3⟩
  · omega
  · omega
  · omega
  · have e : t' = t := by omega
    subst e
    rcases a3 with a3 | a3 <;> rcases b3 with b3 | b3 <;> omega
theorem J_count {f r r' : Int32} (h1' : (r.toInt = -1 ∧ (f.toInt < 0 ∨ 4 ≤ f.toInt)) ∨ (∃ t : Nat, f.toInt = (t : Int) ∧ t < 4 ∧ r.toInt = ((sN (fun y => sN (fun x => b1 (Bt t x y)) (wN t)) (hN t) : Nat) : Int))) (h2' : (r'.toInt = -1 ∧ (f.toInt < 0 ∨ 4 ≤ f.toInt)) ∨ (∃ t : Nat, f.toInt = (t : Int) ∧ t < 4 ∧ r'.toInt = ((sN (fun y => sN (fun x => b1 (Bt t x y)) (wN t)) (hN t) : Nat) : Int))) : r = r' := by
  refine Int32.toInt_inj.mp ?_
  rcases h1' with ⟨a1, a2⟩ | ⟨t, a1, a2, a3⟩ <;> rcases h2' with ⟨b1, b2⟩ | ⟨t', b1, b2, b3⟩
  · omega
  · omega
  · omega
  · have e : t' = t := by omega
    subst e; omega
theorem J_same {f f2 r r' : Int32} (h1' : (∃ t t2 : Nat, f.toInt = (t : Int) ∧ t < 4 ∧ f2.toInt = (t2 : Int) ∧ t2 < 4 ∧ ((r.toInt = 1 ∧ wN t = wN t2 ∧ hN t = hN t2 ∧ ∀ x y, x < wN t → y < hN t → Bt t x y = Bt t2 x y) ∨ (r.toInt = 0 ∧ ¬ (wN t = wN t2 ∧ hN t = hN t2 ∧ ∀ x y, x < wN t → y < hN t → Bt t x y = Bt t2 x y)))) ∨ (r.toInt = 0 ∧ (f.toInt < 0 ∨ 4 ≤ f.toInt ∨ f2.toInt < 0 ∨ 4 ≤ f2.toInt)))
    (h2' : (∃ t t2 : Nat, f.toInt = (t : Int) ∧ t < 4 ∧ f2.toInt = (t2 : Int) ∧ t2 < 4 ∧ ((r'.toInt = 1 ∧ wN t = wN t2 ∧ hN t = hN t2 ∧ ∀ x y, x < wN t → y < hN t → Bt t x y = Bt t2 x y) ∨ (r'.toInt = 0 ∧ ¬ (wN t = wN t2 ∧ hN t = hN t2 ∧ ∀ x y, x < wN t → y < hN t → Bt t x y = Bt t2 x y)))) ∨ (r'.toInt = 0 ∧ (f.toInt < 0 ∨ 4 ≤ f.toInt ∨ f2.toInt < 0 ∨ 4 ≤ f2.toInt))) : r = r' := by
  refine Int32.toInt_inj.mp ?_
  rcases h1' with ⟨t, t2, a1, a2, a3, a4, a5⟩ | ⟨a1, a2⟩ <;> rcases h2' with ⟨t', t2', b1, b2, b3, b4, b5⟩ | ⟨b1, b2⟩
  · have e : t' = t := by omega
    have e2 : t2' = t2 := by omega
    subst e e2
    rcases a5 with ⟨a5, a6⟩ | ⟨a5, a6⟩ <;> rcases b5 with ⟨b5, b6⟩ | ⟨b5, b6⟩
    · omega
    · exact absurd a6 b6
    · exact absurd b6 a6
    · omega
  · omega
  · omega
  · omega
theorem J_order {wh se r r' : Int32} (h1' : (r.toInt = 0 ∧ (wh.toInt < 0 ∨ 5 ≤ wh.toInt)) ∨ (0 ≤ wh.toInt ∧ wh.toInt < 5 ∧ ∃ k : Nat, k < 10 ∧ ((se.toInt = 0 ∧ (k : Int) = 2 * wh.toInt) ∨ (se.toInt ≠ 0 ∧ (k : Int) = 2 * wh.toInt + 1)) ∧ r.toInt = nz k)) (h2' : (r'.toInt = 0 ∧ (wh.toInt < 0 ∨ 5 ≤ wh.toInt)) ∨ (0 ≤ wh.toInt ∧ wh.toInt < 5 ∧ ∃ k : Nat, k < 10 ∧ ((se.toInt = 0 ∧ (k : Int) = 2 * wh.toInt) ∨ (se.toInt ≠ 0 ∧ (k : Int) = 2 * wh.toInt + 1)) ∧ r'.toInt = nz k)) : r = r' := by
  refine Int32.toInt_inj.mp ?_
  rcases h1' with ⟨a1, a2⟩ | ⟨a1, a2, k, a3, a4, a5⟩ <;> rcases h2' with ⟨b1, b2⟩ | ⟨b1, b2, k', b3, b4, b5⟩
  · omega
  · omega
  · omega
  · have e : k' = k := by omega
    subst e; omega
theorem J_rule (hM : RM wN hN Bt nz tg so pa ru wd2 ht2 ws nu2 t2 s2 p2 r2) (hR : RC wN hN Bt nz tg so pa ru ln wd ht rw g nu) (hmk : HB mk) (hbf : HB bf) {rl r r' u v : Int32} (h1' : (r.toInt = 1 ∧ 0 ≤ rl.toInt ∧ rl.toInt < 16 ∧ u = rl) ∨ (r.toInt = 0 ∧ (rl.toInt < 0 ∨ 16 ≤ rl.toInt) ∧ u = ru)) (h2' : (r'.toInt = 1 ∧ 0 ≤ rl.toInt ∧ rl.toInt < 16 ∧ v = rl) ∨ (r'.toInt = 0 ∧ (rl.toInt < 0 ∨ 16 ≤ rl.toInt) ∧ v = r2)) : r = r' ∧ LI ln wd ht rw g nu tg so pa u wd2 ht2 ws bf mk nu2 t2 s2 p2 v := by
  rcases h1' with ⟨a1, a2, a3, rfl⟩ | ⟨a1, a2, rfl⟩ <;> rcases h2' with ⟨b1, b2, b3, rfl⟩ | ⟨b1, b2, rfl⟩
  · refine ⟨Int32.toInt_inj.mp (by omega), wN, hN, Bt, nz, ⟨hR.1, hR.2.1, hR.2.2.1, hR.2.2.2.1, hR.2.2.2.2.1, a2, a3⟩, ?_, hmk, hbf⟩
    obtain ⟨m1, m2, m3, m4, m5, m6, m7, m8, -, -, -⟩ := hM
    exact ⟨m1, m2, m3, m4, m5, m6, m7, m8, rfl, a2, a3⟩
  · omega
  · omega
  · exact ⟨Int32.toInt_inj.mp (by omega), wN, hN, Bt, nz, hR, hM, hmk, hbf⟩
theorem J_set (hM : RM wN hN Bt nz tg so pa ru wd2 ht2 ws nu2 t2 s2 p2 r2) (hR : RC wN hN Bt nz tg so pa ru ln wd ht rw g nu) (hmk : HB mk) (hbf : HB bf) {wh av bv r r' : Int32} {u v : Nat → Int32}
    (h1' : (r.toInt = 1 ∧ 0 ≤ wh.toInt ∧ wh.toInt < 5 ∧ -32768 ≤ av.toInt ∧ av.toInt ≤ 32767 ∧ -32768 ≤ bv.toInt ∧ bv.toInt ≤ 32767 ∧ RC wN hN Bt (va_up (va_up nz (2 * wh.toInt.toNat) av.toInt) (2 * wh.toInt.toNat + 1) bv.toInt) tg so pa ru ln wd ht rw g u) ∨ (r.toInt = 0 ∧ (wh.toInt < 0 ∨ 5 ≤ wh.toInt ∨ av.toInt < -32768 ∨ 32767 < av.toInt ∨ bv.toInt < -32768 ∨ 32767 < bv.toInt) ∧ u = nu))
    (h2' : (r'.toInt = 1 ∧ 0 ≤ wh.toInt ∧ wh.toInt < 5 ∧ -32768 ≤ av.toInt ∧ av.toInt ≤ 32767 ∧ -32768 ≤ bv.toInt ∧ bv.toInt ≤ 32767 ∧ RM wN hN Bt (va_up (va_up nz (2 * wh.toInt.toNat) av.toInt) (2 * wh.toInt.toNat + 1) bv.toInt) tg so pa ru wd2 ht2 ws v t2 s2 p2 r2) ∨ (r'.toInt = 0 ∧ (wh.toInt < 0 ∨ 5 ≤ wh.toInt ∨ av.toInt < -32768 ∨ 32767 < av.toInt ∨ bv.toInt < -32768 ∨ 32767 < bv.toInt) ∧ v = nu2)) : r = r' ∧ LI ln wd ht rw g u tg so pa ru wd2 ht2 ws bf mk v t2 s2 p2 r2 := by
  rcases h1' with ⟨a1, a2, a3, a4, a5, a6, a7, a8⟩ | ⟨a1, a2, rfl⟩ <;> rcases h2' with ⟨b1, b2, b3, b4, b5, b6, b7, b8⟩ | ⟨b1, b2, rfl⟩
  · exact ⟨Int32.toInt_inj.mp (by omega), _, _, _, _, a8, b8, hmk, hbf⟩
  · omega
  · omega
  · exact ⟨Int32.toInt_inj.mp (by omega), wN, hN, Bt, nz, hR, hM, hmk, hbf⟩
theorem J_forms (hM : RM wN hN Bt nz tg so pa ru wd2 ht2 ws nu2 t2 s2 p2 r2) (hR : RC wN hN Bt nz tg so pa ru ln wd ht rw g nu) (hmk : HB mk) (hbf : HB bf) {ta sr pt r r' : Int32} {u : Nat × Option Nat × Option Nat} {v : Int32 × Int32 × Int32}
    (h1' : (r.toInt = 1 ∧ 0 ≤ ta.toInt ∧ ta.toInt < 4 ∧ -1 ≤ sr.toInt ∧ sr.toInt < 4 ∧ -1 ≤ pt.toInt ∧ pt.toInt < 4 ∧ (∀ q : Nat, pt.toInt = (q : Int) → wN q = 16 ∧ hN q = 16) ∧ (u.1 : Int) = ta.toInt ∧ u.2.1 = ofm sr.toInt ∧ u.2.2 = ofm pt.toInt) ∨ (r.toInt = 0 ∧ u = (tg, so, pa) ∧ ((ta.toInt < 0 ∨ 4 ≤ ta.toInt) ∨ (sr.toInt < -1 ∨ 4 ≤ sr.toInt) ∨ (pt.toInt < -1 ∨ 4 ≤ pt.toInt) ∨ ∃ q : Nat, pt.toInt = (q : Int) ∧ q < 4 ∧ ¬ (wN q = 16 ∧ hN q = 16))))
    (h2' : (r'.toInt = 1 ∧ 0 ≤ ta.toInt ∧ ta.toInt < 4 ∧ -1 ≤ sr.toInt ∧ sr.toInt < 4 ∧ -1 ≤ pt.toInt ∧ pt.toInt < 4 ∧ (∀ q : Nat, pt.toInt = (q : Int) → wN q = 16 ∧ hN q = 16) ∧ v = (ta, sr, pt)) ∨ (r'.toInt = 0 ∧ v = (t2, s2, p2) ∧ ((ta.toInt < 0 ∨ 4 ≤ ta.toInt) ∨ (sr.toInt < -1 ∨ 4 ≤ sr.toInt) ∨ (pt.toInt < -1 ∨ 4 ≤ pt.toInt) ∨ ∃ q : Nat, pt.toInt = (q : Int) ∧ q < 4 ∧ ¬ (wN q = 16 ∧ hN q = 16)))) : r = r' ∧ LI ln wd ht rw g nu u.1 u.2.1 u.2.2 ru wd2 ht2 ws bf mk nu2 v.1 v.2.1 v.2.2 r2 := by
  rcases h1' with ⟨a1, a2, a3, a4, a5, a6, a7, a8, a9, a10, a11⟩ | ⟨a1, rfl, a3⟩ <;> rcases h2' with ⟨b1, b2, b3, b4, b5, b6, b7, b8, rfl⟩ | ⟨b1, rfl, b3⟩
  · refine ⟨Int32.toInt_inj.mp (by omega), wN, hN, Bt, nz, ⟨hR.1, hR.2.1, by omega, fun s h => (ofm_lt (a10 ▸ h)).1, fun s h => (ofm_lt (a11 ▸ h)).1, hR.2.2.2.2.2⟩, ?_, hmk, hbf⟩
    obtain ⟨m1, m2, -, -, -, -, -, -, m9, m10, m11⟩ := hM
    exact ⟨m1, m2, a9.symm, by omega, by rw [a10, oz_ofm ⟨a4, a5⟩], fun s h => (ofm_lt (a10 ▸ h)).1, by rw [a11, oz_ofm ⟨a6, a7⟩], fun s h => (ofm_lt (a11 ▸ h)).1, m9, m10, m11⟩
  · rcases b3 with b3 | b3 | b3 | ⟨q, c1, c2, c3⟩
    · omega
    · omega
    · omega
    · exact absurd (a8 q c1) c3
  · rcases a3 with b3 | b3 | b3 | ⟨q, c1, c2, c3⟩
    · omega
    · omega
    · omega
    · exact absurd (b8 q c1) c3
  · exact ⟨Int32.toInt_inj.mp (by omega), wN, hN, Bt, nz, hR, hM, hmk, hbf⟩
theorem J_copy (hM : RM wN hN Bt nz tg so pa ru wd2 ht2 ws nu2 t2 s2 p2 r2) (hR : RC wN hN Bt nz tg so pa ru ln wd ht rw g nu) (hmk : HB mk) (hbf : HB bf) {r r' : Int32} {u : (Int32 × Int32 × Int32) × (Int32 × Int32 × Int32) × (Nat → Nat → Int32)} {v : (Nat → Int32) × (Nat → Int32) × (Nat → Int32)}
    (h1' : (∃ q, pa = some q ∧ ¬ (wN q = 16 ∧ hN q = 16) ∧ r.toInt = -1 ∧ u = (X, Y, g)) ∨ ((∀ q, pa = some q → wN q = 16 ∧ hN q = 16) ∧ r.toInt = cnA wN hN nz tg so ∧ RC wN hN (cpA wN hN nz tg so pa ru Bt) nz tg so pa ru ln wd ht rw u.2.2 nu))
    (h2' : (r'.toInt = -1 ∧ v = (ws, bf, mk) ∧ ∃ q, pa = some q ∧ ¬ (wN q = 16 ∧ hN q = 16)) ∨ ((∀ q, pa = some q → wN q = 16 ∧ hN q = 16) ∧ r'.toInt = cnA wN hN nz tg so ∧ RM wN hN (cpA wN hN nz tg so pa ru Bt) nz tg so pa ru wd2 ht2 v.1 nu2 t2 s2 p2 r2 ∧ (∀ i j, 16 ≤ j → bt (v.2.1 i) j = false) ∧ (∀ i j, 16 ≤ j → bt (v.2.2 i) j = false))) : r = r' ∧ LI ln wd ht rw u.2.2 nu tg so pa ru wd2 ht2 v.1 v.2.1 v.2.2 nu2 t2 s2 p2 r2 := by
  rcases h1' with ⟨q, a1, a2, a3, rfl⟩ | ⟨a1, a2, a3⟩ <;> rcases h2' with ⟨b1, rfl, q', b2, b3⟩ | ⟨b1, b2, b3, b4, b5⟩
  · exact ⟨Int32.toInt_inj.mp (by omega), wN, hN, Bt, nz, hR, hM, hmk, hbf⟩
  · exact absurd (b1 q a1) a2
  · exact absurd (a1 q' b2) b3
  · exact ⟨Int32.toInt_inj.mp (by omega), _, _, _, _, a3, b3, b5, b4⟩
theorem J_line (hM : RM wN hN Bt nz tg so pa ru wd2 ht2 ws nu2 t2 s2 p2 r2) (hR : RC wN hN Bt nz tg so pa ru ln wd ht rw g nu) (hmk : HB mk) (hbf : HB bf) {dx dy r r' : Int32} {u : (Nat → Int32) × (Int32 × Int32 × Int32) × (Int32 × Int32 × Int32) × (Nat → Nat → Int32)} {v : (Nat → Int32) × (Nat → Int32) × (Nat → Int32) × (Nat → Int32)}
    (h1' : (r.toInt = -1 ∧ u = (nu, X, Y, g) ∧ ((dx.toInt < -2000 ∨ 2000 < dx.toInt ∨ dy.toInt < -2000 ∨ 2000 < dy.toInt) ∨ ∃ q, pa = some q ∧ ¬ (wN q = 16 ∧ hN q = 16))) ∨ ((-2000 ≤ dx.toInt ∧ dx.toInt ≤ 2000) ∧ (-2000 ≤ dy.toInt ∧ dy.toInt ≤ 2000) ∧ (∀ q, pa = some q → wN q = 16 ∧ hN q = 16) ∧ ((max dy.toInt (-dy.toInt) < max dx.toInt (-dx.toInt) ∧ r = (lnA wN hN tg so pa ru 0 dx.toInt dy.toInt nz Bt).2.2 ∧ RC wN hN (lnA wN hN tg so pa ru 0 dx.toInt dy.toInt nz Bt).2.1 (lnA wN hN tg so pa ru 0 dx.toInt dy.toInt nz Bt).1 tg so pa ru ln wd ht rw u.2.2.2 u.1) ∨ (¬ max dy.toInt (-dy.toInt) < max dx.toInt (-dx.toInt) ∧ r = (lnA wN hN tg so pa ru 1 dy.toInt dx.toInt nz Bt).2.2 ∧ RC wN hN (lnA wN hN tg so pa ru 1 dy.toInt dx.toInt nz Bt).2.1 (lnA wN hN tg so pa ru 1 dy.toInt dx.toInt nz Bt).1 tg so pa ru ln wd ht rw u.2.2.2 u.1))))
    (h2' : (r'.toInt = -1 ∧ v = (nu2, ws, bf, mk) ∧ ((dx.toInt < -2000 ∨ 2000 < dx.toInt ∨ dy.toInt < -2000 ∨ 2000 < dy.toInt) ∨ ∃ q, pa = some q ∧ ¬ (wN q = 16 ∧ hN q = 16))) ∨ ((-2000 ≤ dx.toInt ∧ dx.toInt ≤ 2000) ∧ (-2000 ≤ dy.toInt ∧ dy.toInt ≤ 2000) ∧ (∀ q, pa = some q → wN q = 16 ∧ hN q = 16) ∧ (∀ i j, 16 ≤ j → bt (v.2.2.2 i) j = false) ∧ (∀ i j, 16 ≤ j → bt (v.2.2.1 i) j = false) ∧ ((max dy.toInt (-dy.toInt) < max dx.toInt (-dx.toInt) ∧ r' = (lnA wN hN tg so pa ru 0 dx.toInt dy.toInt nz Bt).2.2 ∧ RM wN hN (lnA wN hN tg so pa ru 0 dx.toInt dy.toInt nz Bt).2.1 (lnA wN hN tg so pa ru 0 dx.toInt dy.toInt nz Bt).1 tg so pa ru wd2 ht2 v.2.1 v.1 t2 s2 p2 r2) ∨ (¬ max dy.toInt (-dy.toInt) < max dx.toInt (-dx.toInt) ∧ r' = (lnA wN hN tg so pa ru 1 dy.toInt dx.toInt nz Bt).2.2 ∧ RM wN hN (lnA wN hN tg so pa ru 1 dy.toInt dx.toInt nz Bt).2.1 (lnA wN hN tg so pa ru 1 dy.toInt dx.toInt nz Bt).1 tg so pa ru wd2 ht2 v.2.1 v.1 t2 s2 p2 r2)))) : r = r' ∧ LI ln wd ht rw u.2.2.2 u.1 tg so pa ru wd2 ht2 v.2.1 v.2.2.1 v.2.2.2 v.1 t2 s2 p2 r2 := by
  rcases h1' with ⟨a1, rfl, a3⟩ | ⟨a1, a2, a3, a4⟩ <;> rcases h2' with ⟨b1, rfl, b3⟩ | ⟨b1, b2, b3, b4, b5, b6⟩
  · exact ⟨Int32.toInt_inj.mp (by omega), wN, hN, Bt, nz, hR, hM, hmk, hbf⟩
  · rcases a3 with a3 | ⟨q, c1, c2⟩
    · omega
    · exact absurd (b3 q c1) c2
  · rcases b3 with b3 | ⟨q, c1, c2⟩
    · omega
    · exact absurd (a3 q c1) c2
  · rcases a4 with ⟨c1, c2, c3⟩ | ⟨c1, c2, c3⟩ <;> rcases b6 with ⟨d1, d2, d3⟩ | ⟨d1, d2, d3⟩
    · exact ⟨by rw [c2, d2], _, _, _, _, c3, d3, b4, b5⟩
    · exact absurd c1 d1
    · exact absurd d1 c1
    · exact ⟨by rw [c2, d2], _, _, _, _, c3, d3, b4, b5⟩
end JJ
