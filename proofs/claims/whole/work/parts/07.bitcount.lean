/-! ===== Integer.bitCount, on sixteen bits ===== -/
theorem nx_and (a b : Nat) : nI a &&& nI b = nI (a &&& b) := by
  apply Int32.toBitVec_inj.1
  show BitVec.ofNat 32 a &&& BitVec.ofNat 32 b = BitVec.ofNat 32 (a &&& b)
  apply BitVec.eq_of_getLsbD_eq
  intro i hi
  simp [hi]
def bcN (w : Nat) : Nat :=
  let a := w - ((w / 2 ^ 1) &&& 1431655765)
  let b := (a &&& 858993459) + ((a / 2 ^ 2) &&& 858993459)
  let c := (b + b / 2 ^ 4) &&& 252645135
  let d := c + c / 2 ^ 8
  let e := d + d / 2 ^ 16
  e &&& 63
def popN (w : Nat) : Nat := sN (fun j => b1 (w.testBit j)) 16
theorem and_split {a b m n : Nat} (hb : b < 256) (hn : n < 256) : (256 * a + b) &&& (256 * m + n) = 256 * (a &&& m) + (b &&& n) := by
  have hbn : (b &&& n) < 2 ^ 8 := Nat.and_lt_two_pow b (show n < 2 ^ 8 from hn)
  apply Nat.eq_of_testBit_eq
  intro i
  rw [Nat.testBit_and, show 256 = 2 ^ 8 from rfl, Nat.testBit_two_pow_mul_add a (show b < 2 ^ 8 from hb), Nat.testBit_two_pow_mul_add m (show n < 2 ^ 8 from hn), Nat.testBit_two_pow_mul_add (a &&& m) hbn]
  by_cases h : i < 8
  · rw [if_pos h, if_pos h, if_pos h, Nat.testBit_and]
  · rw [if_neg h, if_neg h, if_neg h, Nat.testBit_and]
def A8 (x : Nat) : Nat := x - (x / 2 &&& 85)
def B8 (x : Nat) : Nat := (x &&& 51) + (x / 4 &&& 51)
def pop8 (x : Nat) : Nat := sN (fun j => b1 (x.testBit j)) 8
theorem d8_1 : ∀ p, p < 128 → p &&& 5592405 = p &&& 85 := by decide +kernel
theorem d8_2 : ∀ e, e < 2 → ∀ h, h < 128 → (128 * e + h) &&& 85 = h &&& 85 := by decide +kernel
theorem d8_3 : ∀ x, x < 256 → (x / 2 &&& 85) ≤ x ∧ A8 x < 256 := by decide +kernel
theorem d8_4 : ∀ p, p < 256 → p &&& 3355443 = p &&& 51 := by decide +kernel
theorem d8_5 : ∀ e, e < 4 → ∀ h, h < 64 → (64 * e + h) &&& 51 = h &&& 51 := by decide +kernel
theorem d8_6 : ∀ b, b < 256 → B8 (A8 b) % 16 ≤ 4 ∧ B8 (A8 b) / 16 ≤ 4 ∧ B8 (A8 b) % 16 + B8 (A8 b) / 16 = pop8 b ∧ (A8 b &&& 51) < 256 ∧ (A8 b / 4 &&& 51) < 256 := by decide +kernel
theorem d8_7 : ∀ p, p < 256 → p &&& 986895 = p &&& 15 := by decide +kernel
theorem and15 (x : Nat) : x &&& 15 = x % 16 := Nat.and_two_pow_sub_one_eq_mod x 4
theorem and63 (x : Nat) : x &&& 63 = x % 64 := Nat.and_two_pow_sub_one_eq_mod x 6
theorem bc_c {p1 p0 q1 q0 : Nat} (h1 : p1 ≤ 4) (h2 : p0 ≤ 4) (h3 : q1 ≤ 4) (h4 : q0 ≤ 4) : ((256 * (16 * p1 + p0) + (16 * q1 + q0)) + (256 * (16 * p1 + p0) + (16 * q1 + q0)) / 2 ^ 4) &&& 252645135 = 256 * (p0 + p1) + (q0 + q1) := by
  have e : (256 * (16 * p1 + p0) + (16 * q1 + q0)) + (256 * (16 * p1 + p0) + (16 * q1 + q0)) / 2 ^ 4 = 256 * (17 * p1 + p0) + (16 * (q1 + p0) + (q0 + q1)) := by omega
  have e2 : (17 * p1 + p0) % 16 = p0 + p1 := by omega
  have e3 : (16 * (q1 + p0) + (q0 + q1)) % 16 = q0 + q1 := by omega
  rw [e, show 252645135 = 256 * 986895 + 15 from rfl, and_split (by omega) (by omega), d8_7 _ (by omega), and15, and15, e2, e3]
theorem bc_d {u v t : Nat} (h1 : u ≤ 8) (h2 : v ≤ 8) (h3 : t = v + u) : (256 * u + v + (256 * u + v) / 2 ^ 8 + (256 * u + v + (256 * u + v) / 2 ^ 8) / 2 ^ 16) % 64 = t := by
  have e1 : (256 * u + v) / 2 ^ 8 = u := by omega
  rw [e1]
  have e2 : (256 * u + v + u) / 2 ^ 16 = 0 := by omega
  rw [e2]
  omega
theorem bc_pop {w : Nat} (h : w < 65536) : bcN w = popN w := by
  obtain ⟨a, b, ha, hb, rfl⟩ : ∃ a b, a < 256 ∧ b < 256 ∧ w = 256 * a + b := ⟨w / 256, w % 256, by omega, by omega, by omega⟩
  have s1 : ((256 * a + b) / 2 ^ 1 &&& 1431655765) = 256 * (a / 2 &&& 85) + (b / 2 &&& 85) := by
    rw [show (256 * a + b) / 2 ^ 1 = 256 * (a / 2) + (128 * (a % 2) + b / 2) by omega, show 1431655765 = 256 * 5592405 + 85 from rfl, and_split (by omega) (by omega), d8_1 _ (by omega), d8_2 _ (by omega) _ (by omega)]
  have ra := d8_3 a ha
  have rb := d8_3 b hb
  have e1 : (256 * a + b) - ((256 * a + b) / 2 ^ 1 &&& 1431655765) = 256 * A8 a + A8 b := by
    rw [s1]; unfold A8; omega
  have qa := d8_6 a ha
  have qb := d8_6 b hb
  have s2 : ((256 * A8 a + A8 b) &&& 858993459) = 256 * (A8 a &&& 51) + (A8 b &&& 51) := by
    rw [show 858993459 = 256 * 3355443 + 51 from rfl, and_split rb.2 (by omega), d8_4 _ ra.2]
  have s3 : ((256 * A8 a + A8 b) / 2 ^ 2 &&& 858993459) = 256 * (A8 a / 4 &&& 51) + (A8 b / 4 &&& 51) := by
    rw [show (256 * A8 a + A8 b) / 2 ^ 2 = 256 * (A8 a / 4) + (64 * (A8 a % 4) + A8 b / 4) by omega, show 858993459 = 256 * 3355443 + 51 from rfl, and_split (by omega) (by omega), d8_4 _ (by omega), d8_5 _ (by omega) _ (by omega)]
  have e2 : ((256 * A8 a + A8 b) &&& 858993459) + ((256 * A8 a + A8 b) / 2 ^ 2 &&& 858993459) = 256 * B8 (A8 a) + B8 (A8 b) := by
    rw [s2, s3]; unfold B8; omega
  generalize hp : B8 (A8 a) = p at e2 qa
  generalize hq : B8 (A8 b) = q at e2 qb
  have hc := bc_c (p1 := p / 16) (p0 := p % 16) (q1 := q / 16) (q0 := q % 16) qa.2.1 qa.1 qb.2.1 qb.1
  rw [show 16 * (p / 16) + p % 16 = p by omega, show 16 * (q / 16) + q % 16 = q by omega] at hc
  have pw : popN (256 * a + b) = pop8 b + pop8 a := by
    unfold popN pop8
    rw [show (16 : Nat) = 8 + 8 from rfl, sN_add]
    congr 1
    · exact sN_congr (fun j hj => by rw [show 256 = 2 ^ 8 from rfl, Nat.testBit_two_pow_mul_add a (show b < 2 ^ 8 from hb), if_pos hj])
    · exact sN_congr (fun j hj => by rw [show 256 = 2 ^ 8 from rfl, Nat.testBit_two_pow_mul_add a (show b < 2 ^ 8 from hb), if_neg (by omega), show 8 + j - 8 = j by omega])
  have hf : bcN (256 * a + b) = ((((256 * p + q) + (256 * p + q) / 2 ^ 4) &&& 252645135) + (((256 * p + q) + (256 * p + q) / 2 ^ 4) &&& 252645135) / 2 ^ 8 + ((((256 * p + q) + (256 * p + q) / 2 ^ 4) &&& 252645135) + (((256 * p + q) + (256 * p + q) / 2 ^ 4) &&& 252645135) / 2 ^ 8) / 2 ^ 16) &&& 63 := by
    unfold bcN
    simp only [e1, e2]
  rw [hf, hc, pw, and63]
  have h1 := qa.2.2.1
  have h2 := qb.2.2.1
  exact bc_d (by omega) (by omega) (by omega)
theorem bt_nI {n : Nat} (h : n < 2 ^ 32) (j : Nat) : bt (nI n) j = n.testBit j := by
  unfold bt
  show (BitVec.ofNat 32 n).getLsbD j = _
  rw [BitVec.getLsbD_ofNat]
  rcases Nat.lt_or_ge j 32 with q | q
  · rw [decide_eq_true q, Bool.true_and]
  · rw [decide_eq_false (by omega), Bool.false_and, Nat.testBit_lt_two_pow (Nat.lt_of_lt_of_le h (Nat.pow_le_pow_right (by decide) q))]
theorem w16 {x : Int32} (h : ∀ j, 16 ≤ j → bt x j = false) : ∃ n : Nat, n < 65536 ∧ x = nI n := by
  refine ⟨x.toBitVec.toNat % 65536, Nat.mod_lt _ (by decide), b_ext (fun i hi => ?_)⟩
  rw [bt_nI (by omega)]
  show _ = (x.toBitVec.toNat % 2 ^ 16).testBit i
  rw [Nat.testBit_mod_two_pow]
  rcases Nat.lt_or_ge i 16 with q | q
  · rw [decide_eq_true q, Bool.true_and]; rfl
  · rw [decide_eq_false (by omega), Bool.false_and]; exact h i q
/-- the walk's equations give the count -/
theorem bc_walk {x a1 a2 a3 b1' b2 b3 b4 c1 c2 c3 d1 d2 e1 e2 r : Int32} (h : ∀ j, 16 ≤ j → bt x j = false)
    (ha1 : a1 = (x.toUInt32 >>> ((1 : Int32).toUInt32 &&& Int32.toUInt32 31)).toInt32) (ha2 : a2 = a1 &&& 1431655765) (ha3 : a3 = x - a2)
    (hb1 : b1' = a3 &&& 858993459) (hb2 : b2 = (a3.toUInt32 >>> ((2 : Int32).toUInt32 &&& Int32.toUInt32 31)).toInt32) (hb3 : b3 = b2 &&& 858993459) (hb4 : b4 = b1' + b3)
    (hc1 : c1 = (b4.toUInt32 >>> ((4 : Int32).toUInt32 &&& Int32.toUInt32 31)).toInt32) (hc2 : c2 = b4 + c1) (hc3 : c3 = c2 &&& 252645135)
    (hd1 : d1 = (c3.toUInt32 >>> ((8 : Int32).toUInt32 &&& Int32.toUInt32 31)).toInt32) (hd2 : d2 = c3 + d1)
    (he1 : e1 = (d2.toUInt32 >>> ((16 : Int32).toUInt32 &&& Int32.toUInt32 31)).toInt32) (he2 : e2 = d2 + e1) (hr : r = e2 &&& 63) : r.toInt = (pcw x : Int) := by
  obtain ⟨n, hn, rfl⟩ := w16 h
  have ka : (n / 2 ^ 1 &&& 1431655765) ≤ n := Nat.le_trans Nat.and_le_left (Nat.div_le_self _ _)
  have ea1 : a1 = nI (n / 2 ^ 1) := by rw [ha1]; exact pk_ushrN (by omega) 1 1 (by decide)
  have ea2 : a2 = nI (n / 2 ^ 1 &&& 1431655765) := by rw [ha2, ea1, show (1431655765 : Int32) = nI 1431655765 from rfl, nx_and]
  have ea3 : a3 = nI (n - (n / 2 ^ 1 &&& 1431655765)) := by rw [ha3, ea2, pk_sub ka]
  generalize hA : n - (n / 2 ^ 1 &&& 1431655765) = A at ea3
  have kA : A < 65536 := by omega
  have eb1 : b1' = nI (A &&& 858993459) := by rw [hb1, ea3, show (858993459 : Int32) = nI 858993459 from rfl, nx_and]
  have eb2 : b2 = nI (A / 2 ^ 2) := by rw [hb2, ea3]; exact pk_ushrN (by omega) 2 2 (by decide)
  have eb3 : b3 = nI (A / 2 ^ 2 &&& 858993459) := by rw [hb3, eb2, show (858993459 : Int32) = nI 858993459 from rfl, nx_and]
  have eb4 : b4 = nI ((A &&& 858993459) + (A / 2 ^ 2 &&& 858993459)) := by rw [hb4, eb1, eb3, nI_add]
  have kb1 : (A &&& 858993459) ≤ A := Nat.and_le_left
  have kb2 : (A / 2 ^ 2 &&& 858993459) ≤ A := Nat.le_trans Nat.and_le_left (Nat.div_le_self _ _)
  generalize hB : (A &&& 858993459) + (A / 2 ^ 2 &&& 858993459) = B at eb4
  have kB : B < 2 ^ 18 := by omega
  have ec1 : c1 = nI (B / 2 ^ 4) := by rw [hc1, eb4]; exact pk_ushrN (by omega) 4 4 (by decide)
  have ec2 : c2 = nI (B + B / 2 ^ 4) := by rw [hc2, eb4, ec1, nI_add]
  have ec3 : c3 = nI ((B + B / 2 ^ 4) &&& 252645135) := by rw [hc3, ec2, show (252645135 : Int32) = nI 252645135 from rfl, nx_and]
  have kc : ((B + B / 2 ^ 4) &&& 252645135) ≤ B + B / 2 ^ 4 := Nat.and_le_left
  generalize hC : (B + B / 2 ^ 4) &&& 252645135 = C at ec3 kc
  have kC : C < 2 ^ 20 := by omega
  have ed1 : d1 = nI (C / 2 ^ 8) := by rw [hd1, ec3]; exact pk_ushrN (by omega) 8 8 (by decide)
  have ed2 : d2 = nI (C + C / 2 ^ 8) := by rw [hd2, ec3, ed1, nI_add]
  generalize hD : C + C / 2 ^ 8 = D at ed2
  have kD : D < 2 ^ 22 := by omega
  have ee1 : e1 = nI (D / 2 ^ 16) := by rw [he1, ed2]; exact pk_ushrN (by omega) 16 16 (by decide)
  have ee2 : e2 = nI (D + D / 2 ^ 16) := by rw [he2, ed2, ee1, nI_add]
  have er : r = nI ((D + D / 2 ^ 16) &&& 63) := by rw [hr, ee2, show (63 : Int32) = nI 63 from rfl, nx_and]
  have eb : bcN n = (D + D / 2 ^ 16) &&& 63 := by
    unfold bcN
    show _ = _
    simp only [hA, hB, hC, hD]
  have k63 : ((D + D / 2 ^ 16) &&& 63) ≤ 63 := Nat.and_le_right
  rw [er, nI_toInt (by omega), ← eb, bc_pop hn]
  have : popN n = pcw (nI n) := by
    unfold popN pcw
    exact sN_congr (fun j _ => by rw [bt_nI (by omega)])
  rw [this]
