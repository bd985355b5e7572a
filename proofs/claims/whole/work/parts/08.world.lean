/-! ===== the class's cells ===== -/
abbrev tyB (cI cF : ClassId) : List (ClassId × FieldType) := [(cI, .int), (cF, .object "BitCopier$Form")]
/-- h0: the object; qa: its forms' array; qn: the numbers; qx, qy: the reaches; fa: the forms; ar: their words' arrays -/
def w_bc (h0 qa qn qx qy : Nat) (cI cF : ClassId) (fa ar ln : Nat → Nat) (wd ht rw : Nat → Int32) (g : Nat → Nat → Int32) (nu : Nat → Int32) (X Y : Int32 × Int32 × Int32) (tg : Nat) (so pa : Option Nat) (ru : Int32) : va_W :=
  [(h0, .inr (2, [.ref qa, .ref qn, .ref qx, .ref qy, .ref (fa tg), va_rf (so.map fa), va_rf (pa.map fa), .int ru])),
   (qa, .inl (cF, 4, .inr (.inr (.inr (.inr (fun i => some (fa i))))))),
   (qn, .inl (cI, 10, .inl nu)),
   (qx, .inr (1, [.int X.1, .int X.2.1, .int X.2.2])),
   (qy, .inr (1, [.int Y.1, .int Y.2.1, .int Y.2.2])),
   (fa 0, .inr (0, [.int (wd 0), .int (ht 0), .int (rw 0), .ref (ar 0)])), (fa 1, .inr (0, [.int (wd 1), .int (ht 1), .int (rw 1), .ref (ar 1)])), (fa 2, .inr (0, [.int (wd 2), .int (ht 2), .int (rw 2), .ref (ar 2)])), (fa 3, .inr (0, [.int (wd 3), .int (ht 3), .int (rw 3), .ref (ar 3)])),
   (ar 0, .inl (cI, ln 0, .inl (g 0))), (ar 1, .inl (cI, ln 1, .inl (g 1))), (ar 2, .inl (cI, ln 2, .inl (g 2))), (ar 3, .inl (cI, ln 3, .inl (g 3)))]
theorem c4 {t : Nat} (h : t < 4) : t = 0 ∨ t = 1 ∨ t = 2 ∨ t = 3 := by omega
section WBC
variable {h0 qa qn qx qy : Nat} {cI cF : ClassId} {fa ar ln : Nat → Nat} {wd ht rw : Nat → Int32} {g : Nat → Nat → Int32} {nu : Nat → Int32} {X Y : Int32 × Int32 × Int32} {tg : Nat} {so pa : Option Nat} {ru : Int32}
theorem wb_o {t : Nat} (h : t < 4) : (w_bc h0 qa qn qx qy cI cF fa ar ln wd ht rw g nu X Y tg so pa ru)[5 + t]? = some (fa t, .inr (0, [.int (wd t), .int (ht t), .int (rw t), .ref (ar t)])) := by
  rcases c4 h with rfl | rfl | rfl | rfl <;> rfl
theorem wb_a {t : Nat} (h : t < 4) : (w_bc h0 qa qn qx qy cI cF fa ar ln wd ht rw g nu X Y tg so pa ru)[9 + t]? = some (ar t, .inl (cI, ln t, .inl (g t))) := by
  rcases c4 h with rfl | rfl | rfl | rfl <;> rfl
theorem wb_set {t : Nat} (h : t < 4) (f : Nat → Int32) : (w_bc h0 qa qn qx qy cI cF fa ar ln wd ht rw g nu X Y tg so pa ru).set (9 + t) (ar t, .inl (cI, ln t, .inl f)) = w_bc h0 qa qn qx qy cI cF fa ar ln wd ht rw (va_up g t f) nu X Y tg so pa ru := by
  rcases c4 h with rfl | rfl | rfl | rfl <;> rfl
end WBC
/-- words a row -/
abbrev rN (wN : Nat → Nat) : Nat → Nat := fun f => (wN f + 15) / 16
/-- the class's cells stand for: sizes wN, hN, bits B, the order's numbers nz -/
def RC (wN hN : Nat → Nat) (Bt : Nat → Nat → Nat → Bool) (nz : Nat → Int) (tg : Nat) (so pa : Option Nat) (ru : Int32) (ln : Nat → Nat) (wd ht rw : Nat → Int32) (g : Nat → Nat → Int32) (nu : Nat → Int32) : Prop :=
  (∀ f, f < 4 → (wd f).toInt = (wN f : Int) ∧ (ht f).toInt = (hN f : Int) ∧ (rw f).toInt = (rN wN f : Int) ∧ 1 ≤ wN f ∧ 1 ≤ hN f ∧ rN wN f * hN f ≤ ln f ∧ 16 ≤ ln f ∧ ln f ≤ 4000 ∧ wN f ≤ 64000 ∧ hN f ≤ 4000 ∧ RF (g f) (rN wN f) (wN f) (hN f) (Bt f)) ∧
  (∀ i, i < 10 → (nu i).toInt = nz i ∧ -32768 ≤ nz i ∧ nz i ≤ 32767) ∧ tg < 4 ∧ (∀ s, so = some s → s < 4) ∧ (∀ q, pa = some q → q < 4) ∧ 0 ≤ ru.toInt ∧ ru.toInt < 16
/-- the same without the bits: what stands within a copy, too -/
def CS (wN hN : Nat → Nat) (nz : Nat → Int) (tg : Nat) (so pa : Option Nat) (ru : Int32) (ln : Nat → Nat) (wd ht rw : Nat → Int32) (g : Nat → Nat → Int32) (nu : Nat → Int32) : Prop :=
  (∀ f, f < 4 → (wd f).toInt = (wN f : Int) ∧ (ht f).toInt = (hN f : Int) ∧ (rw f).toInt = (rN wN f : Int) ∧ 1 ≤ wN f ∧ 1 ≤ hN f ∧ rN wN f * hN f ≤ ln f ∧ 16 ≤ ln f ∧ ln f ≤ 4000 ∧ wN f ≤ 64000 ∧ hN f ≤ 4000 ∧ ∀ i j, 16 ≤ j → bt (g f i) j = false) ∧
  (∀ i, i < 10 → (nu i).toInt = nz i ∧ -32768 ≤ nz i ∧ nz i ≤ 32767) ∧ tg < 4 ∧ (∀ s, so = some s → s < 4) ∧ (∀ q, pa = some q → q < 4) ∧ 0 ≤ ru.toInt ∧ ru.toInt < 16
theorem RC.cs {wN hN : Nat → Nat} {Bt : Nat → Nat → Nat → Bool} {nz : Nat → Int} {tg : Nat} {so pa : Option Nat} {ru : Int32} {ln : Nat → Nat} {wd ht rw : Nat → Int32} {g : Nat → Nat → Int32} {nu : Nat → Int32} (h : RC wN hN Bt nz tg so pa ru ln wd ht rw g nu) : CS wN hN nz tg so pa ru ln wd ht rw g nu := by
  obtain ⟨hF, hrest⟩ := h
  refine ⟨fun f hf => ?_, hrest⟩
  obtain ⟨a1, a2, a3, a4, a5, a6, a7, a8, a9, a10, a11⟩ := hF f hf
  exact ⟨a1, a2, a3, a4, a5, a6, a7, a8, a9, a10, a11.1⟩
/-- words of the target changed within their sixteen bits -/
theorem CS.words {wN hN : Nat → Nat} {nz : Nat → Int} {tg : Nat} {so pa : Option Nat} {ru : Int32} {ln : Nat → Nat} {wd ht rw : Nat → Int32} {g g' : Nat → Nat → Int32} {nu : Nat → Int32} (h : CS wN hN nz tg so pa ru ln wd ht rw g nu) (hg : ∀ f, f < 4 → ∀ i j, 16 ≤ j → bt (g' f i) j = false) : CS wN hN nz tg so pa ru ln wd ht rw g' nu := by
  obtain ⟨hF, hrest⟩ := h
  refine ⟨fun f hf => ?_, hrest⟩
  obtain ⟨a1, a2, a3, a4, a5, a6, a7, a8, a9, a10, a11⟩ := hF f hf
  exact ⟨a1, a2, a3, a4, a5, a6, a7, a8, a9, a10, hg f hf⟩
theorem same_post {g g' : Nat → Int32} {wN hN w1 h1 : Nat} {B B' : Nat → Nat → Bool} {r c : Int32} (hw : 1 ≤ wN) (hcr : c.toInt = r.toInt) (h : RF g ((wN + 15) / 16) wN hN B) (h' : RF g' ((w1 + 15) / 16) w1 h1 B') (hc : (c.toInt = 1 ∧ wN = w1 ∧ hN = h1 ∧ ∀ i, i < (wN + 15) / 16 * hN → g i = g' i) ∨ (c.toInt = 0 ∧ ¬ (wN = w1 ∧ hN = h1 ∧ ∀ i, i < (wN + 15) / 16 * hN → g i = g' i))) :
    (r.toInt = 1 ∧ wN = w1 ∧ hN = h1 ∧ ∀ x y, x < wN → y < hN → B x y = B' x y) ∨ (r.toInt = 0 ∧ ¬ (wN = w1 ∧ hN = h1 ∧ ∀ x y, x < wN → y < hN → B x y = B' x y)) := by
  rcases hc with ⟨q, rfl, rfl, e⟩ | ⟨q, e⟩
  · exact Or.inl ⟨by omega, rfl, rfl, (RF_same (by omega) h h' (by omega)).mp e⟩
  · refine Or.inr ⟨by omega, fun z => e ?_⟩
    obtain ⟨rfl, rfl, z⟩ := z
    exact ⟨rfl, rfl, (RF_same (by omega) h h' (by omega)).mpr z⟩
/-- a pattern's word is its row's sixteen bits -/
theorem pat_bt {g : Nat → Int32} {k y j : Nat} (hj : j < 16) : bt (g (y % 16)) j = BV g 1 ((16 * k + 15 - j) % 16) (y % 16) := by
  unfold BV
  rw [show y % 16 * 1 + (16 * k + 15 - j) % 16 / 16 = y % 16 by omega, show 15 - (16 * k + 15 - j) % 16 % 16 = j by omega]
/-- the words' order: which are written behind n of them -/
abbrev prn (x2 : Int32) (st en n : Nat) : Nat → Prop := fun q => (x2.toInt < 0 → (en - 1) / 16 < q + n) ∧ (0 ≤ x2.toInt → q < st / 16 + n) ∧ st / 16 ≤ q ∧ q ≤ (en - 1) / 16
/-- one word of a row, as the walk has it -/
theorem row_step {g gn : Nat → Nat → Int32} {tg : Nat} {rw ht : Nat → Nat} {so pa : Option Nat} {x0 x1 x2 y2 ru k y : Int32} {st en yn kn n0 : Nat} {old mk nt an inw br bm nw : Int32}
    (h : RI g gn tg rw ht so pa x2.toInt y2.toInt ru st en yn (prn x2 st en n0)) (hHi : ∀ f, f < 4 → ∀ i j, 16 ≤ j → bt (gn f i) j = false) (hk : kn < rw tg) (hy : yn < ht tg) (hkn : k.toInt = (kn : Int)) (hst : x0.toInt = (st : Int)) (hen : x1.toInt = (en : Int)) (hse : st < en)
    (hK : (x2.toInt < 0 → (kn : Int) = (((en - 1) / 16 : Nat) : Int) - n0) ∧ (0 ≤ x2.toInt → (kn : Int) = ((st / 16 : Nat) : Int) + n0)) (hn0 : n0 ≤ (en - 1) / 16 - st / 16)
    (hold : old = gn tg (yn * rw tg + kn)) (hmk : ∀ j, j < 32 → bt mk j = (decide (j < 16) && (decide (x0.toInt ≤ 16 * k.toInt + 15 - j) && decide (16 * k.toInt + 15 - j < x1.toInt))))
    (hnt : nt = mk ^^^ (-1)) (han : an = old &&& nt) (hin : ∀ j, j < 16 → bt inw j = IB gn rw ht so pa x2.toInt y2.toInt (16 * kn + 15 - j) yn) (hbr : ∀ j, j < 32 → bt br j = rB ru (bt inw j) (bt old j)) (hbm : bm = br &&& mk) (hnw : nw = an ||| bm) (hpa : pa = some tg → rw tg = 1 ∧ ht tg = 16) :
    RI g (va_up gn tg (upd (gn tg) (yn * rw tg + kn) nw)) tg rw ht so pa x2.toInt y2.toInt ru st en yn (prn x2 st en (n0 + 1)) ∧ ∀ f, f < 4 → ∀ i j, 16 ≤ j → bt (va_up gn tg (upd (gn tg) (yn * rw tg + kn) nw) f i) j = false := by
  have hmk16 : ∀ j, j < 16 → bt mk j = (decide (st ≤ 16 * kn + 15 - j) && decide (16 * kn + 15 - j < en)) := by
    intro j hj
    rw [hmk j (by omega), decide_eq_true hj, Bool.true_and]
    congr 1
    · exact decide_eq_decide.mpr (by omega)
    · exact decide_eq_decide.mpr (by omega)
  have hmk2 : ∀ j, 16 ≤ j → bt mk j = false := by
    intro j hj
    rcases Nat.lt_or_ge j 32 with q | q
    · rw [hmk j q, decide_eq_false (by omega), Bool.false_and]
    · exact b_big q
  have hnw' : ∀ j, j < 32 → bt nw j = if bt mk j = true then rB ru (bt inw j) (bt old j) else bt old j := by
    intro j hj
    rw [hnw, b_or, han, b_and, hnt, b_not hj, hbm, b_and, hbr j hj]
    cases bt mk j <;> simp
  have hR := RI_step h hk hy hold hmk16 hmk2 hin hnw' (pr' := prn x2 st en (n0 + 1)) (by unfold prn; omega) (fun q => by unfold prn; omega) (fun z q hq => by unfold prn at hq; omega) (fun z q hq => by unfold prn at hq; omega) hpa
  refine ⟨hR, fun f hf i j hj => ?_⟩
  by_cases q : f = tg
  · subst q
    rw [hR.2.1 i j hj, ← h.2.1 i j hj]
    exact hHi f hf i j hj
  · rw [va_up_ne _ _ q]
    exact hHi f hf i j hj
theorem fill_up (g : Nat → Int32) (v : Int32) (n0 : Nat) : upd (fun j => if j < n0 then v else g j) n0 v = fun j => if j < n0 + 1 then v else g j := by
  funext j
  show (if j = n0 then v else if j < n0 then v else g j) = if j < n0 + 1 then v else g j
  by_cases q : j = n0
  · rw [if_pos q, if_pos (by omega)]
  · rw [if_neg q]
    by_cases q2 : j < n0
    · rw [if_pos q2, if_pos (by omega)]
    · rw [if_neg q2, if_neg (by omega)]
theorem ww_post {k w : Int} {j : Nat} (hk : 0 ≤ k) : (decide (j < 16) && (decide ((0 : Int32).toInt ≤ 16 * k + 15 - j) && decide (16 * k + 15 - j < w))) = (decide (j < 16) && decide (16 * k + 15 - j < w)) := by
  have e : (0 : Int32).toInt = 0 := by decide
  by_cases q : j < 16
  · rw [decide_eq_true (show (0 : Int32).toInt ≤ 16 * k + 15 - j by omega), Bool.true_and]
  · rw [decide_eq_false q, Bool.false_and, Bool.false_and]
theorem rr_le {wN hN : Nat → Nat} {t t2 L : Nat} (q1 : wN t = wN t2) (q2 : hN t = hN t2) (h : rN wN t2 * hN t2 ≤ L) : rN wN t * hN t ≤ L := by
  have e9 : rN wN t = rN wN t2 := by unfold rN; rw [q1]
  rw [e9, q2]; exact h
theorem and2F {x ru : Int32} {k : Nat} (h : (x.toInt = 0 ∧ bt ru k = false) ∨ (x.toInt ≠ 0 ∧ bt ru k = true)) (hx : x.toInt = 0) : bt ru k = false := by
  rcases h with h | h
  · exact h.2
  · exact absurd hx h.1
theorem and2T {x ru : Int32} {k : Nat} (h : (x.toInt = 0 ∧ bt ru k = false) ∨ (x.toInt ≠ 0 ∧ bt ru k = true)) (hx : x.toInt ≠ 0) : bt ru k = true := by
  rcases h with h | h
  · exact absurd h.1 hx
  · exact h.2
theorem or01 {r : Int32} {P Q : Prop} (h : (r.toInt = 1 ∧ P) ∨ (r.toInt = 0 ∧ Q)) : r.toInt = 0 ∨ r.toInt = 1 := by
  rcases h with h | h
  · exact Or.inr h.1
  · exact Or.inl h.1
theorem fr_n {nz : Nat → Int} {ax : Nat} {to sz pl le L l2 a0 a1 a2 b0 b1 b2 z : Int} (k0 : to = nz ax) (k1 : sz = nz (2 + ax)) (k3 : pl = nz (6 + ax)) (k4 : le = nz (8 + ax)) (hz : z = 0) (hL : l2 = L) (p0 : a0 = to) (q0 : b0 = to + sz) (p1 : a1 = max a0 pl) (q1 : b1 = min b0 (pl + le)) (p2 : a2 = max a1 z) (q2 : b2 = min b1 (z + l2)) : a2 = stA nz ax none ∧ b2 = enA nz ax L none := by
  subst k0 k1 k3 k4 hz hL p0 q0 p1 q1 p2 q2
  unfold stA enA
  dsimp only
  generalize max (nz ax) (nz (6 + ax)) = x
  generalize min (nz ax + nz (2 + ax)) (nz (6 + ax) + nz (8 + ax)) = y
  omega
theorem fr_s {nz : Nat → Int} {ax : Nat} {to sz fr pl le L l2 S s2 a0 a1 a2 a3 b0 b1 b2 b3 z sh m : Int} (k0 : to = nz ax) (k1 : sz = nz (2 + ax)) (k2 : fr = nz (4 + ax)) (k3 : pl = nz (6 + ax)) (k4 : le = nz (8 + ax)) (hz : z = 0) (hL : l2 = L) (hS : s2 = S) (p0 : a0 = to) (q0 : b0 = to + sz) (r0 : sh = fr - to) (p1 : a1 = max a0 pl) (q1 : b1 = min b0 (pl + le)) (p2 : a2 = max a1 z) (q2 : b2 = min b1 (z + l2)) (hm : m = -sh) (p3 : a3 = max a2 m) (q3 : b3 = min b2 (m + s2)) : a3 = stA nz ax (some S) ∧ b3 = enA nz ax L (some S) := by
  subst k0 k1 k2 k3 k4 hz hL hS p0 q0 r0 p1 q1 p2 q2 hm p3 q3
  unfold stA enA
  dsimp only
  generalize max (nz ax) (nz (6 + ax)) = x
  generalize min (nz ax + nz (2 + ax)) (nz (6 + ax) + nz (8 + ax)) = y
  refine ⟨rfl, ?_⟩
  rw [Int.zero_add, Int.add_comm, ← Int.sub_eq_add_neg]
