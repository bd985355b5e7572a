theorem stA_0 (nz : Nat → Int) (ax : Nat) (so : Option Int) : 0 ≤ stA nz ax so := Int.le_trans (Int.le_max_right _ _) (Int.le_max_left _ _)
theorem enA_le (nz : Nat → Int) (ax : Nat) (len : Int) (so : Option Int) : enA nz ax len so ≤ len := Int.le_trans (Int.min_le_left _ _) (Int.min_le_right _ _)
theorem cn_zero {wN hN : Nat → Nat} {nz : Nat → Int} {tg : Nat} {so : Option Nat} {a b : Int} (ha : a = max (enA nz 0 (wN tg) (so.map fun s => (wN s : Int)) - stA nz 0 (so.map fun s => (wN s : Int))) 0) (hb : b = max (enA nz 1 (hN tg) (so.map fun s => (hN s : Int)) - stA nz 1 (so.map fun s => (hN s : Int))) 0) (h : a = 0 ∨ b = 0) : cnA wN hN nz tg so = 0 := by
  unfold cnA
  rw [← ha, ← hb]
  rcases h with h | h
  · rw [h, Int.zero_mul]
  · rw [h, Int.mul_zero]
theorem CI.cg {g0 gn : Nat → Nat → Int32} {t : Nat} {rw ht : Nat → Nat} {so pa : Option Nat} {sx sy : Int} {ru : Int32} {st en : Nat} {pr pr' : Nat → Prop} (h : CI g0 gn t rw ht so pa sx sy ru st en pr) (e : ∀ q, pr' q ↔ pr q) : CI g0 gn t rw ht so pa sx sy ru st en pr' := by
  obtain ⟨h1, h2, h3, h4⟩ := h
  exact ⟨h1, h2, fun x Y a b c d q => h3 x Y a b c d ((e Y).mp q), fun x Y a b q => h4 x Y a b (fun z => q ⟨z.1, z.2.1, (e Y).mpr z.2.2⟩)⟩
theorem RC.bits {wN hN : Nat → Nat} {Bt Bt' : Nat → Nat → Nat → Bool} {nz : Nat → Int} {tg : Nat} {so pa : Option Nat} {ru : Int32} {ln : Nat → Nat} {wd ht rw : Nat → Int32} {g g' : Nat → Nat → Int32} {nu : Nat → Int32} (h : RC wN hN Bt nz tg so pa ru ln wd ht rw g nu) (hF : ∀ f, f < 4 → RF (g' f) (rN wN f) (wN f) (hN f) (Bt' f)) : RC wN hN Bt' nz tg so pa ru ln wd ht rw g' nu := by
  obtain ⟨h1, hrest⟩ := h
  refine ⟨fun f hf => ?_, hrest⟩
  obtain ⟨a1, a2, a3, a4, a5, a6, a7, a8, a9, a10, a11⟩ := h1 f hf
  exact ⟨a1, a2, a3, a4, a5, a6, a7, a8, a9, a10, hF f hf⟩
/-- the rows written behind n of them -/
abbrev prr (y2 : Int32) (sty eny n : Nat) : Nat → Prop := fun q => (y2.toInt < 0 → eny ≤ q + n) ∧ (0 ≤ y2.toInt → q < sty + n) ∧ sty ≤ q ∧ q < eny
theorem rows_step {g gn g1 : Nat → Nat → Int32} {tg : Nat} {rw ht : Nat → Nat} {so pa : Option Nat} {x2 y2 ru : Int32} {st en sty eny yn n0 : Nat} (h : CI g gn tg rw ht so pa x2.toInt y2.toInt ru st en (prr y2 sty eny n0)) (hw : RI gn g1 tg rw ht so pa x2.toInt y2.toInt ru st en yn (prn x2 st en ((en - 1) / 16 - st / 16 + 1))) (hse : st < en) (hyh : yn < ht tg) (hy1 : sty ≤ yn) (hy2 : yn < eny)
    (hK : (y2.toInt < 0 → (yn : Int) = (eny : Int) - 1 - n0) ∧ (0 ≤ y2.toInt → (yn : Int) = (sty : Int) + n0)) (hpa : pa = some tg → rw tg = 1 ∧ ht tg = 16) : CI g g1 tg rw ht so pa x2.toInt y2.toInt ru st en (prr y2 sty eny (n0 + 1)) :=
  CI_step h hw (fun x h1 h2 => by unfold prn; omega) hyh (by unfold prr; omega) (fun q => by unfold prr; omega) (fun z q hq => by unfold prr at hq; omega) (fun z q hq => by unfold prr at hq; omega) hpa
/-- a copy, done -/
theorem cb_done {wN hN : Nat → Nat} {Bt : Nat → Nat → Nat → Bool} {nz : Nat → Int} {tg : Nat} {so pa : Option Nat} {ru : Int32} {ln : Nat → Nat} {wd ht rw : Nat → Int32} {g g1 : Nat → Nat → Int32} {nu : Nat → Int32} (hR : RC wN hN Bt nz tg so pa ru ln wd ht rw g nu) (hpp : ∀ q, pa = some q → wN q = 16 ∧ hN q = 16) {x0 x1 x2 y0 y1 y2 : Int32} {st en sty eny n : Nat}
    (hX : x0.toInt = stA nz 0 (so.map fun s => (wN s : Int)) ∧ x1.toInt = enA nz 0 (wN tg) (so.map fun s => (wN s : Int)) ∧ x2.toInt = nz 4 - nz 0) (hY : y0.toInt = stA nz 1 (so.map fun s => (hN s : Int)) ∧ y1.toInt = enA nz 1 (hN tg) (so.map fun s => (hN s : Int)) ∧ y2.toInt = nz 5 - nz 1)
    (e1 : x0.toInt = (st : Int)) (e2 : x1.toInt = (en : Int)) (e3 : y0.toInt = (sty : Int)) (e4 : y1.toInt = (eny : Int)) (hn : n = eny - sty) (hC : CI g g1 tg (rN wN) hN so pa x2.toInt y2.toInt ru st en (prr y2 sty eny n)) : RC wN hN (cpA wN hN nz tg so pa ru Bt) nz tg so pa ru ln wd ht rw g1 nu := by
  obtain ⟨hF, hnu, htg, hso, hpa, -⟩ := id hR
  rw [hX.2.2, hY.2.2] at hC
  refine hR.bits (cp_RF (rw := rN wN) (fun f hf => (hF f hf).2.2.2.2.2.2.2.2.2.2) (fun f hf => by unfold rN; omega) htg hso (fun q hq => ⟨hpa q hq, (hpp q hq).1, (hpp q hq).2, by unfold rN; rw [(hpp q hq).1]⟩) (by rw [← e1]; exact hX.1) (by rw [← e2]; exact hX.2.1) (by rw [← e3]; exact hY.1) (by rw [← e4]; exact hY.2.1) (hC.cg (fun q => ?_)))
  have z1 := hY.2.2
  unfold prr
  rcases Int.lt_or_le y2.toInt 0 with s | s
  · omega
  · omega
theorem stA_hi {nu : Nat → Int32} {nz : Nat → Int} (hnu : ∀ i, i < 10 → (nu i).toInt = nz i ∧ -32768 ≤ nz i ∧ nz i ≤ 32767) {ax : Nat} (hax : ax < 2) (so : Option Int) : stA nz ax so ≤ 65535 := by
  have h0 := hnu ax (by omega)
  have h6 := hnu (6 + ax) (by omega)
  have h4 := hnu (4 + ax) (by omega)
  unfold stA
  cases so with
  | none => dsimp only; omega
  | some s => dsimp only; omega
theorem map_nn (wN : Nat → Nat) (so : Option Nat) : ∀ s, (so.map fun s => (wN s : Int)) = some s → 0 ≤ s := by
  intro s h
  cases so with
  | none => cases h
  | some q => cases h; exact Int.natCast_nonneg _
theorem enA_lo {nu : Nat → Int32} {nz : Nat → Int} (hnu : ∀ i, i < 10 → (nu i).toInt = nz i ∧ -32768 ≤ nz i ∧ nz i ≤ 32767) {ax : Nat} (hax : ax < 2) {len : Int} (hl : 0 ≤ len) (so : Option Int) (hs : ∀ s, so = some s → 0 ≤ s) : -65536 ≤ enA nz ax len so := by
  have h0 := hnu ax (by omega)
  have h2 := hnu (2 + ax) (by omega)
  have h6 := hnu (6 + ax) (by omega)
  have h8 := hnu (8 + ax) (by omega)
  have h4 := hnu (4 + ax) (by omega)
  unfold enA
  cases so with
  | none => dsimp only; omega
  | some s => have := hs s rfl; dsimp only; omega
