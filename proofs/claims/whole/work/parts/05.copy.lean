/-! ===== copying by words, seen as bits ===== -/
/-- within row y the words of pr are written: g0 before the row, gn now -/
def RI (g0 gn : Nat → Nat → Int32) (t : Nat) (rw ht : Nat → Nat) (so pa : Option Nat) (sx sy : Int) (ru : Int32) (st en y : Nat) (pr : Nat → Prop) : Prop :=
  (∀ f, f ≠ t → gn f = g0 f) ∧ (∀ i j, 16 ≤ j → bt (gn t i) j = bt (g0 t i) j) ∧
  (∀ x Y, x < 16 * rw t → Y < ht t → Y = y → st ≤ x → x < en → pr (x / 16) → BV (gn t) (rw t) x Y = rB ru (IB g0 rw ht so pa sx sy x Y) (BV (g0 t) (rw t) x Y)) ∧
  (∀ x Y, x < 16 * rw t → Y < ht t → ¬ (Y = y ∧ st ≤ x ∧ x < en ∧ pr (x / 16)) → BV (gn t) (rw t) x Y = BV (g0 t) (rw t) x Y)
theorem RI_0 {g0 : Nat → Nat → Int32} {t : Nat} {rw ht : Nat → Nat} {so pa : Option Nat} {sx sy : Int} {ru : Int32} {st en y : Nat} {pr : Nat → Prop} (h : ∀ q, ¬ pr q) : RI g0 g0 t rw ht so pa sx sy ru st en y pr :=
  ⟨fun _ _ => rfl, fun _ _ _ => rfl, fun x _ _ _ _ _ _ hp => absurd hp (h _), fun _ _ _ _ _ => rfl⟩
theorem SB_same {g g' : Nat → Int32} {rw ht : Nat} {X Y : Int} (h : 0 ≤ X → X < 16 * (rw : Int) → 0 ≤ Y → Y < (ht : Int) → BV g' rw X.toNat Y.toNat = BV g rw X.toNat Y.toNat) : SB g' rw ht X Y = SB g rw ht X Y := by
  unfold SB
  by_cases hc : 0 ≤ X ∧ X < 16 * (rw : Int) ∧ 0 ≤ Y ∧ Y < (ht : Int)
  · rw [h hc.1 hc.2.1 hc.2.2.1 hc.2.2.2]
  · rw [decide_eq_false hc]; rfl
theorem IB_same {g0 gn : Nat → Nat → Int32} {t : Nat} {rw ht : Nat → Nat} {so pa : Option Nat} {sx sy : Int} {x y : Nat} (h1 : ∀ f, f ≠ t → gn f = g0 f)
    (hs : so = some t → 0 ≤ (x : Int) + sx → (x : Int) + sx < 16 * (rw t : Int) → 0 ≤ (y : Int) + sy → (y : Int) + sy < (ht t : Int) → BV (gn t) (rw t) ((x : Int) + sx).toNat ((y : Int) + sy).toNat = BV (g0 t) (rw t) ((x : Int) + sx).toNat ((y : Int) + sy).toNat)
    (hp : pa = some t → BV (gn t) 1 (x % 16) (y % 16) = BV (g0 t) 1 (x % 16) (y % 16)) : IB gn rw ht so pa sx sy x y = IB g0 rw ht so pa sx sy x y := by
  unfold IB
  congr 1
  · cases so with
    | none => rfl
    | some s =>
      by_cases e : s = t
      · subst e
        exact SB_same (fun a b c d => hs rfl a b c d)
      · show SB (gn s) _ _ _ _ = SB (g0 s) _ _ _ _
        rw [h1 s e]
  · cases pa with
    | none => rfl
    | some q =>
      by_cases e : q = t
      · subst e
        exact hp rfl
      · show BV (gn q) _ _ _ = BV (g0 q) _ _ _
        rw [h1 q e]
theorem RI_step {g0 gn : Nat → Nat → Int32} {t : Nat} {rw ht : Nat → Nat} {so pa : Option Nat} {sx sy : Int} {ru : Int32} {st en y k : Nat} {pr pr' : Nat → Prop} {nw inw old mk : Int32}
    (h : RI g0 gn t rw ht so pa sx sy ru st en y pr) (hk : k < rw t) (hy : y < ht t) (hold : old = gn t (y * rw t + k))
    (hmk : ∀ j, j < 16 → bt mk j = (decide (st ≤ 16 * k + 15 - j) && decide (16 * k + 15 - j < en))) (hmk2 : ∀ j, 16 ≤ j → bt mk j = false)
    (hin : ∀ j, j < 16 → bt inw j = IB gn rw ht so pa sx sy (16 * k + 15 - j) y)
    (hnw : ∀ j, j < 32 → bt nw j = if bt mk j = true then rB ru (bt inw j) (bt old j) else bt old j)
    (hnp : ¬ pr k) (hpr : ∀ q, pr' q ↔ pr q ∨ q = k) (hl : sx < 0 → ∀ q, pr q → k < q) (hr : 0 ≤ sx → ∀ q, pr q → q < k) (hpa : pa = some t → rw t = 1 ∧ ht t = 16) :
    RI g0 (va_up gn t (upd (gn t) (y * rw t + k) nw)) t rw ht so pa sx sy ru st en y pr' := by
  obtain ⟨h1, h2, h3, h4⟩ := h
  have same : ∀ x, x < 16 * rw t → x / 16 = k → IB gn rw ht so pa sx sy x y = IB g0 rw ht so pa sx sy x y := by
    intro x hx hxk
    refine IB_same h1 (fun _ a b c d => ?_) (fun hq => ?_)
    · refine h4 _ _ (by omega) (by omega) (fun hh => ?_)
      obtain ⟨-, -, -, hp⟩ := hh
      rcases Int.lt_or_le sx 0 with q | q
      · have := hl q _ hp
        omega
      · have := hr q _ hp
        omega
    · obtain ⟨e1, e2⟩ := hpa hq
      have e3 : x % 16 = x := by omega
      have e4 : y % 16 = y := by omega
      rw [e3, e4]
      have := h4 x y hx hy (fun hh => by rw [hxk] at hh; exact hnp hh.2.2.2)
      rw [e1] at this
      exact this
  have bit : ∀ x, x < 16 * rw t → x / 16 = k → bt nw (15 - x % 16) = if st ≤ x ∧ x < en then rB ru (IB g0 rw ht so pa sx sy x y) (BV (g0 t) (rw t) x y) else BV (g0 t) (rw t) x y := by
    intro x hx hxk
    have e : 16 * k + 15 - (15 - x % 16) = x := by omega
    have ho : bt old (15 - x % 16) = BV (g0 t) (rw t) x y := by
      have := h4 x y hx hy (fun hh => by rw [hxk] at hh; exact hnp hh.2.2.2)
      rw [← this, hold]
      unfold BV
      rw [hxk]
    rw [hnw _ (by omega), hmk _ (by omega), hin _ (by omega), e, same x hx hxk, ho]
    by_cases hc : st ≤ x ∧ x < en
    · rw [if_pos hc, if_pos (by simp [hc.1, hc.2])]
    · rw [if_neg hc, if_neg (by simp; omega)]
  refine ⟨fun f hf => ?_, fun i j hj => ?_, fun x Y hx hY hYy hs he hp => ?_, fun x Y hx hY hn => ?_⟩
  · rw [va_up_ne _ _ hf]; exact h1 f hf
  · rw [va_up_self]
    by_cases hi : i = y * rw t + k
    · show bt (if i = _ then _ else _) j = _
      rw [if_pos hi]
      rcases Nat.lt_or_ge j 32 with q | q
      · rw [hnw j q, hmk2 j hj, if_neg (by simp), hold, ← hi]
        exact h2 i j hj
      · rw [b_big q, b_big q]
    · show bt (if i = _ then _ else _) j = _
      rw [if_neg hi]
      exact h2 i j hj
  · subst hYy
    rw [va_up_self, BV_upd hk hx]
    by_cases hxk : x / 16 = k
    · rw [if_pos ⟨rfl, hxk⟩, bit x hx hxk, if_pos ⟨hs, he⟩]
    · rw [if_neg (fun q => hxk q.2)]
      rcases (hpr _).mp hp with q | q
      · exact h3 x Y hx hY rfl hs he q
      · exact absurd q hxk
  · rw [va_up_self, BV_upd hk hx]
    by_cases hxk : Y = y ∧ x / 16 = k
    · obtain ⟨rfl, hxk⟩ := hxk
      rw [if_pos ⟨rfl, hxk⟩, bit x hx hxk, if_neg]
      intro q
      exact hn ⟨rfl, q.1, q.2, (hpr _).mpr (Or.inr hxk)⟩
    · rw [if_neg hxk]
      exact h4 x Y hx hY (fun q => hn ⟨q.1, q.2.1, q.2.2.1, (hpr _).mpr (Or.inl q.2.2.2)⟩)
/-- the rows of pr are written: g0 before all, gn now -/
def CI (g0 gn : Nat → Nat → Int32) (t : Nat) (rw ht : Nat → Nat) (so pa : Option Nat) (sx sy : Int) (ru : Int32) (st en : Nat) (pr : Nat → Prop) : Prop :=
  (∀ f, f ≠ t → gn f = g0 f) ∧ (∀ i j, 16 ≤ j → bt (gn t i) j = bt (g0 t i) j) ∧
  (∀ x Y, x < 16 * rw t → Y < ht t → st ≤ x → x < en → pr Y → BV (gn t) (rw t) x Y = rB ru (IB g0 rw ht so pa sx sy x Y) (BV (g0 t) (rw t) x Y)) ∧
  (∀ x Y, x < 16 * rw t → Y < ht t → ¬ (st ≤ x ∧ x < en ∧ pr Y) → BV (gn t) (rw t) x Y = BV (g0 t) (rw t) x Y)
theorem CI_0 {g0 : Nat → Nat → Int32} {t : Nat} {rw ht : Nat → Nat} {so pa : Option Nat} {sx sy : Int} {ru : Int32} {st en : Nat} {pr : Nat → Prop} (h : ∀ q, ¬ pr q) : CI g0 g0 t rw ht so pa sx sy ru st en pr :=
  ⟨fun _ _ => rfl, fun _ _ _ => rfl, fun _ Y _ _ _ _ hp => absurd hp (h Y), fun _ _ _ _ _ => rfl⟩
theorem CI_step {g0 gn g1 : Nat → Nat → Int32} {t : Nat} {rw ht : Nat → Nat} {so pa : Option Nat} {sx sy : Int} {ru : Int32} {st en y : Nat} {pr pr' : Nat → Prop} {all : Nat → Prop}
    (h : CI g0 gn t rw ht so pa sx sy ru st en pr) (hw : RI gn g1 t rw ht so pa sx sy ru st en y all) (ha : ∀ x, st ≤ x → x < en → all (x / 16)) (hy : y < ht t)
    (hnp : ¬ pr y) (hpr : ∀ q, pr' q ↔ pr q ∨ q = y) (hl : sy < 0 → ∀ q, pr q → y < q) (hr : 0 ≤ sy → ∀ q, pr q → q < y) (hpa : pa = some t → rw t = 1 ∧ ht t = 16) :
    CI g0 g1 t rw ht so pa sx sy ru st en pr' := by
  obtain ⟨h1, h2, h3, h4⟩ := h
  obtain ⟨r1, r2, r3, r4⟩ := hw
  have same : ∀ x, x < 16 * rw t → IB gn rw ht so pa sx sy x y = IB g0 rw ht so pa sx sy x y := by
    intro x hx
    refine IB_same h1 (fun _ a b c d => ?_) (fun hq => ?_)
    · refine h4 _ _ (by omega) (by omega) (fun hh => ?_)
      obtain ⟨-, -, hp⟩ := hh
      rcases Int.lt_or_le sy 0 with q | q
      · have := hl q _ hp
        omega
      · have := hr q _ hp
        omega
    · obtain ⟨e1, e2⟩ := hpa hq
      have e3 : x % 16 = x := by omega
      have e4 : y % 16 = y := by omega
      rw [e3, e4]
      have := h4 x y hx hy (fun hh => hnp hh.2.2)
      rw [e1] at this
      exact this
  refine ⟨fun f hf => (r1 f hf).trans (h1 f hf), fun i j hj => (r2 i j hj).trans (h2 i j hj), fun x Y hx hY hs he hp => ?_, fun x Y hx hY hn => ?_⟩
  · by_cases hYy : Y = y
    · subst hYy
      rw [r3 x Y hx hY rfl hs he (ha x hs he), same x hx, h4 x Y hx hY (fun q => hnp q.2.2)]
    · rw [r4 x Y hx hY (fun q => hYy q.1)]
      rcases (hpr _).mp hp with q | q
      · exact h3 x Y hx hY hs he q
      · exact absurd q hYy
  · rw [r4 x Y hx hY (fun q => hn ⟨q.2.1, q.2.2.1, (hpr _).mpr (Or.inr q.1)⟩)]
    exact h4 x Y hx hY (fun q => hn ⟨q.1, q.2.1, (hpr _).mpr (Or.inl q.2.2)⟩)
