/-- a callee of one cell that makes one more -/
theorem jnP {A0 : Nat → Prop} {D : va_G} {cl : List vw_C} {ws : va_W} {H H1 : Heap} {k a b : Nat} {e0 e1 e2 : va_E} (hP : va_P D cl ws H) (hD : va_D A0 ws) (he : ws[k]? = some (a, e0)) (hk : ∀ q : Nat, q < H.size → ¬ va_A [(a, e0)] H.size q → H1[q]? = H[q]?) (hF : ∀ q, va_A [(a, e0)] H.size q → A0 q) (hP1 : va_P D cl [(a, e1), (b, e2)] H1) (hD1 : va_D (va_A [(a, e0)] H.size) [(a, e1), (b, e2)]) : va_P D cl (ws.set k (a, e1) ++ [(b, e2)]) H1 ∧ va_D A0 (ws.set k (a, e1) ++ [(b, e2)]) := by
  obtain ⟨g1, g2⟩ := jn1 (e := e1) hP hD he hk (one_P (k := 0) hP1 rfl)
  have hab : a ≠ b := fun z => by have := hD1.1 0 1 (a, e1) (b, e2) rfl rfl z; omega
  have hAb : va_A [(a, e0)] H.size b := hD1.2 1 (b, e2) rfl
  have hbH : H.size ≤ b := by
    rcases hAb with ⟨i, e9, h⟩ | h
    · match i, h with
      | 0, h => cases h; exact absurd rfl hab
    · exact h
  refine ⟨va_P.app g1 (one_P (k := 1) hP1 rfl), va_D.app g2 ⟨fun i j x y hi hj _ => ?_, fun i q hi => ?_⟩ (fun i j p q hi hj => ?_)⟩
  · match i, j, hi, hj with
    | 0, 0, _, _ => rfl
  · match i, hi with
    | 0, hi => cases hi; exact hF _ hAb
  · match j, hj with
    | 0, hj =>
      cases hj
      have hl := (List.getElem?_eq_some_iff.mp he).1
      by_cases q : i = k
      · subst q
        rw [List.getElem?_set_self hl] at hi
        cases hi
        exact hab
      · rw [List.getElem?_set_ne (Ne.symm q)] at hi
        have := (hP i p hi).lt
        show p.1 ≠ b
        omega
section BCE
variable {p : Program} {l : Launch} {e : Env} {R : Room} {s : State} {m : MethodId} {args : Array Value} {below : List Frame} {meth : Method} {c : Code} {H : Heap} {locs : List Loc} {cells slots : Nat} {Q : State → Prop}
variable {pc : Nat} {ls : Array Slot} {rest st0 : List Value} {a : Array Value} {A0 : Nat → Prop} {H0 : Heap} {mc ms : Nat} {D : va_G} {cl : List vw_C} {ws : va_W}
theorem cJP_v {S : Type} {post : S → Prop} {tf : S → List (ClassId × FieldType)} {a0 : Nat} {e0 : va_E} {f1 f2 : S → va_E} {bf : S → Nat} (k : Nat) (he : ws[k]? = some (a0, e0)) (hr : va_Run p l e R s m args below meth c H locs cells slots mc ms (F0 m pc ls st0) rest (va_Qv post (wB D cl (va_A [(a0, e0)] H.size) tf (fun u => [(a0, f1 u), (bf u, f2 u)])) (va_A [(a0, e0)] H.size) a) (va_A [(a0, e0)] H.size)) (hP : va_P D cl ws H) (hD : va_D A0 ws) (hS : va_S A0 H0 H locs) (hA : ∀ q, H0.size ≤ q → A0 q)
    (kk : ∀ (u : S) (H1 : Heap) (locs1 : List Loc), post u → va_P D cl (ws.set k (a0, f1 u) ++ [(bf u, f2 u)]) H1 → va_K D cl (tf u) s → va_D A0 (ws.set k (a0, f1 u) ++ [(bf u, f2 u)]) → va_S A0 H0 H1 locs1 → W p l e R s m args below meth c H1 locs1 (cells + mc) (slots + ms) Q (F0 m (pc + 3) ls rest)) : W p l e R s m args below meth c H locs cells slots Q (F0 m pc ls st0) := by
  have hF : ∀ q, va_A [(a0, e0)] H.size q → A0 q := by
    intro q h
    rcases h with ⟨i, e9, h⟩ | h
    · match i, h with
      | 0, h => cases h; exact hD.2 k _ he
    · exact hA q (Nat.le_trans hS.1 h)
  refine va_callv hr hS (fun q _ h => hF q h) hF (fun u t H1 locs1 ht hvm hw hB hz hk hS1 => ?_)
  have hP1 : va_P D cl [(a0, f1 u), (bf u, f2 u)] H1 := by rw [← ht]; exact hB.1
  obtain ⟨g1, g2⟩ := jnP hP hD he hk hF hP1 hB.2.2
  exact kk u H1 locs1 hw g1 (va_K.moved hvm.symm hB.2.1) g2 hS1
end BCE
theorem arr_cgq {cA : ClassId} {n : Nat} {f f' : Nat → Option Nat} (h : ∀ j, j < n → f j = f' j) : vp_cell cA (n, .inr (.inr (.inr (.inr f)))) = vp_cell cA (n, .inr (.inr (.inr (.inr f')))) := by
  have e : (fun j : Fin n => va_rf (f j.val)) = fun j : Fin n => va_rf (f' j.val) := by
    funext j
    rw [h j.val j.isLt]
  rw [vp_cell_q, vp_cell_q]
  simp only [arrV]
  first | rw [e] | simp [e]
theorem P_cgq {D : va_G} {cl : List vw_C} {ws : va_W} {H : Heap} {k a n : Nat} {cA : ClassId} {f f' : Nat → Option Nat} (hP : va_P D cl ws H) (he : ws[k]? = some (a, .inl (cA, n, .inr (.inr (.inr (.inr f)))))) (h : ∀ j, j < n → f j = f' j) : va_P D cl (ws.set k (a, .inl (cA, n, .inr (.inr (.inr (.inr f')))))) H := by
  have hl := (List.getElem?_eq_some_iff.mp he).1
  intro j q hj
  by_cases hjk : j = k
  · subst hjk
    rw [List.getElem?_set_self hl] at hj
    cases hj
    have h1 : H[a]? = some (vp_cell cA (n, .inr (.inr (.inr (.inr f))))) := hP j _ he
    show H[a]? = some (vp_cell cA (n, .inr (.inr (.inr (.inr f')))))
    rw [h1, arr_cgq h]
  · rw [List.getElem?_set_ne (Ne.symm hjk)] at hj
    exact hP j q hj
def pick4 (a b c d : Nat) : Nat → Nat := fun i => if i = 0 then a else if i = 1 then b else if i = 2 then c else d
def nz0 : Nat → Int := fun i => if i = 8 ∨ i = 9 then 16 else 0
theorem RC_0 : RC (fun _ => 16) (fun _ => 16) (fun _ _ _ => false) nz0 0 none none 3 (fun _ => 16) (fun _ => 16) (fun _ => 16) (fun _ => 1) (fun _ _ => 0) (upd (upd (fun _ => 0) 8 16) 9 16) := by
  refine ⟨fun f _ => ⟨(by decide : (16 : Int32).toInt = ((16 : Nat) : Int)), (by decide : (16 : Int32).toInt = ((16 : Nat) : Int)), (by decide : (1 : Int32).toInt = (((16 + 15) / 16 : Nat) : Int)), (by decide : 1 ≤ 16), (by decide : 1 ≤ 16), (by decide : (16 + 15) / 16 * 16 ≤ 16), (by decide : 16 ≤ 16), (by decide : 16 ≤ 4000), (by decide : 16 ≤ 64000), (by decide : 16 ≤ 4000), RF_blank⟩, fun i hi => ?_, by decide, fun s h => (by cases h), fun s h => (by cases h), by decide, by decide⟩
  have : i = 0 ∨ i = 1 ∨ i = 2 ∨ i = 3 ∨ i = 4 ∨ i = 5 ∨ i = 6 ∨ i = 7 ∨ i = 8 ∨ i = 9 := by omega
  rcases this with rfl | rfl | rfl | rfl | rfl | rfl | rfl | rfl | rfl | rfl <;> decide
theorem pick_q {a b c d j : Nat} (hj : j < 4) : va_up (va_up (va_up (va_up (fun _ => none) 0 (some a)) 1 (some b)) 2 (some c)) 3 (some d) j = some (pick4 a b c d j) := by
  rcases c4 hj with rfl | rfl | rfl | rfl <;> rfl
