theorem P_l {D : va_G} {cl : List vw_C} {wa wb : va_W} {H : Heap} (h : va_P D cl (wa ++ wb) H) : va_P D cl wa H := fun k q hk => h k q (by rw [List.getElem?_append_left (List.getElem?_eq_some_iff.mp hk).1]; exact hk)
theorem P_r {D : va_G} {cl : List vw_C} {wa wb : va_W} {H : Heap} (h : va_P D cl (wa ++ wb) H) : va_P D cl wb H := fun k q hk => h (wa.length + k) q (by rw [List.getElem?_append_right (by omega), Nat.add_sub_cancel_left]; exact hk)
theorem D_l {A : Nat → Prop} {wa wb : va_W} (h : va_D A (wa ++ wb)) : va_D A wa := by
  have ha : ∀ k q, wa[k]? = some q → (wa ++ wb)[k]? = some q := fun k q h => by rw [List.getElem?_append_left (List.getElem?_eq_some_iff.mp h).1]; exact h
  exact ⟨fun i j x y hi hj e => h.1 i j x y (ha i x hi) (ha j y hj) e, fun k q hk => h.2 k q (ha k q hk)⟩
theorem D_r {A : Nat → Prop} {wa wb : va_W} (h : va_D A (wa ++ wb)) : va_D A wb := by
  have hb : ∀ k q, wb[k]? = some q → (wa ++ wb)[wa.length + k]? = some q := fun k q h => by rw [List.getElem?_append_right (by omega), Nat.add_sub_cancel_left]; exact h
  exact ⟨fun i j x y hi hj e => by have := h.1 _ _ x y (hb i x hi) (hb j y hj) e; omega, fun k q hk => h.2 _ q (hb k q hk)⟩
theorem jnL {A0 : Nat → Prop} {D : va_G} {cl : List vw_C} {wa wb wc : va_W} {H H1 : Heap} (hP : va_P D cl (wa ++ wb) H) (hD : va_D A0 (wa ++ wb)) (hk : ∀ q : Nat, q < H.size → ¬ va_A wa H.size q → H1[q]? = H[q]?) (hF : ∀ q, va_A wa H.size q → A0 q) (hP1 : va_P D cl wc H1) (hD1 : va_D (va_A wa H.size) wc) : va_P D cl (wc ++ wb) H1 ∧ va_D A0 (wc ++ wb) := by
  have hb : ∀ k q, wb[k]? = some q → (wa ++ wb)[wa.length + k]? = some q := fun k q h => by rw [List.getElem?_append_right (by omega), Nat.add_sub_cancel_left]; exact h
  have ha : ∀ k q, wa[k]? = some q → (wa ++ wb)[k]? = some q := fun k q h => by rw [List.getElem?_append_left (List.getElem?_eq_some_iff.mp h).1]; exact h
  have out : ∀ (k : Nat) (q : Nat × va_E), wb[k]? = some q → q.1 < H.size ∧ ¬ va_A wa H.size q.1 := by
    intro k q h
    have hl := (hP _ q (hb k q h)).lt
    refine ⟨hl, fun z => ?_⟩
    rcases z with ⟨i, e, z⟩ | z
    · have h2 := hD.1 i (wa.length + k) (q.1, e) q (ha i _ z) (hb k q h) rfl
      have h3 := (List.getElem?_eq_some_iff.mp z).1
      omega
    · omega
  refine ⟨va_P.app hP1 (fun k q h => (hP _ q (hb k q h)).kept (hk q.1 (out k q h).1 (out k q h).2)), va_D.app (hD1.weaken (fun _ q _ h => hF q.1 h)) (D_r hD) (fun i j p q hi hj e => ?_)⟩
  exact (out j q hj).2 (by rw [← e]; exact hD1.2 i p hi)
theorem jnR {A0 : Nat → Prop} {D : va_G} {cl : List vw_C} {wa wb wc : va_W} {H H1 : Heap} (hP : va_P D cl (wa ++ wb) H) (hD : va_D A0 (wa ++ wb)) (hk : ∀ q : Nat, q < H.size → ¬ va_A wb H.size q → H1[q]? = H[q]?) (hF : ∀ q, va_A wb H.size q → A0 q) (hP1 : va_P D cl wc H1) (hD1 : va_D (va_A wb H.size) wc) : va_P D cl (wa ++ wc) H1 ∧ va_D A0 (wa ++ wc) := by
  have hb : ∀ k q, wb[k]? = some q → (wa ++ wb)[wa.length + k]? = some q := fun k q h => by rw [List.getElem?_append_right (by omega), Nat.add_sub_cancel_left]; exact h
  have ha : ∀ k q, wa[k]? = some q → (wa ++ wb)[k]? = some q := fun k q h => by rw [List.getElem?_append_left (List.getElem?_eq_some_iff.mp h).1]; exact h
  have out : ∀ (k : Nat) (q : Nat × va_E), wa[k]? = some q → q.1 < H.size ∧ ¬ va_A wb H.size q.1 := by
    intro k q h
    have hl := (hP _ q (ha k q h)).lt
    refine ⟨hl, fun z => ?_⟩
    rcases z with ⟨i, e, z⟩ | z
    · have h2 := hD.1 (wa.length + i) k (q.1, e) q (hb i _ z) (ha k q h) rfl
      have h3 := (List.getElem?_eq_some_iff.mp h).1
      omega
    · omega
  refine ⟨va_P.app (fun k q h => (hP _ q (ha k q h)).kept (hk q.1 (out k q h).1 (out k q h).2)) hP1, va_D.app (D_l hD) (hD1.weaken (fun _ q _ h => hF q.1 h)) (fun i j p q hi hj e => ?_)⟩
  exact (out i p hi).2 (by rw [e]; exact hD1.2 j q hj)
section BCF
variable {p : Program} {l : Launch} {e : Env} {R : Room} {s : State} {m : MethodId} {args : Array Value} {below : List Frame} {meth : Method} {c : Code} {H : Heap} {locs : List Loc} {cells slots : Nat} {Q : State → Prop}
variable {pc : Nat} {ls : Array Slot} {rest st0 : List Value} {a : Array Value} {A0 : Nat → Prop} {H0 : Heap} {mc ms : Nat} {D : va_G} {cl : List vw_C} {wa wb : va_W}
theorem cL_i {S : Type} {post : Int32 → S → Prop} {tf : S → List (ClassId × FieldType)} {wf : S → va_W} (hr : va_Run p l e R s m args below meth c H locs cells slots mc ms (F0 m pc ls st0) rest (va_Qi post (wB D cl (va_A wa H.size) tf wf) (va_A wa H.size) a) (va_A wa H.size)) (hP : va_P D cl (wa ++ wb) H) (hD : va_D A0 (wa ++ wb)) (hS : va_S A0 H0 H locs) (hA : ∀ q, H0.size ≤ q → A0 q)
    (kk : ∀ (r : Int32) (u : S) (H1 : Heap) (locs1 : List Loc), post r u → va_P D cl (wf u ++ wb) H1 → va_D A0 (wf u ++ wb) → va_S A0 H0 H1 locs1 → W p l e R s m args below meth c H1 locs1 (cells + mc) (slots + ms) Q (F0 m (pc + 3) ls (.int r :: rest))) : W p l e R s m args below meth c H locs cells slots Q (F0 m pc ls st0) := by
  have hF := va_freeA (D_l hD) hS hA
  refine va_calli hr hS (fun q _ h => hF q h) hF (fun r u t H1 locs1 ht hvm hw hB hz hk hS1 => ?_)
  obtain ⟨g1, g2⟩ := jnL hP hD hk hF (by rw [← ht]; exact hB.1) hB.2.2
  exact kk r u H1 locs1 hw g1 g2 hS1
theorem cR_i {S : Type} {post : Int32 → S → Prop} {tf : S → List (ClassId × FieldType)} {wf : S → va_W} (hr : va_Run p l e R s m args below meth c H locs cells slots mc ms (F0 m pc ls st0) rest (va_Qi post (wB D cl (va_A wb H.size) tf wf) (va_A wb H.size) a) (va_A wb H.size)) (hP : va_P D cl (wa ++ wb) H) (hD : va_D A0 (wa ++ wb)) (hS : va_S A0 H0 H locs) (hA : ∀ q, H0.size ≤ q → A0 q)
    (kk : ∀ (r : Int32) (u : S) (H1 : Heap) (locs1 : List Loc), post r u → va_P D cl (wa ++ wf u) H1 → va_D A0 (wa ++ wf u) → va_S A0 H0 H1 locs1 → W p l e R s m args below meth c H1 locs1 (cells + mc) (slots + ms) Q (F0 m (pc + 3) ls (.int r :: rest))) : W p l e R s m args below meth c H locs cells slots Q (F0 m pc ls st0) := by
  have hF := va_freeA (D_r hD) hS hA
  refine va_calli hr hS (fun q _ h => hF q h) hF (fun r u t H1 locs1 ht hvm hw hB hz hk hS1 => ?_)
  obtain ⟨g1, g2⟩ := jnR hP hD hk hF (by rw [← ht]; exact hB.1) hB.2.2
  exact kk r u H1 locs1 hw g1 g2 hS1
theorem cR_v {S : Type} {post : S → Prop} {tf : S → List (ClassId × FieldType)} {wf : S → va_W} (hr : va_Run p l e R s m args below meth c H locs cells slots mc ms (F0 m pc ls st0) rest (va_Qv post (wB D cl (va_A wb H.size) tf wf) (va_A wb H.size) a) (va_A wb H.size)) (hP : va_P D cl (wa ++ wb) H) (hD : va_D A0 (wa ++ wb)) (hS : va_S A0 H0 H locs) (hA : ∀ q, H0.size ≤ q → A0 q)
    (kk : ∀ (u : S) (H1 : Heap) (locs1 : List Loc), post u → va_P D cl (wa ++ wf u) H1 → va_K D cl (tf u) s → va_D A0 (wa ++ wf u) → va_S A0 H0 H1 locs1 → W p l e R s m args below meth c H1 locs1 (cells + mc) (slots + ms) Q (F0 m (pc + 3) ls rest)) : W p l e R s m args below meth c H locs cells slots Q (F0 m pc ls st0) := by
  have hF := va_freeA (D_r hD) hS hA
  refine va_callv hr hS (fun q _ h => hF q h) hF (fun u t H1 locs1 ht hvm hw hB hz hk hS1 => ?_)
  obtain ⟨g1, g2⟩ := jnR hP hD hk hF (by rw [← ht]; exact hB.1) hB.2.2
  exact kk u H1 locs1 hw g1 (va_K.moved hvm.symm hB.2.1) g2 hS1
end BCF
