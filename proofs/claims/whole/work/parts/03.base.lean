/-! ===== my base rows: ints as whole numbers, indices, calls over a whole world ===== -/
theorem ti_bm {z : Int} (h1 : -2147483648 ≤ z) (h2 : z ≤ 2147483647) : z.bmod (2 ^ 32) = z := by
  have e : (2 ^ 32 : Nat) = 4294967296 := by decide
  rw [e]
  exact Int.bmod_eq_of_le (by omega) (by omega)
theorem ti_add {x y : Int32} {a b : Int} (hx : x.toInt = a) (hy : y.toInt = b) (h1 : -2147483648 ≤ a + b) (h2 : a + b ≤ 2147483647) : (x + y).toInt = a + b := by
  rw [Int32.toInt_add, hx, hy]; exact ti_bm h1 h2
theorem ti_sub {x y : Int32} {a b : Int} (hx : x.toInt = a) (hy : y.toInt = b) (h1 : -2147483648 ≤ a - b) (h2 : a - b ≤ 2147483647) : (x - y).toInt = a - b := by
  rw [Int32.toInt_sub, hx, hy]; exact ti_bm h1 h2
theorem ti_mul {x y : Int32} {a b : Int} (hx : x.toInt = a) (hy : y.toInt = b) (h1 : -2147483648 ≤ a * b) (h2 : a * b ≤ 2147483647) : (x * y).toInt = a * b := by
  rw [Int32.toInt_mul, hx, hy]; exact ti_bm h1 h2
theorem ti_neg {x : Int32} {a : Int} (hx : x.toInt = a) (h1 : -2147483647 ≤ a) : (-x).toInt = -a := by
  have h2 := Int32.toInt_lt x
  rw [Int32.toInt_neg, hx]; exact ti_bm (by omega) (by omega)
theorem ti_lo (x : Int32) : -2147483648 ≤ x.toInt := by have := Int32.le_toInt x; omega
theorem ti_hi (x : Int32) : x.toInt ≤ 2147483647 := by have := Int32.toInt_lt x; omega
theorem ti_div {x y : Int32} {a b : Int} (hx : x.toInt = a) (hy : y.toInt = b) (h1 : 0 ≤ a) (h2 : 0 < b) : (x / y).toInt = a / b := by
  have h3 := ti_hi x
  have h4 : (a / b) ≤ a := Int.ediv_le_self b h1
  have h5 : 0 ≤ a / b := Int.ediv_nonneg h1 (by omega)
  rw [Int32.toInt_div, hx, hy, Int.tdiv_eq_ediv_of_nonneg h1]; exact ti_bm (by omega) (by omega)
theorem ti_rem {x y : Int32} {a b : Int} (hx : x.toInt = a) (hy : y.toInt = b) (h1 : 0 ≤ a) (h2 : 0 < b) : (x - x / y * y).toInt = a % b := by
  have h3 := ti_hi x
  have hd := ti_div hx hy h1 h2
  have h5 : 0 ≤ a / b := Int.ediv_nonneg h1 (by omega)
  have e := Int.mul_ediv_add_emod a b
  have h6 : 0 ≤ a % b := Int.emod_nonneg a (by omega)
  have e2 : a / b * b = b * (a / b) := Int.mul_comm _ _
  have h7 : 0 ≤ b * (a / b) := Int.mul_nonneg (by omega) h5
  have hm := ti_mul hd hy (by omega) (by omega)
  have hs := ti_sub hx hm (by omega) (by omega)
  rw [hs]; omega
theorem ti_eq {x y : Int32} {a b : Int} (hx : x.toInt = a) (hy : y.toInt = b) : x = y ↔ a = b := by
  rw [← hx, ← hy]; exact Int32.toInt_inj.symm
theorem ti_lt {x y : Int32} {a b : Int} (hx : x.toInt = a) (hy : y.toInt = b) : x < y ↔ a < b := by
  rw [← hx, ← hy]; exact Int32.lt_iff_toInt_lt
theorem ti_le {x y : Int32} {a b : Int} (hx : x.toInt = a) (hy : y.toInt = b) : x ≤ y ↔ a ≤ b := by
  rw [← hx, ← hy]; exact Int32.le_iff_toInt_le
theorem ti_nI {x : Int32} {n : Nat} (h : x.toInt = (n : Int)) : x = nI n := by
  have h2 := ti_hi x
  exact Int32.toInt_inj.mp (by rw [h, nI_toInt (by omega)])
theorem ix_of {i : Int32} {a : Int} {n : Nat} (hi : i.toInt = a) (h : 0 ≤ a ∧ a < n) : 0 ≤ i.toInt ∧ i.toInt < n := by rw [hi]; exact h
theorem ix_cl {i : Int32} {a : Int} (hi : i.toInt = a) : i.toNatClampNeg = a.toNat := by rw [← hi]; rfl
theorem ix_at {α : Type} (f : Nat → α) {i : Int32} {a : Int} (hi : i.toInt = a) : f i.toNatClampNeg = f a.toNat := by rw [ix_cl hi]
theorem nar_b {v : Int32} (h : v.toInt = 0 ∨ v.toInt = 1) : narrow .boolean (.int v) = .int v := by
  rcases h with h | h
  · have e : v = 0 := Int32.toInt_inj.mp (by rw [h]; rfl)
    subst e; rfl
  · have e : v = 1 := Int32.toInt_inj.mp (by rw [h]; rfl)
    subst e; rfl
/-- read only: the heap holds ws -/
abbrev rP (D : va_G) (cl : List vw_C) (tys : List (ClassId × FieldType)) (ws : va_W) (U : State) : Prop := va_P D cl ws U.heap ∧ va_K D cl tys U ∧ NS U
/-- a writer's start -/
abbrev wP (D : va_G) (cl : List vw_C) (tys : List (ClassId × FieldType)) (ws : va_W) (sz : Nat) (U : State) : Prop := U.heap.size = sz ∧ va_P D cl ws U.heap ∧ va_K D cl tys U ∧ va_D (fun _ => True) ws ∧ NS U
/-- a writer's end -/
abbrev wB {S : Type} (D : va_G) (cl : List vw_C) (A : Nat → Prop) (tf : S → List (ClassId × FieldType)) (wf : S → va_W) (u : S) (t : State) : Prop := va_P D cl (wf u) t.heap ∧ va_K D cl (tf u) t ∧ va_D A (wf u)
theorem blT {av : List Value} : FrameBlind (va_Pc av (fun _ => True)) := fun _ _ _ _ q => q
theorem blR {av : List Value} {D : va_G} {cl : List vw_C} {tys : List (ClassId × FieldType)} {ws : va_W} : FrameBlind (va_Pc av (rP D cl tys ws)) := fun a U g mk q => by
  obtain ⟨q0, qP, qK, qN⟩ := q
  exact ⟨q0, qP, va_K.moved (u := U) (U := U.calling g mk a) (Vm.Alike.refl U.vm) qK, NS.same (U := U.calling g mk a) rfl qN⟩
theorem blW {av : List Value} {D : va_G} {cl : List vw_C} {tys : List (ClassId × FieldType)} {ws : va_W} {sz : Nat} : FrameBlind (va_Pc av (wP D cl tys ws sz)) := fun a U g mk q => by
  obtain ⟨q0, qz, qP, qK, qD, qN⟩ := q
  exact ⟨q0, qz, qP, va_K.moved (u := U) (U := U.calling g mk a) (Vm.Alike.refl U.vm) qK, qD, NS.same (U := U.calling g mk a) rfl qN⟩
theorem prT {s : State} {H : Heap} {av : List Value} : PreS s H (va_Pc av (fun _ => True)) av := ⟨blT, fun _ _ _ => ⟨rfl, trivial⟩⟩
theorem prR {s : State} {H : Heap} {av : List Value} {D : va_G} {cl : List vw_C} {tys : List (ClassId × FieldType)} {ws : va_W} (hP : va_P D cl ws H) (hK : va_K D cl tys s) (hN : NS s) : PreS s H (va_Pc av (rP D cl tys ws)) av := ⟨blR, fun U hU hW => ⟨rfl, by rw [hU]; exact hP, va_K.moved hW.alike hK, NS.warm hW hN⟩⟩
theorem prRV {s : State} {H : Heap} {As : List Value} {D : va_G} {cl : List vw_C} {tys : List (ClassId × FieldType)} {ws : va_W} {a q0 ci : Nat} {q : vw_C} {fs : List Value} (hP : va_P D cl ws H) (hK : va_K D cl tys s) (hN : NS s) (hc : cl[ci]? = some q) (he : ws[q0]? = some (a, .inr (ci, fs))) : PreV s H q.1 a (va_Pc (.ref a :: As) (rP D cl tys ws)) As := ⟨blR, va_recv hK hP hc he, fun U hU hW => ⟨rfl, by rw [hU]; exact hP, va_K.moved hW.alike hK, NS.warm hW hN⟩⟩
theorem prTV {s : State} {H : Heap} {As : List Value} {D : va_G} {cl : List vw_C} {tys : List (ClassId × FieldType)} {ws : va_W} {a q0 ci : Nat} {q : vw_C} {fs : List Value} (hP : va_P D cl ws H) (hK : va_K D cl tys s) (hc : cl[ci]? = some q) (he : ws[q0]? = some (a, .inr (ci, fs))) : PreV s H q.1 a (va_Pc (.ref a :: As) (fun _ => True)) As := ⟨blT, va_recv hK hP hc he, fun U hU hW => ⟨rfl, trivial⟩⟩
theorem prW {s : State} {H : Heap} {av : List Value} {D : va_G} {cl : List vw_C} {tys : List (ClassId × FieldType)} {ws : va_W} {A : Nat → Prop} (hP : va_P D cl ws H) (hK : va_K D cl tys s) (hN : NS s) (hD : va_D A ws) : PreS s H (va_Pc av (wP D cl tys ws H.size)) av := ⟨blW, fun U hU hW => ⟨rfl, by rw [hU], by rw [hU]; exact hP, va_K.moved hW.alike hK, hD.weaken (fun _ _ _ _ => trivial), NS.warm hW hN⟩⟩
theorem prWV {s : State} {H : Heap} {As : List Value} {D : va_G} {cl : List vw_C} {tys : List (ClassId × FieldType)} {ws : va_W} {A : Nat → Prop} {a q0 ci : Nat} {q : vw_C} {fs : List Value} (hP : va_P D cl ws H) (hK : va_K D cl tys s) (hN : NS s) (hD : va_D A ws) (hc : cl[ci]? = some q) (he : ws[q0]? = some (a, .inr (ci, fs))) : PreV s H q.1 a (va_Pc (.ref a :: As) (wP D cl tys ws H.size)) As := ⟨blW, va_recv hK hP hc he, fun U hU hW => ⟨rfl, by rw [hU], by rw [hU]; exact hP, va_K.moved hW.alike hK, hD.weaken (fun _ _ _ _ => trivial), NS.warm hW hN⟩⟩
theorem va_freeA {A0 : Nat → Prop} {ws : va_W} {H0 H : Heap} {locs : List Loc} (hD : va_D A0 ws) (hS : va_S A0 H0 H locs) (hA : ∀ q, H0.size ≤ q → A0 q) : ∀ q, va_A ws H.size q → A0 q := by
  intro q h
  rcases h with ⟨k, e, h⟩ | h
  · exact hD.2 k (q, e) h
  · exact hA q (Nat.le_trans hS.1 h)
section BCA
variable {p : Program} {l : Launch} {e : Env} {R : Room} {s : State} {m : MethodId} {args : Array Value} {below : List Frame} {meth : Method} {c : Code} {H : Heap} {locs : List Loc} {cells slots : Nat} {Q : State → Prop}
variable {pc : Nat} {ls : Array Slot} {rest st0 : List Value} {a : Array Value} {A0 : Nat → Prop} {H0 : Heap} {mc ms : Nat} {D : va_G} {cl : List vw_C} {ws : va_W}
theorem cW_i {S : Type} {post : Int32 → S → Prop} {tf : S → List (ClassId × FieldType)} {wf : S → va_W} (hr : va_Run p l e R s m args below meth c H locs cells slots mc ms (F0 m pc ls st0) rest (va_Qi post (wB D cl (va_A ws H.size) tf wf) (va_A ws H.size) a) (va_A ws H.size)) (hD : va_D A0 ws) (hS : va_S A0 H0 H locs) (hA : ∀ q, H0.size ≤ q → A0 q)
    (kk : ∀ (r : Int32) (u : S) (H1 : Heap) (locs1 : List Loc), post r u → va_P D cl (wf u) H1 → va_K D cl (tf u) s → va_D A0 (wf u) → va_S A0 H0 H1 locs1 → W p l e R s m args below meth c H1 locs1 (cells + mc) (slots + ms) Q (F0 m (pc + 3) ls (.int r :: rest))) : W p l e R s m args below meth c H locs cells slots Q (F0 m pc ls st0) := by
  have hF := va_freeA hD hS hA
  exact va_calli hr hS (fun q _ h => hF q h) hF (fun r u t H1 locs1 ht hvm hw hB hz hk hS1 => kk r u H1 locs1 hw (by rw [← ht]; exact hB.1) (va_K.moved hvm.symm hB.2.1) (hB.2.2.weaken (fun _ q _ h => hF q.1 h)) hS1)
theorem cW_v {S : Type} {post : S → Prop} {tf : S → List (ClassId × FieldType)} {wf : S → va_W} (hr : va_Run p l e R s m args below meth c H locs cells slots mc ms (F0 m pc ls st0) rest (va_Qv post (wB D cl (va_A ws H.size) tf wf) (va_A ws H.size) a) (va_A ws H.size)) (hD : va_D A0 ws) (hS : va_S A0 H0 H locs) (hA : ∀ q, H0.size ≤ q → A0 q)
    (kk : ∀ (u : S) (H1 : Heap) (locs1 : List Loc), post u → va_P D cl (wf u) H1 → va_K D cl (tf u) s → va_D A0 (wf u) → va_S A0 H0 H1 locs1 → W p l e R s m args below meth c H1 locs1 (cells + mc) (slots + ms) Q (F0 m (pc + 3) ls rest)) : W p l e R s m args below meth c H locs cells slots Q (F0 m pc ls st0) := by
  have hF := va_freeA hD hS hA
  exact va_callv hr hS (fun q _ h => hF q h) hF (fun u t H1 locs1 ht hvm hw hB hz hk hS1 => kk u H1 locs1 hw (by rw [← ht]; exact hB.1) (va_K.moved hvm.symm hB.2.1) (hB.2.2.weaken (fun _ q _ h => hF q.1 h)) hS1)
/-- roads that meet: what comes behind is walked once, of any value of a kind -/
theorem mrg {α : Type} (P : α → Prop) (g : α → JFrame) {g0 : JFrame} (tail : ∀ k : α, P k → W p l e R s m args below meth c H locs cells slots Q (g k)) (br : (∀ k : α, P k → W p l e R s m args below meth c H locs cells slots Q (g k)) → W p l e R s m args below meth c H locs cells slots Q g0) : W p l e R s m args below meth c H locs cells slots Q g0 := br tail
/-- a loop: a measure falls -/
theorem lpW {σ : Type} (I : σ → Prop) (μ : σ → Nat) (Hf : σ → Heap) (Lf : σ → List Loc) (g : σ → JFrame) (hs : ∀ a : σ, I a → (∀ b : σ, I b → μ b < μ a → W p l e R s m args below meth c (Hf b) (Lf b) cells slots Q (g b)) → W p l e R s m args below meth c (Hf a) (Lf a) cells slots Q (g a)) (a : σ) (h : I a) : W p l e R s m args below meth c (Hf a) (Lf a) cells slots Q (g a) := by
  have key : ∀ (n : Nat) (a : σ), μ a < n → I a → W p l e R s m args below meth c (Hf a) (Lf a) cells slots Q (g a) := by
    intro n
    induction n with
    | zero => intro a h1; exact absurd h1 (Nat.not_lt_zero _)
    | succ n ih => intro a h1 h2; exact hs a h2 (fun b hb hm => ih b (by omega) hb)
  exact key (μ a + 1) a (Nat.lt_succ_self _) h
end BCA
theorem ti_max {x y : Int32} {a b : Int} (hx : x.toInt = a) (hy : y.toInt = b) : (if x < y then y else x).toInt = max a b := by
  by_cases h : x < y
  · rw [if_pos h, hy]; have := (ti_lt hx hy).mp h; omega
  · rw [if_neg h, hx]; have := mt (ti_lt hx hy).mpr h; omega
theorem ti_abs {x : Int32} {a : Int} (hx : x.toInt = a) (h : -2147483647 ≤ a) : (if 0 ≤ x then x else 0 - x).toInt = max a (-a) := by
  by_cases q : (0 : Int32) ≤ x
  · rw [if_pos q, hx]; have := (ti_le (by decide : (0 : Int32).toInt = 0) hx).mp q; omega
  · have q2 := mt (ti_le (by decide : (0 : Int32).toInt = 0) hx).mpr q
    have h3 := ti_hi x
    rw [if_neg q, ti_sub (by decide : (0 : Int32).toInt = 0) hx (by omega) (by omega)]; omega
theorem mul_bd {a b A B : Int} (h1 : 0 ≤ a) (h2 : a ≤ A) (h3 : 0 ≤ b) (h4 : b ≤ B) : 0 ≤ a * b ∧ a * b ≤ A * B :=
  ⟨Int.mul_nonneg h1 h3, Int.le_trans (Int.mul_le_mul_of_nonneg_right h2 h3) (Int.mul_le_mul_of_nonneg_left h4 (by omega))⟩
theorem ti_min {x y : Int32} {a b : Int} (hx : x.toInt = a) (hy : y.toInt = b) : (if y < x then y else x).toInt = min a b := by
  by_cases h : y < x
  · rw [if_pos h, hy]; have := (ti_lt hy hx).mp h; omega
  · rw [if_neg h, hx]; have := mt (ti_lt hy hx).mpr h; omega
theorem set_self {α : Type} {l : List α} {k : Nat} {x y : α} (h : l[k]? = some x) : (l.set k y)[k]? = some y := List.getElem?_set_self (List.getElem?_eq_some_iff.mp h).1
theorem set_other {α : Type} {l : List α} {k j : Nat} {x y : α} (hn : k ≠ j) (h : l[j]? = some x) : (l.set k y)[j]? = some x := by rw [List.getElem?_set_ne hn]; exact h
section BCB
variable {p : Program} {l : Launch} {e : Env} {R : Room} {s : State} {m : MethodId} {args : Array Value} {below : List Frame} {meth : Method} {c : Code} {H H0 : Heap} {locs : List Loc} {cells slots : Nat} {Q : State → Prop} {A : Nat → Prop}
variable {cc : ByteArray} {pc : Nat} {ls : Array Slot} {rest : List Value} {D : va_G} {cl : List vw_C} {tys : List (ClassId × FieldType)} {ws : va_W} {a : Nat}
theorem iaK (hexec : p.tables.exec = Jvm.exec) (hb : c.code = cc) (hK : va_K D cl tys s) (hP : va_P D cl ws H) (q0 t0 : Nat) {cA : ClassId} {n : Nat} {f : Nat → Int32} (ha : ws[q0]? = some (a, .inl (cA, n, .inl f))) (ht : tys[t0]? = some (cA, .int)) {i : Int32} (k : Nat) (hi : i.toInt = (k : Int)) (hk : k < n) (hdg : decode cc pc = .ok (.iaload, 1))
    (kk : W p l e R s m args below meth c H locs cells slots Q (F0 m (pc + 1) ls (.int (f k) :: rest))) : W p l e R s m args below meth c H locs cells slots Q (F0 m pc ls (.int i :: .ref a :: rest)) := by
  refine va_iald hexec hb hK hP q0 t0 ha ht (vp_in_iff.mpr (by omega)) hdg ?_
  rw [ix_cl hi, Int.toNat_natCast]
  exact kk
theorem isK (hexec : p.tables.exec = Jvm.exec) (hb : c.code = cc) (hK : va_K D cl tys s) (hP : va_P D cl ws H) (hD : va_D A ws) (hS : va_S A H0 H locs) (q0 t0 : Nat) {cA : ClassId} {n : Nat} {f : Nat → Int32} (ha : ws[q0]? = some (a, .inl (cA, n, .inl f))) (ht : tys[t0]? = some (cA, .int)) {i x : Int32} (k : Nat) (hi : i.toInt = (k : Int)) (hk : k < n) (hdg : decode cc pc = .ok (.iastore, 1))
    (kk : ∀ (H1 : Heap) (locs1 : List Loc), va_P D cl (ws.set q0 (a, .inl (cA, n, .inl (upd f k x)))) H1 → va_D A (ws.set q0 (a, .inl (cA, n, .inl (upd f k x)))) → va_S A H0 H1 locs1 → W p l e R s m args below meth c H1 locs1 cells slots Q (F0 m (pc + 1) ls rest)) : W p l e R s m args below meth c H locs cells slots Q (F0 m pc ls (.int x :: .int i :: .ref a :: rest)) := by
  have e : i.toNatClampNeg = k := by rw [ix_cl hi, Int.toNat_natCast]
  exact va_iast hexec hb hK hP hD hS q0 t0 ha ht (vp_in_iff.mpr (by omega)) hdg (fun H1 locs1 h1 h2 h3 => kk H1 locs1 (by rw [← e]; exact h1) (by rw [← e]; exact h2) h3)
theorem aaK (hexec : p.tables.exec = Jvm.exec) (hb : c.code = cc) (hK : va_K D cl tys s) (hP : va_P D cl ws H) (q0 t0 : Nat) {cA : ClassId} {C : String} {n : Nat} {f : Nat → Option Nat} (ha : ws[q0]? = some (a, .inl (cA, n, .inr (.inr (.inr (.inr f)))))) (ht : tys[t0]? = some (cA, .object C)) {i : Int32} (k : Nat) (hi : i.toInt = (k : Int)) (hk : k < n) {v : Value} (hv : va_rf (f k) = v) (hdg : decode cc pc = .ok (.aaload, 1))
    (kk : W p l e R s m args below meth c H locs cells slots Q (F0 m (pc + 1) ls (v :: rest))) : W p l e R s m args below meth c H locs cells slots Q (F0 m pc ls (.int i :: .ref a :: rest)) := by
  subst hv
  refine va_aldq hexec hb hK hP q0 t0 ha ht (vp_in_iff.mpr (by omega)) hdg ?_
  rw [ix_cl hi, Int.toNat_natCast]
  exact kk
end BCB
/-- one cell of a world was a callee's: it is set, the others stay -/
theorem jn1 {A0 : Nat → Prop} {D : va_G} {cl : List vw_C} {ws : va_W} {H H1 : Heap} {k a : Nat} {e0 e : va_E} (hP : va_P D cl ws H) (hD : va_D A0 ws) (he : ws[k]? = some (a, e0)) (hk : ∀ q : Nat, q < H.size → ¬ va_A [(a, e0)] H.size q → H1[q]? = H[q]?) (hP1 : va_P D cl [(a, e)] H1) : va_P D cl (ws.set k (a, e)) H1 ∧ va_D A0 (ws.set k (a, e)) := by
  have hl := (List.getElem?_eq_some_iff.mp he).1
  refine ⟨fun j q hj => ?_, hD.set he⟩
  by_cases hjk : j = k
  · subst hjk
    rw [List.getElem?_set_self hl] at hj
    cases hj
    exact hP1 0 _ rfl
  · rw [List.getElem?_set_ne (Ne.symm hjk)] at hj
    have h1 := hP j q hj
    refine h1.kept (hk q.1 h1.lt (fun h => ?_))
    rcases h with ⟨i, e9, h⟩ | h
    · match i, h with
      | 0, h =>
        cases h
        exact hjk (hD.1 j k q _ hj he rfl)
    · have := h1.lt
      omega
section BCC
variable {p : Program} {l : Launch} {e : Env} {R : Room} {s : State} {m : MethodId} {args : Array Value} {below : List Frame} {meth : Method} {c : Code} {H : Heap} {locs : List Loc} {cells slots : Nat} {Q : State → Prop}
variable {pc : Nat} {ls : Array Slot} {rest st0 : List Value} {a : Array Value} {A0 : Nat → Prop} {H0 : Heap} {mc ms : Nat} {D : va_G} {cl : List vw_C} {ws : va_W}
/-- a callee of one cell of the caller's world -/
theorem cJ1_v {S : Type} {post : S → Prop} {tys : List (ClassId × FieldType)} {a0 : Nat} {e0 : va_E} {ef : S → va_E} (k : Nat) (he : ws[k]? = some (a0, e0)) (hr : va_Run p l e R s m args below meth c H locs cells slots mc ms (F0 m pc ls st0) rest (va_Qv post (wB D cl (va_A [(a0, e0)] H.size) (fun _ => tys) (fun u => [(a0, ef u)])) (va_A [(a0, e0)] H.size) a) (va_A [(a0, e0)] H.size)) (hP : va_P D cl ws H) (hD : va_D A0 ws) (hS : va_S A0 H0 H locs) (hA : ∀ q, H0.size ≤ q → A0 q)
    (kk : ∀ (u : S) (H1 : Heap) (locs1 : List Loc), post u → va_P D cl (ws.set k (a0, ef u)) H1 → va_D A0 (ws.set k (a0, ef u)) → va_S A0 H0 H1 locs1 → W p l e R s m args below meth c H1 locs1 (cells + mc) (slots + ms) Q (F0 m (pc + 3) ls rest)) : W p l e R s m args below meth c H locs cells slots Q (F0 m pc ls st0) := by
  have hF : ∀ q, va_A [(a0, e0)] H.size q → A0 q := by
    intro q h
    rcases h with ⟨i, e9, h⟩ | h
    · match i, h with
      | 0, h =>
        cases h
        exact hD.2 k _ he
    · exact hA q (Nat.le_trans hS.1 h)
  refine va_callv hr hS (fun q _ h => hF q h) hF (fun u t H1 locs1 ht hvm hw hB hz hk hS1 => ?_)
  have hP1 : va_P D cl [(a0, ef u)] H1 := by rw [← ht]; exact hB.1
  obtain ⟨g1, g2⟩ := jn1 hP hD he hk hP1
  exact kk u H1 locs1 hw g1 g2 hS1
end BCC
/-- two cells of a world were a callee's -/
theorem jn2 {A0 : Nat → Prop} {D : va_G} {cl : List vw_C} {ws : va_W} {H H1 : Heap} {k1 k2 a1 a2 b : Nat} {e1 e2 f1 f2 : va_E} (hP : va_P D cl ws H) (hD : va_D A0 ws) (hkk : k1 ≠ k2) (he1 : ws[k1]? = some (a1, e1)) (he2 : ws[k2]? = some (a2, e2)) (hk : ∀ q : Nat, q < H.size → ¬ va_A [(a1, e1), (a2, e2)] H.size q → H1[q]? = H[q]?) (hF : ∀ q, va_A [(a1, e1), (a2, e2)] H.size q → A0 q) (hP1 : va_P D cl [(a1, f1), (b, f2)] H1) (hD1 : va_D (va_A [(a1, e1), (a2, e2)] H.size) [(a1, f1), (b, f2)]) : va_P D cl ((ws.set k1 (a1, f1)).set k2 (b, f2)) H1 ∧ va_D A0 ((ws.set k1 (a1, f1)).set k2 (b, f2)) := by
  have hl1 := (List.getElem?_eq_some_iff.mp he1).1
  have hl2 := (List.getElem?_eq_some_iff.mp he2).1
  have out : ∀ (j : Nat) (q : Nat × va_E), j ≠ k1 → j ≠ k2 → ws[j]? = some q → ¬ va_A [(a1, e1), (a2, e2)] H.size q.1 := by
    intro j q n1 n2 hj h
    rcases h with ⟨i, e9, h⟩ | h
    · match i, h with
      | 0, h => cases h; exact n1 (hD.1 j k1 q _ hj he1 rfl)
      | 1, h => cases h; exact n2 (hD.1 j k2 q _ hj he2 rfl)
    · have := (hP j q hj).lt
      omega
  have key : ∀ (j : Nat) (q : Nat × va_E), ((ws.set k1 (a1, f1)).set k2 (b, f2))[j]? = some q → (j = k1 ∧ q = (a1, f1)) ∨ (j = k2 ∧ q = (b, f2)) ∨ (j ≠ k1 ∧ j ≠ k2 ∧ ws[j]? = some q) := by
    intro j q hj
    by_cases n2 : j = k2
    · subst n2
      rw [List.getElem?_set_self (by rw [List.length_set]; exact hl2)] at hj
      cases hj
      exact Or.inr (Or.inl ⟨rfl, rfl⟩)
    · rw [List.getElem?_set_ne (Ne.symm n2)] at hj
      by_cases n1 : j = k1
      · subst n1
        rw [List.getElem?_set_self hl1] at hj
        cases hj
        exact Or.inl ⟨rfl, rfl⟩
      · rw [List.getElem?_set_ne (Ne.symm n1)] at hj
        exact Or.inr (Or.inr ⟨n1, n2, hj⟩)
  have hA1 : va_A [(a1, e1), (a2, e2)] H.size a1 := hD1.2 0 (a1, f1) rfl
  have hAb : va_A [(a1, e1), (a2, e2)] H.size b := hD1.2 1 (b, f2) rfl
  have hab : a1 ≠ b := fun z => by have := hD1.1 0 1 (a1, f1) (b, f2) rfl rfl z; omega
  refine ⟨fun j q hj => ?_, fun i j x y hi hj hxy => ?_, fun j q hj => ?_⟩
  · rcases key j q hj with ⟨-, rfl⟩ | ⟨-, rfl⟩ | ⟨n1, n2, h⟩
    · exact hP1 0 _ rfl
    · exact hP1 1 _ rfl
    · exact (hP j q h).kept (hk q.1 (hP j q h).lt (out j q n1 n2 h))
  · rcases key i x hi with ⟨h1, rfl⟩ | ⟨h1, rfl⟩ | ⟨n1, n2, h1⟩ <;> rcases key j y hj with ⟨h2, rfl⟩ | ⟨h2, rfl⟩ | ⟨m1, m2, h2⟩
    · omega
    · exact absurd hxy hab
    · exact absurd (by rw [← hxy]; exact hA1) (out j y m1 m2 h2)
    · exact absurd hxy.symm hab
    · omega
    · exact absurd (by rw [← hxy]; exact hAb) (out j y m1 m2 h2)
    · exact absurd (by rw [hxy]; exact hA1) (out i x n1 n2 h1)
    · exact absurd (by rw [hxy]; exact hAb) (out i x n1 n2 h1)
    · exact hD.1 i j x y h1 h2 hxy
  · rcases key j q hj with ⟨-, rfl⟩ | ⟨-, rfl⟩ | ⟨n1, n2, h⟩
    · exact hF _ hA1
    · exact hF _ hAb
    · exact hD.2 j q h
section BCD
variable {p : Program} {l : Launch} {e : Env} {R : Room} {s : State} {m : MethodId} {args : Array Value} {below : List Frame} {meth : Method} {c : Code} {H : Heap} {locs : List Loc} {cells slots : Nat} {Q : State → Prop}
variable {pc : Nat} {ls : Array Slot} {rest st0 : List Value} {a : Array Value} {A0 : Nat → Prop} {H0 : Heap} {mc ms : Nat} {D : va_G} {cl : List vw_C} {ws : va_W}
theorem cJ2_v {S : Type} {post : S → Prop} {tys : List (ClassId × FieldType)} {a1 a2 : Nat} {e1 e2 : va_E} {f1 f2 : S → va_E} {bf : S → Nat} (k1 k2 : Nat) (hkk : k1 ≠ k2) (he1 : ws[k1]? = some (a1, e1)) (he2 : ws[k2]? = some (a2, e2)) (hr : va_Run p l e R s m args below meth c H locs cells slots mc ms (F0 m pc ls st0) rest (va_Qv post (wB D cl (va_A [(a1, e1), (a2, e2)] H.size) (fun _ => tys) (fun u => [(a1, f1 u), (bf u, f2 u)])) (va_A [(a1, e1), (a2, e2)] H.size) a) (va_A [(a1, e1), (a2, e2)] H.size)) (hP : va_P D cl ws H) (hD : va_D A0 ws) (hS : va_S A0 H0 H locs) (hA : ∀ q, H0.size ≤ q → A0 q)
    (kk : ∀ (u : S) (H1 : Heap) (locs1 : List Loc), post u → va_P D cl ((ws.set k1 (a1, f1 u)).set k2 (bf u, f2 u)) H1 → va_D A0 ((ws.set k1 (a1, f1 u)).set k2 (bf u, f2 u)) → va_S A0 H0 H1 locs1 → W p l e R s m args below meth c H1 locs1 (cells + mc) (slots + ms) Q (F0 m (pc + 3) ls rest)) : W p l e R s m args below meth c H locs cells slots Q (F0 m pc ls st0) := by
  have hF : ∀ q, va_A [(a1, e1), (a2, e2)] H.size q → A0 q := by
    intro q h
    rcases h with ⟨i, e9, h⟩ | h
    · match i, h with
      | 0, h => cases h; exact hD.2 k1 _ he1
      | 1, h => cases h; exact hD.2 k2 _ he2
    · exact hA q (Nat.le_trans hS.1 h)
  refine va_callv hr hS (fun q _ h => hF q h) hF (fun u t H1 locs1 ht hvm hw hB hz hk hS1 => ?_)
  have hP1 : va_P D cl [(a1, f1 u), (bf u, f2 u)] H1 := by rw [← ht]; exact hB.1
  obtain ⟨g1, g2⟩ := jn2 hP hD hkk he1 he2 hk hF hP1 hB.2.2
  exact kk u H1 locs1 hw g1 g2 hS1
end BCD
theorem arr_cg {cA : ClassId} {n : Nat} {f f' : Nat → Int32} (h : ∀ j, j < n → f j = f' j) : vp_cell cA (n, .inl f) = vp_cell cA (n, .inl f') := by
  have e : (fun j : Fin n => Value.int (f j.val)) = fun j : Fin n => Value.int (f' j.val) := by
    funext j
    rw [h j.val j.isLt]
  unfold vp_cell
  simp only [arrV]
  first | rw [e] | simp [e]
/-- an int array's places behind its length are nobody's -/
theorem P_cg {D : va_G} {cl : List vw_C} {ws : va_W} {H : Heap} {k a n : Nat} {cA : ClassId} {f f' : Nat → Int32} (hP : va_P D cl ws H) (he : ws[k]? = some (a, .inl (cA, n, .inl f))) (h : ∀ j, j < n → f j = f' j) : va_P D cl (ws.set k (a, .inl (cA, n, .inl f'))) H := by
  have hl := (List.getElem?_eq_some_iff.mp he).1
  intro j q hj
  by_cases hjk : j = k
  · subst hjk
    rw [List.getElem?_set_self hl] at hj
    cases hj
    have h1 : H[a]? = some (vp_cell cA (n, .inl f)) := hP j _ he
    show H[a]? = some (vp_cell cA (n, .inl f'))
    rw [h1, arr_cg h]
  · rw [List.getElem?_set_ne (Ne.symm hjk)] at hj
    exact hP j q hj
/-- two int array classes are one -/
theorem cA_one {D : va_G} {cl : List vw_C} {tys : List (ClassId × FieldType)} {U : State} {i j : Nat} {c1 c2 : ClassId} (hK : va_K D cl tys U) (h1 : tys[i]? = some (c1, .int)) (h2 : tys[j]? = some (c2, .int)) : c1 = c2 := by
  have a1 : U.vm.findClass ("[" ++ FieldType.int.toString) = some c1 := (hK.2 i _ h1).2
  have a2 : U.vm.findClass ("[" ++ FieldType.int.toString) = some c2 := (hK.2 j _ h2).2
  exact Option.some.inj (a1.symm.trans a2)
theorem one_P {D : va_G} {cl : List vw_C} {ws : va_W} {H : Heap} {a k : Nat} {e : va_E} (hP : va_P D cl ws H) (he : ws[k]? = some (a, e)) : va_P D cl [(a, e)] H := by
  intro i q hi
  match i, hi with
  | 0, hi => cases hi; exact hP k _ he
theorem one_D {a : Nat} {e : va_E} : va_D (fun _ => True) [(a, e)] := by
  refine ⟨fun i j x y hi hj _ => ?_, fun _ _ _ => trivial⟩
  match i, j, hi, hj with
  | 0, 0, _, _ => rfl
theorem two_P {D : va_G} {cl : List vw_C} {ws : va_W} {H : Heap} {a b k1 k2 : Nat} {e f : va_E} (hP : va_P D cl ws H) (h1 : ws[k1]? = some (a, e)) (h2 : ws[k2]? = some (b, f)) : va_P D cl [(a, e), (b, f)] H := by
  intro i q hi
  match i, hi with
  | 0, hi => cases hi; exact hP k1 _ h1
  | 1, hi => cases hi; exact hP k2 _ h2
theorem two_D {A : Nat → Prop} {ws : va_W} {a b k1 k2 : Nat} {e f : va_E} (hD : va_D A ws) (hkk : k1 ≠ k2) (h1 : ws[k1]? = some (a, e)) (h2 : ws[k2]? = some (b, f)) : va_D (fun _ => True) [(a, e), (b, f)] := by
  refine ⟨fun i j x y hi hj h => ?_, fun _ _ _ => trivial⟩
  match i, j, hi, hj with
  | 0, 0, _, _ => rfl
  | 1, 1, _, _ => rfl
  | 0, 1, hi, hj => cases hi; cases hj; exact absurd (hD.1 k1 k2 _ _ h1 h2 h) hkk
  | 1, 0, hi, hj => cases hi; cases hj; exact absurd (hD.1 k1 k2 _ _ h1 h2 h.symm) hkk
theorem prWV1 {s : State} {H : Heap} {As : List Value} {D : va_G} {cl : List vw_C} {tys : List (ClassId × FieldType)} {ws : va_W} {A : Nat → Prop} {a q0 ci : Nat} {q : vw_C} {fs : List Value} (hP : va_P D cl ws H) (hK : va_K D cl tys s) (hN : NS s) (hD : va_D A ws) (hc : cl[ci]? = some q) (he : ws[q0]? = some (a, .inr (ci, fs))) : PreV s H q.1 a (va_Pc (.ref a :: As) (wP D cl tys [(a, .inr (ci, fs))] H.size)) As :=
  ⟨blW, va_recv hK hP hc he, fun U hU hW => ⟨rfl, by rw [hU], by rw [hU]; exact one_P hP he, va_K.moved hW.alike hK, one_D, NS.warm hW hN⟩⟩
theorem prWI1 {s : State} {H : Heap} {av : List Value} {D : va_G} {cl : List vw_C} {tys : List (ClassId × FieldType)} {ws : va_W} {A : Nat → Prop} {a q0 : Nat} {e : va_E} (hP : va_P D cl ws H) (hK : va_K D cl tys s) (hN : NS s) (hD : va_D A ws) (he : ws[q0]? = some (a, e)) : PreS s H (va_Pc av (wP D cl tys [(a, e)] H.size)) av :=
  ⟨blW, fun U hU hW => ⟨rfl, by rw [hU], by rw [hU]; exact one_P hP he, va_K.moved hW.alike hK, one_D, NS.warm hW hN⟩⟩
theorem pr2 {s : State} {H : Heap} {As : List Value} {D : va_G} {cl : List vw_C} {tys : List (ClassId × FieldType)} {ws : va_W} {A : Nat → Prop} {a k1 k2 b ci : Nat} {q : vw_C} {fs : List Value} {e2 : va_E} (hkk : k1 ≠ k2) (hP : va_P D cl ws H) (hK : va_K D cl tys s) (hN : NS s) (hD : va_D A ws) (hc : cl[ci]? = some q) (he1 : ws[k1]? = some (a, .inr (ci, fs))) (he2 : ws[k2]? = some (b, e2)) : PreV s H q.1 a (va_Pc (.ref a :: As) (wP D cl tys [(a, .inr (ci, fs)), (b, e2)] H.size)) As :=
  ⟨blW, va_recv hK hP hc he1, fun U hU hW => ⟨rfl, by rw [hU], by rw [hU]; exact two_P hP he1 he2, va_K.moved hW.alike hK, two_D hD hkk he1 he2, NS.warm hW hN⟩⟩
