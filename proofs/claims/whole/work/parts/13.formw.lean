set_option maxHeartbeats 8000000 in
set_option maxRecDepth 100000 in
theorem mJ7_fill (l : Launch) {dC : Nat → ClassId} {dI : Nat → Nat → Nat} {sz : Nat} {a n : Nat} {cI cF : ClassId} {g : Nat → Int32} (v : Int32) (h4 : n ≤ 4000) : Met l yJ7_fill (wM yJ7_fill cJ7_fill 4 none) ({ frames := 0, cells := 0, slots := 0, locals := 0 }) (va_Pc [.ref a, .int v] (wP (dC, dI) vwCl (tyB cI cF) [(a, .inl (cI, n, .inl g))] sz)) (va_Qv (fun u : Unit => True) (wB (dC, dI) vwCl (va_A [(a, .inl (cI, n, .inl g))] sz) (fun u : Unit => (tyB cI cF)) (fun u : Unit => [(a, .inl (cI, n, .inl (fun _ => v)))])) (va_A [(a, .inl (cI, n, .inl g))] sz)) 0 0 (va_A [(a, .inl (cI, n, .inl g))] sz) := by
  refine Met.ofW (cc := cJ7_fill) (maxL := 4) (ret := none) (by decide +kernel) rfl ?_
  intro p e s m args below meth c s₁ B hml hv
  obtain ⟨rfl, hsz, hP, hK, hD0, hNS⟩ := hv
  have hx := B.exec
  have hb := B.bytes
  have hr := B.returns
  have hts : ∀ w ∈ tblG, w.before _ s = true := fun w h => atoms_spec (ws := wM yJ7_fill cJ7_fill 4 none) B.pre w (List.mem_cons_of_mem _ h)
  have hown : s.vm.findClass RJ7 = some m.cls := findClass_of_methodNamed B.named
  have hlocks := B.notSynchronized
  subst hsz
  have hD := hD0.self (sz := s.heap.size)
  generalize hAe : va_A [(a, .inl (cI, n, .inl g))] s.heap.size = A at hD ⊢
  have hA : ∀ q : Nat, s.heap.size ≤ q → A q := fun q h => by rw [← hAe]; exact Or.inr h
  have hS : va_S A s.heap s.heap [] := va_S.rf
  have hP : va_P (dC, dI) vwCl [(a, .inl (cI, n, .inl g))] s.heap := hP
  have hl := lv_entry ([.ref a, .int v]) (n := 4) (Nat.le_of_ble_eq_true rfl)
  rw [lg_entry_eq]
  generalize (lg_sl ([.ref a, .int v]) ++ List.replicate (4 - (lg_sl ([.ref a, .int v])).length) Slot.unset).toArray = ls at hl ⊢
  have hl : lv_has ls 4 [(0, .ref a), (1, .int v)] := hl
  refine lv_iconst (v := 0) hx hb dJ7_fill_0 (by decide) ?_
  refine lv_istore_n (lv' := [(2, .int (0 : Int32)), (0, .ref a), (1, .int v)]) hx hb dJ7_fill_1 rfl hl (by decide) rfl (fun ls hl => ?_)
  refine lv_aload_n hx hb dJ7_fill_2 rfl (lv_at hl 1 rfl) ?_
  refine va_alen hx hb hK hP 0 0 rfl rfl rfl dJ7_fill_3 ?_
  refine lv_topi (fun x1 ex1 => ?_)
  have hx1 : x1.toInt = (n : Nat) := by rw [ex1]; exact nI_toInt (by omega)
  refine lv_istore_n (lv' := [(3, .int x1), (2, .int (0 : Int32)), (0, .ref a), (1, .int v)]) hx hb dJ7_fill_4 rfl hl (by decide) rfl (fun ls hl => ?_)
  have hP : va_P (dC, dI) vwCl [(a, .inl (cI, n, .inl (fun j => if j < 0 then v else g j)))] s.heap := hP
  have hD : va_D A [(a, .inl (cI, n, .inl (fun j => if j < 0 then v else g j)))] := hD
  refine lpW (σ := Heap × List Loc × Array Slot × Int32 × Nat) (fun u => match u with | (H, locs, ls, i0, n0) => lv_has ls 4 [(0, .ref a), (1, .int v), (2, .int i0), (3, .int x1)] ∧ va_P (dC, dI) vwCl [(a, .inl (cI, n, .inl (fun j => if j < n0 then v else g j)))] H ∧ va_D A [(a, .inl (cI, n, .inl (fun j => if j < n0 then v else g j)))] ∧ va_S A s.heap H locs ∧ (i0.toInt = (n0 : Int)) ∧ (n0 ≤ n)) (fun u => match u with | (H, locs, ls, i0, n0) => n - n0) (fun u : Heap × List Loc × Array Slot × Int32 × Nat => u.1) (fun u : Heap × List Loc × Array Slot × Int32 × Nat => u.2.1) (fun u => F0 m 5 u.2.2.1 []) (fun u hu ih5 => ?_) (s.heap, [], ls, 0, 0) ⟨lv_sub hl [2, 3, 1, 0] rfl, hP, hD, hS, rfl, Nat.zero_le _⟩
  obtain ⟨H, locs, ls, i0, n0⟩ := u
  obtain ⟨hl, hP, hD, hS, hi0, hn0⟩ := hu
  dsimp only
  refine lv_iload_n hx hb dJ7_fill_5 rfl (lv_at hl 2 rfl) ?_
  refine lv_iload_n hx hb dJ7_fill_6 rfl (lv_at hl 3 rfl) ?_
  refine lv_icmp_ge (tgt := 20) hx hb dJ7_fill_7 (by decide) (fun c2 => ?_) (fun c2 => ?_)
  · replace c2 := (ti_le rfl rfl).mp c2
    have hP := P_cg (k := 0) (f' := fun _ => v) hP rfl (fun j hj => by rw [if_pos (by omega)])
    have hD := hD.set (p := 0) (e := .inl (cI, n, .inl (fun _ => v))) rfl
    exact W.vret hx hb hr (fun t9 ht9 hW9 => ⟨⟨(), rfl, trivial, by rw [ht9]; exact hP, va_K.moved hW9.alike hK, hD⟩, hS.F ht9⟩) hS.2.2 dJ7_fill_20
  · replace c2 := mt (ti_le rfl rfl).mpr c2
    refine lv_aload_n hx hb dJ7_fill_10 rfl (lv_at hl 0 rfl) ?_
    refine lv_iload_n hx hb dJ7_fill_11 rfl (lv_at hl 2 rfl) ?_
    refine lv_iload_n hx hb dJ7_fill_12 rfl (lv_at hl 1 rfl) ?_
    refine isK hx hb hK hP hD hS 0 0 rfl rfl (n0) (hi0) (by omega) dJ7_fill_13 (fun H locs hP hD hS => ?_)
    have hP : va_P (dC, dI) vwCl [(a, .inl (cI, n, .inl (upd (fun j => if j < n0 then v else g j) n0 v)))] H := hP
    have hD : va_D A [(a, .inl (cI, n, .inl (upd (fun j => if j < n0 then v else g j) n0 v)))] := hD
    obtain ⟨x3, ex3⟩ : ∃ y : Int32, y = i0 + 1 := ⟨_, rfl⟩
    have hx3 : x3.toInt = i0.toInt + 1 := by rw [ex3]; exact ti_add rfl (by decide) (by omega) (by omega)
    refine lv_iinc (v := x3) (lv' := [(2, .int x3), (0, .ref a), (1, .int v), (3, .int x1)]) hx hb dJ7_fill_14 hl (k := 2) rfl (by rw [ex3]; rfl) (by decide) rfl (fun ls hl => ?_)
    refine lv_goto (tgt := 5) hx hb dJ7_fill_17 (by decide) ?_
    have hup := fill_up g v n0
    rw [hup] at hP hD
    exact ih5 (H, locs, ls, x3, n0 + 1) ⟨lv_sub hl [1, 2, 0, 3] rfl, hP, hD, hS, by omega, by omega⟩ (by dsimp only; omega)
set_option maxHeartbeats 8000000 in
set_option maxRecDepth 100000 in
theorem mX0_writeWord (l : Launch) {dC : Nat → ClassId} {dI : Nat → Nat → Nat} {sz : Nat} {h0 a n : Nat} {w h rw : Int32} {cI cF : ClassId} {g : Nat → Int32} (i v : Int32) (h1 : 0 ≤ i.toInt ∧ i.toInt < n) (h2 : 1 ≤ w.toInt ∧ w.toInt ≤ 64000) (h3 : rw.toInt = (w.toInt + 15) / 16) : Met l yX0_writeWord (wM yX0_writeWord cX0_writeWord 3 none) ({ frames := 2, cells := 0, slots := 0, locals := 45 }) (va_Pc [.ref h0, .int i, .int v] (wP (dC, dI) vwCl (tyB cI cF) [(h0, .inr (0, [.int w, .int h, .int rw, .ref a])), (a, .inl (cI, n, .inl g))] sz)) (va_Qv (fun u : Int32 => ∀ j, j < 32 → bt u j = (bt v j && (decide (j < 16) && decide (16 * (i.toInt % rw.toInt) + 15 - j < w.toInt)))) (wB (dC, dI) vwCl (va_A [(h0, .inr (0, [.int w, .int h, .int rw, .ref a])), (a, .inl (cI, n, .inl g))] sz) (fun u : Int32 => (tyB cI cF)) (fun u : Int32 => [(h0, .inr (0, [.int w, .int h, .int rw, .ref a])), (a, .inl (cI, n, .inl (upd g i.toInt.toNat u)))])) (va_A [(h0, .inr (0, [.int w, .int h, .int rw, .ref a])), (a, .inl (cI, n, .inl g))] sz)) 0 0 (va_A [(h0, .inr (0, [.int w, .int h, .int rw, .ref a])), (a, .inl (cI, n, .inl g))] sz) := by
  refine Met.ofW (cc := cX0_writeWord) (maxL := 3) (ret := none) (by decide +kernel) rfl ?_
  intro p e s m args below meth c s₁ B hml hv
  obtain ⟨rfl, hsz, hP, hK, hD0, hNS⟩ := hv
  have hx := B.exec
  have hb := B.bytes
  have hr := B.returns
  have hts : ∀ w ∈ tblG, w.before _ s = true := fun w h => atoms_spec (ws := wM yX0_writeWord cX0_writeWord 3 none) B.pre w (List.mem_cons_of_mem _ h)
  have hown : s.vm.findClass RX0 = some m.cls := findClass_of_methodNamed B.named
  have hlocks := B.notSynchronized
  subst hsz
  have hD := hD0.self (sz := s.heap.size)
  generalize hAe : va_A [(h0, .inr (0, [.int w, .int h, .int rw, .ref a])), (a, .inl (cI, n, .inl g))] s.heap.size = A at hD ⊢
  have hA : ∀ q : Nat, s.heap.size ≤ q → A q := fun q h => by rw [← hAe]; exact Or.inr h
  have hS : va_S A s.heap s.heap [] := va_S.rf
  have hP : va_P (dC, dI) vwCl [(h0, .inr (0, [.int w, .int h, .int rw, .ref a])), (a, .inl (cI, n, .inl g))] s.heap := hP
  have hl := lv_entry ([.ref h0, .int i, .int v]) (n := 3) (Nat.le_of_ble_eq_true rfl)
  rw [lg_entry_eq]
  generalize (lg_sl ([.ref h0, .int i, .int v]) ++ List.replicate (3 - (lg_sl ([.ref h0, .int i, .int v])).length) Slot.unset).toArray = ls at hl ⊢
  have hl : lv_has ls 3 [(0, .ref h0), (1, .int i), (2, .int v)] := hl
  refine lv_aload_n hx hb dX0_writeWord_0 rfl (lv_at hl 0 rfl) ?_
  refine va_get (D := (dC, dI)) (ci := 0) (v := .ref a) (C := RX0) (T := TX0) (N := 4) hx hb hts inX0 hown hK hP 0 rfl rfl 3 (by decide) (hts _ k29) (fun _ h9 => h9) rfl dX0_writeWord_1 ?_
  refine lv_iload_n hx hb dX0_writeWord_4 rfl (lv_at hl 1 rfl) ?_
  refine lv_iload_n hx hb dX0_writeWord_5 rfl (lv_at hl 2 rfl) ?_
  refine lv_iload_n hx hb dX0_writeWord_6 rfl (lv_at hl 1 rfl) ?_
  refine lv_aload_n hx hb dX0_writeWord_7 rfl (lv_at hl 0 rfl) ?_
  refine va_get (D := (dC, dI)) (ci := 0) (v := .int rw) (C := RX0) (T := TX0) (N := 4) hx hb hts inX0 hown hK hP 0 rfl rfl 2 (by decide) (hts _ k27) (fun _ h9 => h9) rfl dX0_writeWord_8 ?_
  have hdm : i.toInt % rw.toInt < rw.toInt ∧ 0 ≤ i.toInt % rw.toInt := ⟨Int.emod_lt_of_pos _ (by omega), Int.emod_nonneg _ (by omega)⟩
  refine lv_irem hx hb dX0_writeWord_11 (fun h9 => absurd ((ti_eq rfl (by decide : (0 : Int32).toInt = (0 : Int))).mp h9) (by omega)) ?_
  refine lv_topi (fun x1 ex1 => ?_)
  have hx1 : x1.toInt = i.toInt % rw.toInt := by rw [ex1]; exact ti_rem rfl rfl (by omega) (by omega)
  refine lv_iconst (v := 0) hx hb dX0_writeWord_12 (by decide) ?_
  refine lv_aload_n hx hb dX0_writeWord_13 rfl (lv_at hl 0 rfl) ?_
  refine va_get (D := (dC, dI)) (ci := 0) (v := .int w) (C := RX0) (T := TX0) (N := 4) hx hb hts inX0 hown hK hP 0 rfl rfl 0 (by decide) (hts _ k23) (fun _ h9 => h9) rfl dX0_writeWord_14 ?_
  have hk_0 : (0 : Int32).toInt = (0 : Int) := by decide
  refine vp_callSi (va_Run.run (va_runSN (As := [.int x1, .int (0 : Int32), .int w]) (rest := [.int v, .int i, .ref a]) ⟨hx, hb, hml, hown, hts⟩ (mX2_spanMask l x1 (0 : Int32) w (by omega) (by omega) (by omega) (by omega) (by omega)) (⟨va_cnB 3 hts (gB k131) rfl rfl rfl (hNS.2.2.2.2.2.2.2.2.2.1) (hts _ k1) (by decide +kernel) ⟨Nat.le_of_ble_eq_true rfl, Nat.le_of_ble_eq_true rfl⟩, hts _ k130, trivial⟩) (prT) rfl rfl hl.1 rfl (lv_room (Nat.le_of_ble_eq_true rfl)) dX0_writeWord_17 ⟨Nat.le_of_ble_eq_true rfl, Nat.le_of_ble_eq_true rfl⟩)) (fun r2 hwr2 => ?_)
  try dsimp only at hwr2
  refine lv_iand hx hb dX0_writeWord_20 ?_
  refine lv_topi (fun x3 ex3 => ?_)
  refine isK hx hb hK hP hD hS 1 0 rfl rfl (i.toInt.toNat) (by omega) (by omega) dX0_writeWord_21 (fun H locs hP hD hS => ?_)
  have hP : va_P (dC, dI) vwCl [(h0, .inr (0, [.int w, .int h, .int rw, .ref a])), (a, .inl (cI, n, .inl (upd g i.toInt.toNat x3)))] H := hP
  have hD : va_D A [(h0, .inr (0, [.int w, .int h, .int rw, .ref a])), (a, .inl (cI, n, .inl (upd g i.toInt.toNat x3)))] := hD
  exact W.vret hx hb hr (fun t9 ht9 hW9 => ⟨⟨x3, rfl, fun j hj => by rw [ex3, b_and, hwr2 j hj, hx1, ww_post (by omega)], by rw [ht9]; exact hP, va_K.moved hW9.alike hK, hD⟩, hS.F ht9⟩) hS.2.2 dX0_writeWord_22
set_option maxHeartbeats 8000000 in
set_option maxRecDepth 100000 in
theorem mX0_becomeBlank (l : Launch) {dC : Nat → ClassId} {dI : Nat → Nat → Nat} {sz : Nat} {h0 a n : Nat} {w h rw : Int32} {cI cF : ClassId} {g : Nat → Int32} (w1 h1 nd : Int32) (h2 : 1 ≤ w1.toInt ∧ w1.toInt ≤ 64000) (h3 : 1 ≤ nd.toInt ∧ nd.toInt ≤ 4000) (h4 : 16 ≤ n ∧ n ≤ 4000) : Met l yX0_becomeBlank (wM yX0_becomeBlank cX0_becomeBlank 4 none) ({ frames := 1, cells := 1, slots := 4000, locals := 23 }) (va_Pc [.ref h0, .int w1, .int h1, .int nd] (wP (dC, dI) vwCl (tyB cI cF) [(h0, .inr (0, [.int w, .int h, .int rw, .ref a])), (a, .inl (cI, n, .inl g))] sz)) (va_Qv (fun u : Nat × Nat × Int32 => nd.toInt ≤ (u.2.1 : Int) ∧ 16 ≤ u.2.1 ∧ u.2.1 ≤ 4000 ∧ u.2.2.toInt = (w1.toInt + 15) / 16) (wB (dC, dI) vwCl (va_A [(h0, .inr (0, [.int w, .int h, .int rw, .ref a])), (a, .inl (cI, n, .inl g))] sz) (fun u : Nat × Nat × Int32 => (tyB cI cF)) (fun u : Nat × Nat × Int32 => [(h0, .inr (0, [.int w1, .int h1, .int u.2.2, .ref u.1])), (u.1, .inl (cI, u.2.1, .inl (fun _ => 0)))])) (va_A [(h0, .inr (0, [.int w, .int h, .int rw, .ref a])), (a, .inl (cI, n, .inl g))] sz)) 1 4000 (va_A [(h0, .inr (0, [.int w, .int h, .int rw, .ref a])), (a, .inl (cI, n, .inl g))] sz) := by
  refine Met.ofW (cc := cX0_becomeBlank) (maxL := 4) (ret := none) (by decide +kernel) rfl ?_
  intro p e s m args below meth c s₁ B hml hv
  obtain ⟨rfl, hsz, hP, hK, hD0, hNS⟩ := hv
  have hx := B.exec
  have hb := B.bytes
  have hr := B.returns
  have hts : ∀ w ∈ tblG, w.before _ s = true := fun w h => atoms_spec (ws := wM yX0_becomeBlank cX0_becomeBlank 4 none) B.pre w (List.mem_cons_of_mem _ h)
  have hown : s.vm.findClass RX0 = some m.cls := findClass_of_methodNamed B.named
  have hlocks := B.notSynchronized
  subst hsz
  have hD := hD0.self (sz := s.heap.size)
  generalize hAe : va_A [(h0, .inr (0, [.int w, .int h, .int rw, .ref a])), (a, .inl (cI, n, .inl g))] s.heap.size = A at hD ⊢
  have hA : ∀ q : Nat, s.heap.size ≤ q → A q := fun q h => by rw [← hAe]; exact Or.inr h
  have hS : va_S A s.heap s.heap [] := va_S.rf
  have hP : va_P (dC, dI) vwCl [(h0, .inr (0, [.int w, .int h, .int rw, .ref a])), (a, .inl (cI, n, .inl g))] s.heap := hP
  have hl := lv_entry ([.ref h0, .int w1, .int h1, .int nd]) (n := 4) (Nat.le_of_ble_eq_true rfl)
  rw [lg_entry_eq]
  generalize (lg_sl ([.ref h0, .int w1, .int h1, .int nd]) ++ List.replicate (4 - (lg_sl ([.ref h0, .int w1, .int h1, .int nd])).length) Slot.unset).toArray = ls at hl ⊢
  have hl : lv_has ls 4 [(0, .ref h0), (1, .int w1), (2, .int h1), (3, .int nd)] := hl
  refine lv_aload_n hx hb dX0_becomeBlank_0 rfl (lv_at hl 0 rfl) ?_
  refine va_get (D := (dC, dI)) (ci := 0) (v := .ref a) (C := RX0) (T := TX0) (N := 4) hx hb hts inX0 hown hK hP 0 rfl rfl 3 (by decide) (hts _ k29) (fun _ h9 => h9) rfl dX0_becomeBlank_1 ?_
  refine va_alen hx hb hK hP 1 0 rfl rfl rfl dX0_becomeBlank_4 ?_
  refine lv_topi (fun x1 ex1 => ?_)
  have hx1 : x1.toInt = (n : Nat) := by rw [ex1]; exact nI_toInt (by omega)
  refine lv_iload_n hx hb dX0_becomeBlank_5 rfl (lv_at hl 3 rfl) ?_
  refine lv_icmp_ge (tgt := 35) hx hb dX0_becomeBlank_6 (by decide) (fun c2 => ?_) (fun c2 => ?_)
  · replace c2 := (ti_le rfl rfl).mp c2
    refine lv_aload_n hx hb dX0_becomeBlank_35 rfl (lv_at hl 0 rfl) ?_
    refine va_get (D := (dC, dI)) (ci := 0) (v := .ref a) (C := RX0) (T := TX0) (N := 4) hx hb hts inX0 hown hK hP 0 rfl rfl 3 (by decide) (hts _ k29) (fun _ h9 => h9) rfl dX0_becomeBlank_36 ?_
    refine lv_iconst (v := 0) hx hb dX0_becomeBlank_39 (by decide) ?_
    have hk_0 : (0 : Int32).toInt = (0 : Int) := by decide
    refine cJ1_v (S := Unit) 1 (show ([(h0, .inr (0, [.int w, .int h, .int rw, .ref a])), (a, .inl (cI, n, .inl g))] : va_W)[1]? = some (a, .inl (cI, n, .inl g)) from rfl) (va_runS (As := [.ref a, .int (0 : Int32)]) (rest := []) ⟨hx, hb, hml, hown, hts⟩ (mJ7_fill l (a := a) (0 : Int32) (by omega)) (va_cwS 2 hts (gA (m3 k109 k110 k6) k111) rfl rfl rfl (by decide +kernel) ⟨Nat.le_of_ble_eq_true rfl, Nat.le_of_ble_eq_true rfl⟩) (prWI1 hP hK hNS hD (show ([(h0, .inr (0, [.int w, .int h, .int rw, .ref a])), (a, .inl (cI, n, .inl g))] : va_W)[1]? = some (a, .inl (cI, n, .inl g)) from rfl)) rfl rfl hl.1 rfl (lv_room (Nat.le_of_ble_eq_true rfl)) dX0_becomeBlank_40 ⟨Nat.le_of_ble_eq_true rfl, Nat.le_of_ble_eq_true rfl⟩) hP hD hS hA (fun r3 H locs hwr3 hP hD hS => ?_)
    have hP : va_P (dC, dI) vwCl [(h0, .inr (0, [.int w, .int h, .int rw, .ref a])), (a, .inl (cI, n, .inl (fun _ => (0 : Int32))))] H := hP
    have hD : va_D A [(h0, .inr (0, [.int w, .int h, .int rw, .ref a])), (a, .inl (cI, n, .inl (fun _ => (0 : Int32))))] := hD
    refine lv_aload_n hx hb dX0_becomeBlank_43 rfl (lv_at hl 0 rfl) ?_
    refine lv_iload_n hx hb dX0_becomeBlank_44 rfl (lv_at hl 1 rfl) ?_
    refine va_put (D := (dC, dI)) (ci := 0) (v := .int w1) (ty := .int) (C := RX0) (T := TX0) (N := 4) hx hb hts inX0 tyX0 tyX0_ok nmX0 hown hK hP hD hS 0 rfl rfl 0 (by decide) (hts _ k23) (fun _ h9 => h9) rfl (by decide +kernel) rfl rfl (Nat.le_of_ble_eq_true rfl) dX0_becomeBlank_45 (fun H locs hP hD hS => ?_)
    have hP : va_P (dC, dI) vwCl [(h0, .inr (0, [.int w1, .int h, .int rw, .ref a])), (a, .inl (cI, n, .inl (fun _ => (0 : Int32))))] H := hP
    have hD : va_D A [(h0, .inr (0, [.int w1, .int h, .int rw, .ref a])), (a, .inl (cI, n, .inl (fun _ => (0 : Int32))))] := hD
    refine lv_aload_n hx hb dX0_becomeBlank_48 rfl (lv_at hl 0 rfl) ?_
    refine lv_iload_n hx hb dX0_becomeBlank_49 rfl (lv_at hl 2 rfl) ?_
    refine va_put (D := (dC, dI)) (ci := 0) (v := .int h1) (ty := .int) (C := RX0) (T := TX0) (N := 4) hx hb hts inX0 tyX0 tyX0_ok nmX0 hown hK hP hD hS 0 rfl rfl 1 (by decide) (hts _ k25) (fun _ h9 => h9) rfl (by decide +kernel) rfl rfl (Nat.le_of_ble_eq_true rfl) dX0_becomeBlank_50 (fun H locs hP hD hS => ?_)
    have hP : va_P (dC, dI) vwCl [(h0, .inr (0, [.int w1, .int h1, .int rw, .ref a])), (a, .inl (cI, n, .inl (fun _ => (0 : Int32))))] H := hP
    have hD : va_D A [(h0, .inr (0, [.int w1, .int h1, .int rw, .ref a])), (a, .inl (cI, n, .inl (fun _ => (0 : Int32))))] := hD
    refine lv_aload_n hx hb dX0_becomeBlank_53 rfl (lv_at hl 0 rfl) ?_
    refine lv_iload_n hx hb dX0_becomeBlank_54 rfl (lv_at hl 1 rfl) ?_
    refine vp_callSi (va_Run.run (va_runSN (As := [.int w1]) (rest := [.ref h0]) ⟨hx, hb, hml, hown, hts⟩ (mX2_wordsPerRow l w1 (by omega) (by omega)) (⟨va_cnB 1 hts (gB k95) rfl rfl rfl (hNS.2.2.2.2.2.2.2.2.1) (hts _ k1) (by decide +kernel) ⟨Nat.le_of_ble_eq_true rfl, Nat.le_of_ble_eq_true rfl⟩, hts _ k94, trivial⟩) (prT) rfl rfl hl.1 rfl (lv_room (Nat.le_of_ble_eq_true rfl)) dX0_becomeBlank_55 ⟨Nat.le_of_ble_eq_true rfl, Nat.le_of_ble_eq_true rfl⟩)) (fun r4 hwr4 => ?_)
    try dsimp only at hwr4
    refine va_put (D := (dC, dI)) (ci := 0) (v := .int r4) (ty := .int) (C := RX0) (T := TX0) (N := 4) hx hb hts inX0 tyX0 tyX0_ok nmX0 hown hK hP hD hS 0 rfl rfl 2 (by decide) (hts _ k27) (fun _ h9 => h9) rfl (by decide +kernel) rfl rfl (Nat.le_of_ble_eq_true rfl) dX0_becomeBlank_58 (fun H locs hP hD hS => ?_)
    have hP : va_P (dC, dI) vwCl [(h0, .inr (0, [.int w1, .int h1, .int r4, .ref a])), (a, .inl (cI, n, .inl (fun _ => (0 : Int32))))] H := hP
    have hD : va_D A [(h0, .inr (0, [.int w1, .int h1, .int r4, .ref a])), (a, .inl (cI, n, .inl (fun _ => (0 : Int32))))] := hD
    refine W.widen (k := 1) (n := 4000) (by omega) (by omega) ?_
    exact W.vret hx hb hr (fun t9 ht9 hW9 => ⟨⟨(a, n, r4), rfl, ⟨by dsimp only; omega, by dsimp only; omega, by dsimp only; omega, by dsimp only; omega⟩, by rw [ht9]; exact hP, va_K.moved hW9.alike hK, hD⟩, hS.F ht9⟩) hS.2.2 dX0_becomeBlank_61
  · replace c2 := mt (ti_le rfl rfl).mpr c2
    refine lv_aload_n hx hb dX0_becomeBlank_9 rfl (lv_at hl 0 rfl) ?_
    refine lv_iload_n hx hb dX0_becomeBlank_10 rfl (lv_at hl 3 rfl) ?_
    refine lv_iconst (v := 2) hx hb dX0_becomeBlank_11 (by decide) ?_
    refine lv_aload_n hx hb dX0_becomeBlank_12 rfl (lv_at hl 0 rfl) ?_
    refine va_get (D := (dC, dI)) (ci := 0) (v := .ref a) (C := RX0) (T := TX0) (N := 4) hx hb hts inX0 hown hK hP 0 rfl rfl 3 (by decide) (hts _ k29) (fun _ h9 => h9) rfl dX0_becomeBlank_13 ?_
    refine va_alen hx hb hK hP 1 0 rfl rfl rfl dX0_becomeBlank_16 ?_
    refine lv_topi (fun x5 ex5 => ?_)
    have hx5 : x5.toInt = (n : Nat) := by rw [ex5]; exact nI_toInt (by omega)
    refine lv_imul hx hb dX0_becomeBlank_17 ?_
    refine lv_topi (fun x6 ex6 => ?_)
    have hx6 : x6.toInt = (2 : Int) * x5.toInt := by rw [ex6]; exact ti_mul (by decide : (2 : Int32).toInt = (2 : Int)) rfl (by omega) (by omega)
    refine va_mmax hx hb (hml.trans hl.1.symm) hown (hts _ k103) (hts _ k104) (hts _ k5) (hts _ k105) (Nat.le_of_ble_eq_true rfl) (Nat.le_of_ble_eq_true rfl) (Nat.le_of_ble_eq_true rfl) (Nat.le_of_ble_eq_true rfl) dX0_becomeBlank_18 ?_
    refine lv_topi (fun x7 ex7 => ?_)
    have hx7 : x7.toInt = max (nd.toInt) (x6.toInt) := by rw [ex7]; exact ti_max rfl rfl
    refine lv_sipush (v := (4000)) hx hb dX0_becomeBlank_21 (by decide) ?_
    refine va_mmin hx hb (hml.trans hl.1.symm) hown (hts _ k106) (hts _ k107) (hts _ k5) (hts _ k108) (Nat.le_of_ble_eq_true rfl) (Nat.le_of_ble_eq_true rfl) (Nat.le_of_ble_eq_true rfl) (Nat.le_of_ble_eq_true rfl) dX0_becomeBlank_24 ?_
    refine lv_topi (fun x8 ex8 => ?_)
    have hx8 : x8.toInt = min (x7.toInt) ((4000 : Int)) := by rw [ex8]; exact ti_min rfl (by decide : (4000 : Int32).toInt = (4000 : Int))
    refine va_newa (atype := .int) (ty := .int) (a0 := (x8.toInt.toNat, .inl (fun _ => 0))) hx hb (hts _ k40) rfl hK hP hD hS hA (fun _ => rfl) (fun h9 => absurd ((ti_lt rfl (by decide : (0 : Int32).toInt = 0)).mp h9) (by omega)) ((ix_cl rfl).trans (by first | rfl | omega)) (by show x8.toInt.toNat * 4 ≤ _; omega) (by show 0 + 1 ≤ 1; omega) (by show 0 + _ ≤ 4000; omega) dX0_becomeBlank_27 (fun q9 cAq9 H hK9 hP hD hS => ?_)
    have hcc : cI = cAq9 := cA_one (i := 0) (j := 2) hK9 rfl rfl
    subst hcc
    refine W.widen (k := 1) (n := 4000) (by omega) (by omega) ?_
    have hP : va_P (dC, dI) vwCl [(h0, .inr (0, [.int w, .int h, .int rw, .ref a])), (a, .inl (cI, n, .inl g)), (q9, .inl (cI, x8.toInt.toNat, .inl (fun _ => 0)))] H := hP
    have hD : va_D A [(h0, .inr (0, [.int w, .int h, .int rw, .ref a])), (a, .inl (cI, n, .inl g)), (q9, .inl (cI, x8.toInt.toNat, .inl (fun _ => 0)))] := hD
    refine va_put (D := (dC, dI)) (ci := 0) (v := .ref q9) (ty := .array .int) (C := RX0) (T := TX0) (N := 4) hx hb hts inX0 tyX0 tyX0_ok nmX0 hown hK hP hD hS 0 rfl rfl 3 (by decide) (hts _ k29) (fun _ h9 => h9) rfl (by decide +kernel) rfl rfl (Nat.le_of_ble_eq_true rfl) dX0_becomeBlank_29 (fun H locs hP hD hS => ?_)
    have hP : va_P (dC, dI) vwCl [(h0, .inr (0, [.int w, .int h, .int rw, .ref q9])), (a, .inl (cI, n, .inl g)), (q9, .inl (cI, x8.toInt.toNat, .inl (fun _ => 0)))] H := hP
    have hD : va_D A [(h0, .inr (0, [.int w, .int h, .int rw, .ref q9])), (a, .inl (cI, n, .inl g)), (q9, .inl (cI, x8.toInt.toNat, .inl (fun _ => 0)))] := hD
    refine lv_goto (tgt := 43) hx hb dX0_becomeBlank_32 (by decide) ?_
    refine lv_aload_n hx hb dX0_becomeBlank_43 rfl (lv_at hl 0 rfl) ?_
    refine lv_iload_n hx hb dX0_becomeBlank_44 rfl (lv_at hl 1 rfl) ?_
    refine va_put (D := (dC, dI)) (ci := 0) (v := .int w1) (ty := .int) (C := RX0) (T := TX0) (N := 4) hx hb hts inX0 tyX0 tyX0_ok nmX0 hown hK hP hD hS 0 rfl rfl 0 (by decide) (hts _ k23) (fun _ h9 => h9) rfl (by decide +kernel) rfl rfl (Nat.le_of_ble_eq_true rfl) dX0_becomeBlank_45 (fun H locs hP hD hS => ?_)
    have hP : va_P (dC, dI) vwCl [(h0, .inr (0, [.int w1, .int h, .int rw, .ref q9])), (a, .inl (cI, n, .inl g)), (q9, .inl (cI, x8.toInt.toNat, .inl (fun _ => 0)))] H := hP
    have hD : va_D A [(h0, .inr (0, [.int w1, .int h, .int rw, .ref q9])), (a, .inl (cI, n, .inl g)), (q9, .inl (cI, x8.toInt.toNat, .inl (fun _ => 0)))] := hD
    refine lv_aload_n hx hb dX0_becomeBlank_48 rfl (lv_at hl 0 rfl) ?_
    refine lv_iload_n hx hb dX0_becomeBlank_49 rfl (lv_at hl 2 rfl) ?_
    refine va_put (D := (dC, dI)) (ci := 0) (v := .int h1) (ty := .int) (C := RX0) (T := TX0) (N := 4) hx hb hts inX0 tyX0 tyX0_ok nmX0 hown hK hP hD hS 0 rfl rfl 1 (by decide) (hts _ k25) (fun _ h9 => h9) rfl (by decide +kernel) rfl rfl (Nat.le_of_ble_eq_true rfl) dX0_becomeBlank_50 (fun H locs hP hD hS => ?_)
    have hP : va_P (dC, dI) vwCl [(h0, .inr (0, [.int w1, .int h1, .int rw, .ref q9])), (a, .inl (cI, n, .inl g)), (q9, .inl (cI, x8.toInt.toNat, .inl (fun _ => 0)))] H := hP
    have hD : va_D A [(h0, .inr (0, [.int w1, .int h1, .int rw, .ref q9])), (a, .inl (cI, n, .inl g)), (q9, .inl (cI, x8.toInt.toNat, .inl (fun _ => 0)))] := hD
    refine lv_aload_n hx hb dX0_becomeBlank_53 rfl (lv_at hl 0 rfl) ?_
    refine lv_iload_n hx hb dX0_becomeBlank_54 rfl (lv_at hl 1 rfl) ?_
    refine vp_callSi (va_Run.run (va_runSN (As := [.int w1]) (rest := [.ref h0]) ⟨hx, hb, hml, hown, hts⟩ (mX2_wordsPerRow l w1 (by omega) (by omega)) (⟨va_cnB 1 hts (gB k95) rfl rfl rfl (hNS.2.2.2.2.2.2.2.2.1) (hts _ k1) (by decide +kernel) ⟨Nat.le_of_ble_eq_true rfl, Nat.le_of_ble_eq_true rfl⟩, hts _ k94, trivial⟩) (prT) rfl rfl hl.1 rfl (lv_room (Nat.le_of_ble_eq_true rfl)) dX0_becomeBlank_55 ⟨Nat.le_of_ble_eq_true rfl, Nat.le_of_ble_eq_true rfl⟩)) (fun r10 hwr10 => ?_)
    try dsimp only at hwr10
    refine va_put (D := (dC, dI)) (ci := 0) (v := .int r10) (ty := .int) (C := RX0) (T := TX0) (N := 4) hx hb hts inX0 tyX0 tyX0_ok nmX0 hown hK hP hD hS 0 rfl rfl 2 (by decide) (hts _ k27) (fun _ h9 => h9) rfl (by decide +kernel) rfl rfl (Nat.le_of_ble_eq_true rfl) dX0_becomeBlank_58 (fun H locs hP hD hS => ?_)
    have hP : va_P (dC, dI) vwCl [(h0, .inr (0, [.int w1, .int h1, .int r10, .ref q9])), (a, .inl (cI, n, .inl g)), (q9, .inl (cI, x8.toInt.toNat, .inl (fun _ => 0)))] H := hP
    have hD : va_D A [(h0, .inr (0, [.int w1, .int h1, .int r10, .ref q9])), (a, .inl (cI, n, .inl g)), (q9, .inl (cI, x8.toInt.toNat, .inl (fun _ => 0)))] := hD
    have hP := hP.sub (ws' := [(h0, .inr (0, [.int w1, .int h1, .int r10, .ref q9])), (q9, .inl (cI, x8.toInt.toNat, .inl (fun _ => 0)))]) [0, 2] rfl
    have hD := hD.sub (ws' := [(h0, .inr (0, [.int w1, .int h1, .int r10, .ref q9])), (q9, .inl (cI, x8.toInt.toNat, .inl (fun _ => 0)))]) [0, 2] (by decide) rfl
    refine W.widen (k := 1) (n := 4000) (by omega) (by omega) ?_
    exact W.vret hx hb hr (fun t9 ht9 hW9 => ⟨⟨(q9, x8.toInt.toNat, r10), rfl, ⟨by dsimp only; omega, by dsimp only; omega, by dsimp only; omega, by dsimp only; omega⟩, by rw [ht9]; exact hP, va_K.moved hW9.alike hK, hD⟩, hS.F ht9⟩) hS.2.2 dX0_becomeBlank_61
set_option maxHeartbeats 8000000 in
set_option maxRecDepth 100000 in
theorem mX1_init (l : Launch) {dC : Nat → ClassId} {dI : Nat → Nat → Nat} {sz : Nat} {tys : List (ClassId × FieldType)} {h0 : Nat} {ra rb rs : Int32} : Met l yX1_init (wM yX1_init cX1_init 1 none) ({ frames := 1, cells := 0, slots := 0, locals := 21 }) (va_Pc [.ref h0] (wP (dC, dI) vwCl tys [(h0, .inr (1, [.int ra, .int rb, .int rs]))] sz)) (va_Qv (fun u : Unit => True) (wB (dC, dI) vwCl (va_A [(h0, .inr (1, [.int ra, .int rb, .int rs]))] sz) (fun u : Unit => tys) (fun u : Unit => [(h0, .inr (1, [.int ra, .int rb, .int rs]))])) (va_A [(h0, .inr (1, [.int ra, .int rb, .int rs]))] sz)) 0 0 (va_A [(h0, .inr (1, [.int ra, .int rb, .int rs]))] sz) := by
  refine Met.ofW (cc := cX1_init) (maxL := 1) (ret := none) (by decide +kernel) rfl ?_
  intro p e s m args below meth c s₁ B hml hv
  obtain ⟨rfl, hsz, hP, hK, hD0, hNS⟩ := hv
  have hx := B.exec
  have hb := B.bytes
  have hr := B.returns
  have hts : ∀ w ∈ tblG, w.before _ s = true := fun w h => atoms_spec (ws := wM yX1_init cX1_init 1 none) B.pre w (List.mem_cons_of_mem _ h)
  have hown : s.vm.findClass RX1 = some m.cls := findClass_of_methodNamed B.named
  have hlocks := B.notSynchronized
  have hin : meth.name = "<init>" := (name_of_methodNamed B.named B.method).1
  subst hsz
  have hD := hD0.self (sz := s.heap.size)
  generalize hAe : va_A [(h0, .inr (1, [.int ra, .int rb, .int rs]))] s.heap.size = A at hD ⊢
  have hA : ∀ q : Nat, s.heap.size ≤ q → A q := fun q h => by rw [← hAe]; exact Or.inr h
  have hS : va_S A s.heap s.heap [] := va_S.rf
  have hP : va_P (dC, dI) vwCl [(h0, .inr (1, [.int ra, .int rb, .int rs]))] s.heap := hP
  have hl := lv_entry ([.ref h0]) (n := 1) (Nat.le_of_ble_eq_true rfl)
  rw [lg_entry_eq]
  generalize (lg_sl ([.ref h0]) ++ List.replicate (1 - (lg_sl ([.ref h0])).length) Slot.unset).toArray = ls at hl ⊢
  have hl : lv_has ls 1 [(0, .ref h0)] := hl
  refine lv_aload_n hx hb dX1_init_0 rfl (lv_at hl 0 rfl) ?_
  refine W.objInit hx hb hown (hts _ k46) (hts _ k14) (hts _ k15) rfl (by rw [hml]; exact hl.1) rfl dX1_init_1 (Nat.le_of_ble_eq_true rfl) (Nat.le_of_ble_eq_true rfl) ?_
  refine W.eq (g2 := F0 m 4 ls []) rfl ?_
  exact W.vret hx hb hr (fun t9 ht9 hW9 => ⟨⟨(), rfl, trivial, by rw [ht9]; exact hP, va_K.moved hW9.alike hK, hD⟩, hS.F ht9⟩) hS.2.2 dX1_init_4
set_option maxHeartbeats 8000000 in
set_option maxRecDepth 100000 in
theorem mX0_init (l : Launch) {dC : Nat → ClassId} {dI : Nat → Nat → Nat} {sz : Nat} {tys : List (ClassId × FieldType)} {h0 : Nat} {ra rb rs : Int32} : Met l yX0_init (wM yX0_init cX0_init 1 none) ({ frames := 1, cells := 1, slots := 16, locals := 21 }) (va_Pc [.ref h0] (wP (dC, dI) vwCl tys [(h0, .inr (0, [.int ra, .int rb, .int rs, .null]))] sz)) (va_Qv (fun u : Nat × ClassId => True) (wB (dC, dI) vwCl (va_A [(h0, .inr (0, [.int ra, .int rb, .int rs, .null]))] sz) (fun u : Nat × ClassId => tys ++ [(u.2, .int)]) (fun u : Nat × ClassId => [(h0, .inr (0, [.int 16, .int 16, .int 1, .ref u.1])), (u.1, .inl (u.2, 16, .inl (fun _ => 0)))])) (va_A [(h0, .inr (0, [.int ra, .int rb, .int rs, .null]))] sz)) 1 16 (va_A [(h0, .inr (0, [.int ra, .int rb, .int rs, .null]))] sz) := by
  refine Met.ofW (cc := cX0_init) (maxL := 1) (ret := none) (by decide +kernel) rfl ?_
  intro p e s m args below meth c s₁ B hml hv
  obtain ⟨rfl, hsz, hP, hK, hD0, hNS⟩ := hv
  have hx := B.exec
  have hb := B.bytes
  have hr := B.returns
  have hts : ∀ w ∈ tblG, w.before _ s = true := fun w h => atoms_spec (ws := wM yX0_init cX0_init 1 none) B.pre w (List.mem_cons_of_mem _ h)
  have hown : s.vm.findClass RX0 = some m.cls := findClass_of_methodNamed B.named
  have hlocks := B.notSynchronized
  have hin : meth.name = "<init>" := (name_of_methodNamed B.named B.method).1
  subst hsz
  have hD := hD0.self (sz := s.heap.size)
  generalize hAe : va_A [(h0, .inr (0, [.int ra, .int rb, .int rs, .null]))] s.heap.size = A at hD ⊢
  have hA : ∀ q : Nat, s.heap.size ≤ q → A q := fun q h => by rw [← hAe]; exact Or.inr h
  have hS : va_S A s.heap s.heap [] := va_S.rf
  have hP : va_P (dC, dI) vwCl [(h0, .inr (0, [.int ra, .int rb, .int rs, .null]))] s.heap := hP
  have hl := lv_entry ([.ref h0]) (n := 1) (Nat.le_of_ble_eq_true rfl)
  rw [lg_entry_eq]
  generalize (lg_sl ([.ref h0]) ++ List.replicate (1 - (lg_sl ([.ref h0])).length) Slot.unset).toArray = ls at hl ⊢
  have hl : lv_has ls 1 [(0, .ref h0)] := hl
  refine lv_aload_n hx hb dX0_init_0 rfl (lv_at hl 0 rfl) ?_
  refine W.objInit hx hb hown (hts _ k22) (hts _ k14) (hts _ k15) rfl (by rw [hml]; exact hl.1) rfl dX0_init_1 (Nat.le_of_ble_eq_true rfl) (Nat.le_of_ble_eq_true rfl) ?_
  refine W.eq (g2 := F0 m 4 ls []) rfl ?_
  refine lv_aload_n hx hb dX0_init_4 rfl (lv_at hl 0 rfl) ?_
  refine lv_bipush (v := (16)) hx hb dX0_init_5 (by decide) ?_
  refine va_put (D := (dC, dI)) (ci := 0) (v := .int (16 : Int32)) (ty := .int) (C := RX0) (T := TX0) (N := 4) hx hb hts inX0 tyX0 tyX0_ok nmX0 hown hK hP hD hS 0 rfl rfl 0 (by decide) (hts _ k23) (fun _ h9 => h9) rfl (by decide +kernel) rfl rfl (Nat.le_of_ble_eq_true rfl) dX0_init_7 (fun H locs hP hD hS => ?_)
  have hP : va_P (dC, dI) vwCl [(h0, .inr (0, [.int (16 : Int32), .int rb, .int rs, .null]))] H := hP
  have hD : va_D A [(h0, .inr (0, [.int (16 : Int32), .int rb, .int rs, .null]))] := hD
  refine lv_aload_n hx hb dX0_init_10 rfl (lv_at hl 0 rfl) ?_
  refine lv_bipush (v := (16)) hx hb dX0_init_11 (by decide) ?_
  refine va_put (D := (dC, dI)) (ci := 0) (v := .int (16 : Int32)) (ty := .int) (C := RX0) (T := TX0) (N := 4) hx hb hts inX0 tyX0 tyX0_ok nmX0 hown hK hP hD hS 0 rfl rfl 1 (by decide) (hts _ k25) (fun _ h9 => h9) rfl (by decide +kernel) rfl rfl (Nat.le_of_ble_eq_true rfl) dX0_init_13 (fun H locs hP hD hS => ?_)
  have hP : va_P (dC, dI) vwCl [(h0, .inr (0, [.int (16 : Int32), .int (16 : Int32), .int rs, .null]))] H := hP
  have hD : va_D A [(h0, .inr (0, [.int (16 : Int32), .int (16 : Int32), .int rs, .null]))] := hD
  refine lv_aload_n hx hb dX0_init_16 rfl (lv_at hl 0 rfl) ?_
  refine lv_iconst (v := 1) hx hb dX0_init_17 (by decide) ?_
  refine va_put (D := (dC, dI)) (ci := 0) (v := .int (1 : Int32)) (ty := .int) (C := RX0) (T := TX0) (N := 4) hx hb hts inX0 tyX0 tyX0_ok nmX0 hown hK hP hD hS 0 rfl rfl 2 (by decide) (hts _ k27) (fun _ h9 => h9) rfl (by decide +kernel) rfl rfl (Nat.le_of_ble_eq_true rfl) dX0_init_18 (fun H locs hP hD hS => ?_)
  have hP : va_P (dC, dI) vwCl [(h0, .inr (0, [.int (16 : Int32), .int (16 : Int32), .int (1 : Int32), .null]))] H := hP
  have hD : va_D A [(h0, .inr (0, [.int (16 : Int32), .int (16 : Int32), .int (1 : Int32), .null]))] := hD
  refine lv_aload_n hx hb dX0_init_21 rfl (lv_at hl 0 rfl) ?_
  refine lv_bipush (v := (16)) hx hb dX0_init_22 (by decide) ?_
  refine va_newa (atype := .int) (ty := .int) (a0 := (16, .inl (fun _ => 0))) hx hb (hts _ k40) rfl hK hP hD hS hA (fun _ => rfl) (fun h9 => absurd ((ti_lt (by decide : (16 : Int32).toInt = (16 : Int)) (by decide : (0 : Int32).toInt = 0)).mp h9) (by omega)) ((ix_cl (by decide : (16 : Int32).toInt = (16 : Int))).trans (by first | rfl | omega)) (by show 16 * 4 ≤ _; omega) (by show 0 + 1 ≤ 1; omega) (by show 0 + 16 ≤ 16; omega) dX0_init_24 (fun q cAq H hK9 hP hD hS => ?_)
  refine W.widen (k := 1) (n := 16) (by decide) (by decide) ?_
  have hK := hK9
  have hP : va_P (dC, dI) vwCl [(h0, .inr (0, [.int (16 : Int32), .int (16 : Int32), .int (1 : Int32), .null])), (q, .inl (cAq, 16, .inl (fun _ => 0)))] H := hP
  have hD : va_D A [(h0, .inr (0, [.int (16 : Int32), .int (16 : Int32), .int (1 : Int32), .null])), (q, .inl (cAq, 16, .inl (fun _ => 0)))] := hD
  refine va_put (D := (dC, dI)) (ci := 0) (v := .ref q) (ty := .array .int) (C := RX0) (T := TX0) (N := 4) hx hb hts inX0 tyX0 tyX0_ok nmX0 hown hK hP hD hS 0 rfl rfl 3 (by decide) (hts _ k29) (fun _ h9 => h9) rfl (by decide +kernel) rfl rfl (Nat.le_of_ble_eq_true rfl) dX0_init_26 (fun H locs hP hD hS => ?_)
  have hP : va_P (dC, dI) vwCl [(h0, .inr (0, [.int (16 : Int32), .int (16 : Int32), .int (1 : Int32), .ref q])), (q, .inl (cAq, 16, .inl (fun _ => 0)))] H := hP
  have hD : va_D A [(h0, .inr (0, [.int (16 : Int32), .int (16 : Int32), .int (1 : Int32), .ref q])), (q, .inl (cAq, 16, .inl (fun _ => 0)))] := hD
  exact W.vret hx hb hr (fun t9 ht9 hW9 => ⟨⟨(q, cAq), rfl, trivial, by rw [ht9]; exact hP, va_K.moved hW9.alike hK, hD⟩, hS.F ht9⟩) hS.2.2 dX0_init_29
