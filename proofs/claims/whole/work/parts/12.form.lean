set_option maxHeartbeats 8000000 in
set_option maxRecDepth 100000 in
theorem mX0_wordInRow (l : Launch) {dC : Nat → ClassId} {dI : Nat → Nat → Nat} {ws : va_W} {h0 k a : Nat} {w h rw : Int32} {cI cF : ClassId} {ka n : Nat} {g : Nat → Int32} (x : Int32) (y : Int32) (he : ws[k]? = some (h0, .inr (0, [.int w, .int h, .int rw, .ref a])))(ha : ws[ka]? = some (a, .inl (cI, n, .inl g))) {wN hN rN : Nat} (e1 : w.toInt = (wN : Int)) (e2 : h.toInt = (hN : Int)) (e3 : rw.toInt = (rN : Int)) (b2 : hN ≤ 4000) (b3 : rN ≤ 4000) (hn : rN * hN ≤ n) : Met l yX0_wordInRow (wM yX0_wordInRow cX0_wordInRow 3 (some .int)) ({ frames := 0, cells := 0, slots := 0, locals := 0 }) (va_Pc [.ref h0, .int x, .int y] (rP (dC, dI) vwCl (tyB cI cF) ws)) (vp_Si (fun r => (0 ≤ x.toInt ∧ x.toInt < rN ∧ 0 ≤ y.toInt ∧ y.toInt < hN ∧ r = g (y.toInt.toNat * rN + x.toInt.toNat)) ∨ ((x.toInt < 0 ∨ rN ≤ x.toInt ∨ y.toInt < 0 ∨ hN ≤ y.toInt) ∧ r = 0))) 0 0 (fun _ => False) := by
  refine Met.ofW (cc := cX0_wordInRow) (maxL := 3) (ret := (some .int)) (by decide +kernel) rfl ?_
  intro p e s m args below meth c s₁ B hml hv
  obtain ⟨rfl, hP, hK, hNS⟩ := hv
  have hx := B.exec
  have hb := B.bytes
  have hr := B.returns
  have hts : ∀ w ∈ tblG, w.before _ s = true := fun w h => atoms_spec (ws := wM yX0_wordInRow cX0_wordInRow 3 (some .int)) B.pre w (List.mem_cons_of_mem _ h)
  have hown : s.vm.findClass RX0 = some m.cls := findClass_of_methodNamed B.named
  have hlocks := B.notSynchronized
  have hl := lv_entry ([.ref h0, .int x, .int y]) (n := 3) (Nat.le_of_ble_eq_true rfl)
  rw [lg_entry_eq]
  generalize (lg_sl ([.ref h0, .int x, .int y]) ++ List.replicate (3 - (lg_sl ([.ref h0, .int x, .int y])).length) Slot.unset).toArray = ls at hl ⊢
  have hl : lv_has ls 3 [(0, .ref h0), (1, .int x), (2, .int y)] := hl
  refine lv_iload_n hx hb dX0_wordInRow_0 rfl (lv_at hl 1 rfl) ?_
  refine lv_if_lt (tgt := 40) hx hb dX0_wordInRow_1 (by decide) (fun c1 => ?_) (fun c1 => ?_)
  · replace c1 := (ti_lt rfl (by decide : (0 : Int32).toInt = (0 : Int))).mp c1
    refine lv_iconst (v := 0) hx hb dX0_wordInRow_40 (by decide) ?_
    refine lv_topi (fun r2 er2 => ?_)
    have hr2 : r2.toInt = (0 : Int) := by rw [er2]; exact (by decide : (0 : Int32).toInt = (0 : Int))
    exact W.iret (v := r2) hx hb hr (fun t9 ht9 _ => ⟨r2, rfl, Or.inr ⟨by omega, by first | exact er2 | rfl⟩, ht9⟩) (fun _ h => absurd h List.not_mem_nil) dX0_wordInRow_41
  · replace c1 := mt (ti_lt rfl (by decide : (0 : Int32).toInt = (0 : Int))).mpr c1
    refine lv_iload_n hx hb dX0_wordInRow_4 rfl (lv_at hl 1 rfl) ?_
    refine lv_aload_n hx hb dX0_wordInRow_5 rfl (lv_at hl 0 rfl) ?_
    refine va_get (D := (dC, dI)) (ci := 0) (v := .int rw) (C := RX0) (T := TX0) (N := 4) hx hb hts inX0 hown hK hP k he rfl 2 (by decide) (hts _ k27) (fun _ h9 => h9) rfl dX0_wordInRow_6 ?_
    refine lv_icmp_ge (tgt := 40) hx hb dX0_wordInRow_9 (by decide) (fun c3 => ?_) (fun c3 => ?_)
    · replace c3 := (ti_le rfl rfl).mp c3
      refine lv_iconst (v := 0) hx hb dX0_wordInRow_40 (by decide) ?_
      refine lv_topi (fun r4 er4 => ?_)
      have hr4 : r4.toInt = (0 : Int) := by rw [er4]; exact (by decide : (0 : Int32).toInt = (0 : Int))
      exact W.iret (v := r4) hx hb hr (fun t9 ht9 _ => ⟨r4, rfl, Or.inr ⟨by omega, by first | exact er4 | rfl⟩, ht9⟩) (fun _ h => absurd h List.not_mem_nil) dX0_wordInRow_41
    · replace c3 := mt (ti_le rfl rfl).mpr c3
      refine lv_iload_n hx hb dX0_wordInRow_12 rfl (lv_at hl 2 rfl) ?_
      refine lv_if_lt (tgt := 40) hx hb dX0_wordInRow_13 (by decide) (fun c5 => ?_) (fun c5 => ?_)
      · replace c5 := (ti_lt rfl (by decide : (0 : Int32).toInt = (0 : Int))).mp c5
        refine lv_iconst (v := 0) hx hb dX0_wordInRow_40 (by decide) ?_
        refine lv_topi (fun r6 er6 => ?_)
        have hr6 : r6.toInt = (0 : Int) := by rw [er6]; exact (by decide : (0 : Int32).toInt = (0 : Int))
        exact W.iret (v := r6) hx hb hr (fun t9 ht9 _ => ⟨r6, rfl, Or.inr ⟨by omega, by first | exact er6 | rfl⟩, ht9⟩) (fun _ h => absurd h List.not_mem_nil) dX0_wordInRow_41
      · replace c5 := mt (ti_lt rfl (by decide : (0 : Int32).toInt = (0 : Int))).mpr c5
        refine lv_iload_n hx hb dX0_wordInRow_16 rfl (lv_at hl 2 rfl) ?_
        refine lv_aload_n hx hb dX0_wordInRow_17 rfl (lv_at hl 0 rfl) ?_
        refine va_get (D := (dC, dI)) (ci := 0) (v := .int h) (C := RX0) (T := TX0) (N := 4) hx hb hts inX0 hown hK hP k he rfl 1 (by decide) (hts _ k25) (fun _ h9 => h9) rfl dX0_wordInRow_18 ?_
        refine lv_icmp_ge (tgt := 40) hx hb dX0_wordInRow_21 (by decide) (fun c7 => ?_) (fun c7 => ?_)
        · replace c7 := (ti_le rfl rfl).mp c7
          refine lv_iconst (v := 0) hx hb dX0_wordInRow_40 (by decide) ?_
          refine lv_topi (fun r8 er8 => ?_)
          have hr8 : r8.toInt = (0 : Int) := by rw [er8]; exact (by decide : (0 : Int32).toInt = (0 : Int))
          exact W.iret (v := r8) hx hb hr (fun t9 ht9 _ => ⟨r8, rfl, Or.inr ⟨by omega, by first | exact er8 | rfl⟩, ht9⟩) (fun _ h => absurd h List.not_mem_nil) dX0_wordInRow_41
        · replace c7 := mt (ti_le rfl rfl).mpr c7
          refine lv_aload_n hx hb dX0_wordInRow_24 rfl (lv_at hl 0 rfl) ?_
          refine va_get (D := (dC, dI)) (ci := 0) (v := .ref a) (C := RX0) (T := TX0) (N := 4) hx hb hts inX0 hown hK hP k he rfl 3 (by decide) (hts _ k29) (fun _ h9 => h9) rfl dX0_wordInRow_25 ?_
          refine lv_iload_n hx hb dX0_wordInRow_28 rfl (lv_at hl 2 rfl) ?_
          refine lv_aload_n hx hb dX0_wordInRow_29 rfl (lv_at hl 0 rfl) ?_
          refine va_get (D := (dC, dI)) (ci := 0) (v := .int rw) (C := RX0) (T := TX0) (N := 4) hx hb hts inX0 hown hK hP k he rfl 2 (by decide) (hts _ k27) (fun _ h9 => h9) rfl dX0_wordInRow_30 ?_
          have hmb := mul_bd (a := y.toInt) (b := rw.toInt) (A := 4000) (B := 4000) (by omega) (by omega) (by omega) (by omega)
          refine lv_imul hx hb dX0_wordInRow_33 ?_
          refine lv_topi (fun x9 ex9 => ?_)
          have hx9 : x9.toInt = y.toInt * rw.toInt := by rw [ex9]; exact ti_mul rfl rfl (by omega) (by omega)
          refine lv_iload_n hx hb dX0_wordInRow_34 rfl (lv_at hl 1 rfl) ?_
          refine lv_iadd hx hb dX0_wordInRow_35 ?_
          refine lv_topi (fun x10 ex10 => ?_)
          have hx10 : x10.toInt = x9.toInt + x.toInt := by rw [ex10]; exact ti_add rfl rfl (by omega) (by omega)
          have hix : x10.toInt = ((y.toInt.toNat * rN + x.toInt.toNat : Nat) : Int) := by rw [hx10, hx9, e3, rc_int (by omega) (by omega) (by omega), Int.toNat_natCast]
          have hixb : y.toInt.toNat * rN + x.toInt.toNat < n := rc_bd (by omega) (by omega) (by omega) (by omega) hn
          refine iaK hx hb hK hP ka 0 ha rfl (y.toInt.toNat * rN + x.toInt.toNat) (hix) (by omega) dX0_wordInRow_36 ?_
          refine lv_topi (fun x11 ex11 => ?_)
          refine lv_goto (tgt := 41) hx hb dX0_wordInRow_37 (by decide) ?_
          exact W.iret (v := x11) hx hb hr (fun t9 ht9 _ => ⟨x11, rfl, Or.inl ⟨by omega, by omega, by omega, by omega, ex11⟩, ht9⟩) (fun _ h => absurd h List.not_mem_nil) dX0_wordInRow_41
set_option maxHeartbeats 8000000 in
set_option maxRecDepth 100000 in
theorem mX0_bitAt (l : Launch) {dC : Nat → ClassId} {dI : Nat → Nat → Nat} {ws : va_W} {h0 k a : Nat} {w h rw : Int32} {cI cF : ClassId} {ka n : Nat} {g : Nat → Int32} (x : Int32) (y : Int32) (he : ws[k]? = some (h0, .inr (0, [.int w, .int h, .int rw, .ref a])))(ha : ws[ka]? = some (a, .inl (cI, n, .inl g))) {wN hN rN : Nat} (e1 : w.toInt = (wN : Int)) (e2 : h.toInt = (hN : Int)) (e3 : rw.toInt = (rN : Int)) (b2 : hN ≤ 4000) (b3 : rN ≤ 4000) (hn : rN * hN ≤ n) (hx1 : 0 ≤ x.toInt ∧ x.toInt < wN) (hy1 : 0 ≤ y.toInt ∧ y.toInt < hN) (hwr : wN ≤ 16 * rN) (hw4 : wN ≤ 64000) : Met l yX0_bitAt (wM yX0_bitAt cX0_bitAt 4 (some .int)) ({ frames := 0, cells := 0, slots := 0, locals := 0 }) (va_Pc [.ref h0, .int x, .int y] (rP (dC, dI) vwCl (tyB cI cF) ws)) (vp_Si (fun r => r.toInt = (b1 (BV g rN x.toInt.toNat y.toInt.toNat) : Int))) 0 0 (fun _ => False) := by
  refine Met.ofW (cc := cX0_bitAt) (maxL := 4) (ret := (some .int)) (by decide +kernel) rfl ?_
  intro p e s m args below meth c s₁ B hml hv
  obtain ⟨rfl, hP, hK, hNS⟩ := hv
  have hx := B.exec
  have hb := B.bytes
  have hr := B.returns
  have hts : ∀ w ∈ tblG, w.before _ s = true := fun w h => atoms_spec (ws := wM yX0_bitAt cX0_bitAt 4 (some .int)) B.pre w (List.mem_cons_of_mem _ h)
  have hown : s.vm.findClass RX0 = some m.cls := findClass_of_methodNamed B.named
  have hlocks := B.notSynchronized
  have hl := lv_entry ([.ref h0, .int x, .int y]) (n := 4) (Nat.le_of_ble_eq_true rfl)
  rw [lg_entry_eq]
  generalize (lg_sl ([.ref h0, .int x, .int y]) ++ List.replicate (4 - (lg_sl ([.ref h0, .int x, .int y])).length) Slot.unset).toArray = ls at hl ⊢
  have hl : lv_has ls 4 [(0, .ref h0), (1, .int x), (2, .int y)] := hl
  refine lv_aload_n hx hb dX0_bitAt_0 rfl (lv_at hl 0 rfl) ?_
  refine va_get (D := (dC, dI)) (ci := 0) (v := .ref a) (C := RX0) (T := TX0) (N := 4) hx hb hts inX0 hown hK hP k he rfl 3 (by decide) (hts _ k29) (fun _ h9 => h9) rfl dX0_bitAt_1 ?_
  refine lv_iload_n hx hb dX0_bitAt_4 rfl (lv_at hl 2 rfl) ?_
  refine lv_aload_n hx hb dX0_bitAt_5 rfl (lv_at hl 0 rfl) ?_
  refine va_get (D := (dC, dI)) (ci := 0) (v := .int rw) (C := RX0) (T := TX0) (N := 4) hx hb hts inX0 hown hK hP k he rfl 2 (by decide) (hts _ k27) (fun _ h9 => h9) rfl dX0_bitAt_6 ?_
  have hmb := mul_bd (a := y.toInt) (b := rw.toInt) (A := 4000) (B := 4000) (by omega) (by omega) (by omega) (by omega)
  refine lv_imul hx hb dX0_bitAt_9 ?_
  refine lv_topi (fun x1 ex1 => ?_)
  have hx1 : x1.toInt = y.toInt * rw.toInt := by rw [ex1]; exact ti_mul rfl rfl (by omega) (by omega)
  refine lv_iload_n hx hb dX0_bitAt_10 rfl (lv_at hl 1 rfl) ?_
  refine lv_bipush (v := (16)) hx hb dX0_bitAt_11 (by decide) ?_
  refine lv_idiv hx hb dX0_bitAt_13 (by decide) ?_
  refine lv_topi (fun x2 ex2 => ?_)
  have hx2 : x2.toInt = x.toInt / (16 : Int) := by rw [ex2]; exact ti_div rfl (by decide : (16 : Int32).toInt = (16 : Int)) (by omega) (by omega)
  refine lv_iadd hx hb dX0_bitAt_14 ?_
  refine lv_topi (fun x3 ex3 => ?_)
  have hx3 : x3.toInt = x1.toInt + x2.toInt := by rw [ex3]; exact ti_add rfl rfl (by omega) (by omega)
  have hix : x3.toInt = ((y.toInt.toNat * rN + (x.toInt / 16).toNat : Nat) : Int) := by rw [hx3, hx1, hx2, e3, rc_int (by omega) (by omega) (by omega), Int.toNat_natCast]
  have hixb : y.toInt.toNat * rN + (x.toInt / 16).toNat < n := rc_bd (by omega) (by omega) (by omega) (by omega) hn
  refine iaK hx hb hK hP ka 0 ha rfl (y.toInt.toNat * rN + (x.toInt / 16).toNat) (hix) (by omega) dX0_bitAt_15 ?_
  refine lv_topi (fun x4 ex4 => ?_)
  refine lv_istore_n (lv' := [(3, .int x4), (0, .ref h0), (1, .int x), (2, .int y)]) hx hb dX0_bitAt_16 rfl hl (by decide) rfl (fun ls hl => ?_)
  refine lv_iload_n hx hb dX0_bitAt_17 rfl (lv_at hl 0 rfl) ?_
  refine lv_bipush (v := (15)) hx hb dX0_bitAt_18 (by decide) ?_
  refine lv_iload_n hx hb dX0_bitAt_20 rfl (lv_at hl 2 rfl) ?_
  refine lv_bipush (v := (16)) hx hb dX0_bitAt_21 (by decide) ?_
  refine lv_irem hx hb dX0_bitAt_23 (by decide) ?_
  refine lv_topi (fun x5 ex5 => ?_)
  have hx5 : x5.toInt = x.toInt % (16 : Int) := by rw [ex5]; exact ti_rem rfl (by decide : (16 : Int32).toInt = (16 : Int)) (by omega) (by omega)
  refine lv_isub hx hb dX0_bitAt_24 ?_
  refine lv_topi (fun x6 ex6 => ?_)
  have hx6 : x6.toInt = (15 : Int) - x5.toInt := by rw [ex6]; exact ti_sub (by decide : (15 : Int32).toInt = (15 : Int)) rfl (by omega) (by omega)
  refine lv_iushr hx hb dX0_bitAt_25 rfl ?_
  refine lv_topi (fun x7 ex7 => ?_)
  refine lv_iconst (v := 1) hx hb dX0_bitAt_26 (by decide) ?_
  refine lv_iand hx hb dX0_bitAt_27 ?_
  refine lv_topi (fun x8 ex8 => ?_)
  exact W.iret (v := x8) hx hb hr (fun t9 ht9 _ => ⟨x8, rfl, bitAt_post (by omega) ex4 (by omega) ex7 ex8, ht9⟩) (fun _ h => absurd h List.not_mem_nil) dX0_bitAt_28
set_option maxHeartbeats 8000000 in
set_option maxRecDepth 100000 in
theorem mX0_bitsFrom (l : Launch) {dC : Nat → ClassId} {dI : Nat → Nat → Nat} {ws : va_W} {h0 k a : Nat} {w h rw : Int32} {cI cF : ClassId} {ka n : Nat} {g : Nat → Int32} (x y : Int32) (he : ws[k]? = some (h0, .inr (0, [.int w, .int h, .int rw, .ref a])))(ha : ws[ka]? = some (a, .inl (cI, n, .inl g))) {wN hN rN : Nat} (e1 : w.toInt = (wN : Int)) (e2 : h.toInt = (hN : Int)) (e3 : rw.toInt = (rN : Int)) (b2 : hN ≤ 4000) (b3 : rN ≤ 4000) (hn : rN * hN ≤ n) (hg : ∀ i j, 16 ≤ j → bt (g i) j = false) (hxb : -1000000 ≤ x.toInt ∧ x.toInt ≤ 1000000) : Met l yX0_bitsFrom (wM yX0_bitsFrom cX0_bitsFrom 5 (some .int)) ({ frames := 1, cells := 0, slots := 0, locals := 22 }) (va_Pc [.ref h0, .int x, .int y] (rP (dC, dI) vwCl (tyB cI cF) ws)) (vp_Si (fun r => ∀ j, bt r j = (decide (j < 16) && SB g rN hN (x.toInt + 15 - j) y.toInt))) 0 0 (fun _ => False) := by
  refine Met.ofW (cc := cX0_bitsFrom) (maxL := 5) (ret := (some .int)) (by decide +kernel) rfl ?_
  intro p e s m args below meth c s₁ B hml hv
  obtain ⟨rfl, hP, hK, hNS⟩ := hv
  have hx := B.exec
  have hb := B.bytes
  have hr := B.returns
  have hts : ∀ w ∈ tblG, w.before _ s = true := fun w h => atoms_spec (ws := wM yX0_bitsFrom cX0_bitsFrom 5 (some .int)) B.pre w (List.mem_cons_of_mem _ h)
  have hown : s.vm.findClass RX0 = some m.cls := findClass_of_methodNamed B.named
  have hlocks := B.notSynchronized
  have hl := lv_entry ([.ref h0, .int x, .int y]) (n := 5) (Nat.le_of_ble_eq_true rfl)
  rw [lg_entry_eq]
  generalize (lg_sl ([.ref h0, .int x, .int y]) ++ List.replicate (5 - (lg_sl ([.ref h0, .int x, .int y])).length) Slot.unset).toArray = ls at hl ⊢
  have hl : lv_has ls 5 [(0, .ref h0), (1, .int x), (2, .int y)] := hl
  refine lv_iload_n hx hb dX0_bitsFrom_0 rfl (lv_at hl 1 rfl) ?_
  refine lv_bipush (v := (16)) hx hb dX0_bitsFrom_1 (by decide) ?_
  have hk_16 : (16 : Int32).toInt = (16 : Int) := by decide
  refine vp_callSi (va_Run.run (va_runS (As := [.int x, .int (16 : Int32)]) (rest := []) ⟨hx, hb, hml, hown, hts⟩ (mJ9_floorDiv l x) (va_cwS 2 hts (gA (m3 k248 k249 k5) k250) rfl rfl rfl (by decide +kernel) ⟨Nat.le_of_ble_eq_true rfl, Nat.le_of_ble_eq_true rfl⟩) (prT) rfl rfl hl.1 rfl (lv_room (Nat.le_of_ble_eq_true rfl)) dX0_bitsFrom_3 ⟨Nat.le_of_ble_eq_true rfl, Nat.le_of_ble_eq_true rfl⟩)) (fun r1 hwr1 => ?_)
  try dsimp only at hwr1
  refine lv_istore_n (lv' := [(3, .int r1), (0, .ref h0), (1, .int x), (2, .int y)]) hx hb dX0_bitsFrom_6 rfl hl (by decide) rfl (fun ls hl => ?_)
  refine lv_aload_n hx hb dX0_bitsFrom_7 rfl (lv_at hl 1 rfl) ?_
  refine lv_iload_n hx hb dX0_bitsFrom_8 rfl (lv_at hl 0 rfl) ?_
  refine lv_iload_n hx hb dX0_bitsFrom_9 rfl (lv_at hl 3 rfl) ?_
  refine vp_callSi (va_Run.run (va_runV (As := [.int r1, .int y]) (rest := []) ⟨hx, hb, hml, hown, hts⟩ (mX0_wordInRow l r1 y he ha e1 e2 e3 b2 b3 hn ) (cwV 2 hts (gA (m4 k251 k253 ksel5 k2) k254) rfl rfl rfl (by decide +kernel) ⟨Nat.le_of_ble_eq_true rfl, Nat.le_of_ble_eq_true rfl⟩) (prRV hP hK hNS rfl he) rfl rfl hl.1 rfl (lv_room (Nat.le_of_ble_eq_true rfl)) dX0_bitsFrom_10 ⟨Nat.le_of_ble_eq_true rfl, Nat.le_of_ble_eq_true rfl⟩)) (fun r2 hwr2 => ?_)
  try dsimp only at hwr2
  refine lv_bipush (v := (16)) hx hb dX0_bitsFrom_13 (by decide) ?_
  refine lv_ishl hx hb dX0_bitsFrom_15 ?_
  refine lv_topi (fun x3 ex3 => ?_)
  refine lv_aload_n hx hb dX0_bitsFrom_16 rfl (lv_at hl 1 rfl) ?_
  refine lv_iload_n hx hb dX0_bitsFrom_17 rfl (lv_at hl 0 rfl) ?_
  refine lv_iconst (v := 1) hx hb dX0_bitsFrom_18 (by decide) ?_
  refine lv_iadd hx hb dX0_bitsFrom_19 ?_
  refine lv_topi (fun x4 ex4 => ?_)
  have hx4 : x4.toInt = r1.toInt + (1 : Int) := by rw [ex4]; exact ti_add rfl (by decide : (1 : Int32).toInt = (1 : Int)) (by omega) (by omega)
  refine lv_iload_n hx hb dX0_bitsFrom_20 rfl (lv_at hl 3 rfl) ?_
  refine vp_callSi (va_Run.run (va_runV (As := [.int x4, .int y]) (rest := [.int x3]) ⟨hx, hb, hml, hown, hts⟩ (mX0_wordInRow l x4 y he ha e1 e2 e3 b2 b3 hn ) (cwV 2 hts (gA (m4 k251 k253 ksel5 k2) k254) rfl rfl rfl (by decide +kernel) ⟨Nat.le_of_ble_eq_true rfl, Nat.le_of_ble_eq_true rfl⟩) (prRV hP hK hNS rfl he) rfl rfl hl.1 rfl (lv_room (Nat.le_of_ble_eq_true rfl)) dX0_bitsFrom_21 ⟨Nat.le_of_ble_eq_true rfl, Nat.le_of_ble_eq_true rfl⟩)) (fun r5 hwr5 => ?_)
  try dsimp only at hwr5
  refine lv_ior hx hb dX0_bitsFrom_24 ?_
  refine lv_topi (fun x6 ex6 => ?_)
  refine lv_istore (lv' := [(4, .int x6), (3, .int r1), (0, .ref h0), (1, .int x), (2, .int y)]) hx hb dX0_bitsFrom_25 hl (by decide) rfl (fun ls hl => ?_)
  refine lv_iload hx hb dX0_bitsFrom_27 (lv_at hl 0 rfl) ?_
  refine lv_bipush (v := (16)) hx hb dX0_bitsFrom_29 (by decide) ?_
  refine lv_iload_n hx hb dX0_bitsFrom_31 rfl (lv_at hl 3 rfl) ?_
  refine lv_bipush (v := (16)) hx hb dX0_bitsFrom_32 (by decide) ?_
  have hk_16 : (16 : Int32).toInt = (16 : Int) := by decide
  refine vp_callSi (va_Run.run (va_runS (As := [.int x, .int (16 : Int32)]) (rest := [.int (16 : Int32), .int x6]) ⟨hx, hb, hml, hown, hts⟩ (mJ9_floorMod l x) (va_cwS 2 hts (gA (m3 k255 k256 k5) k257) rfl rfl rfl (by decide +kernel) ⟨Nat.le_of_ble_eq_true rfl, Nat.le_of_ble_eq_true rfl⟩) (prT) rfl rfl hl.1 rfl (lv_room (Nat.le_of_ble_eq_true rfl)) dX0_bitsFrom_34 ⟨Nat.le_of_ble_eq_true rfl, Nat.le_of_ble_eq_true rfl⟩)) (fun r7 hwr7 => ?_)
  try dsimp only at hwr7
  refine lv_isub hx hb dX0_bitsFrom_37 ?_
  refine lv_topi (fun x8 ex8 => ?_)
  have hx8 : x8.toInt = (16 : Int) - r7.toInt := by rw [ex8]; exact ti_sub (by decide : (16 : Int32).toInt = (16 : Int)) rfl (by omega) (by omega)
  refine lv_iushr hx hb dX0_bitsFrom_38 rfl ?_
  refine lv_topi (fun x9 ex9 => ?_)
  refine lv_ldc (own := RX0) (v := (65535)) hx hb hown (hts _ k258) dX0_bitsFrom_39 ?_
  refine lv_iand hx hb dX0_bitsFrom_41 ?_
  refine lv_topi (fun x10 ex10 => ?_)
  exact W.iret (v := x10) hx hb hr (fun t9 ht9 _ => ⟨x10, rfl, bf_post hg (m := r7.toInt.toNat) (by omega) (by omega) (by omega) hwr2 hwr5 (by rw [ex6, ex3]) (by omega) ex9 ex10, ht9⟩) (fun _ h => absurd h List.not_mem_nil) dX0_bitsFrom_42
set_option maxHeartbeats 8000000 in
set_option maxRecDepth 100000 in
theorem mX0_ones (l : Launch) {dC : Nat → ClassId} {dI : Nat → Nat → Nat} {ws : va_W} {h0 k a : Nat} {w h rw : Int32} {cI cF : ClassId} {ka n : Nat} {g : Nat → Int32} (he : ws[k]? = some (h0, .inr (0, [.int w, .int h, .int rw, .ref a])))(ha : ws[ka]? = some (a, .inl (cI, n, .inl g))) {wN hN rN : Nat} (e1 : w.toInt = (wN : Int)) (e2 : h.toInt = (hN : Int)) (e3 : rw.toInt = (rN : Int)) (b2 : hN ≤ 4000) (b3 : rN ≤ 4000) (hn : rN * hN ≤ n) (h4 : n ≤ 4000) (hg : ∀ i j, 16 ≤ j → bt (g i) j = false) : Met l yX0_ones (wM yX0_ones cX0_ones 3 (some .int)) ({ frames := 1, cells := 0, slots := 0, locals := 20 }) (va_Pc [.ref h0] (rP (dC, dI) vwCl (tyB cI cF) ws)) (vp_Si (fun r => r.toInt = ((sN (fun i => pcw (g i)) (rN * hN) : Nat) : Int))) 0 0 (fun _ => False) := by
  refine Met.ofW (cc := cX0_ones) (maxL := 3) (ret := (some .int)) (by decide +kernel) rfl ?_
  intro p e s m args below meth c s₁ B hml hv
  obtain ⟨rfl, hP, hK, hNS⟩ := hv
  have hx := B.exec
  have hb := B.bytes
  have hr := B.returns
  have hts : ∀ w ∈ tblG, w.before _ s = true := fun w h => atoms_spec (ws := wM yX0_ones cX0_ones 3 (some .int)) B.pre w (List.mem_cons_of_mem _ h)
  have hown : s.vm.findClass RX0 = some m.cls := findClass_of_methodNamed B.named
  have hlocks := B.notSynchronized
  have hl := lv_entry ([.ref h0]) (n := 3) (Nat.le_of_ble_eq_true rfl)
  rw [lg_entry_eq]
  generalize (lg_sl ([.ref h0]) ++ List.replicate (3 - (lg_sl ([.ref h0])).length) Slot.unset).toArray = ls at hl ⊢
  have hl : lv_has ls 3 [(0, .ref h0)] := hl
  refine lv_iconst (v := 0) hx hb dX0_ones_0 (by decide) ?_
  refine lv_istore_n (lv' := [(1, .int (0 : Int32)), (0, .ref h0)]) hx hb dX0_ones_1 rfl hl (by decide) rfl (fun ls hl => ?_)
  refine lv_iconst (v := 0) hx hb dX0_ones_2 (by decide) ?_
  refine lv_istore_n (lv' := [(2, .int (0 : Int32)), (1, .int (0 : Int32)), (0, .ref h0)]) hx hb dX0_ones_3 rfl hl (by decide) rfl (fun ls hl => ?_)
  have hmb := mul_bd (a := rw.toInt) (b := h.toInt) (A := 4000) (B := 4000) (by omega) (by omega) (by omega) (by omega)
  have hN4 : ((rN * hN : Nat) : Int) = rw.toInt * h.toInt := by rw [Int.natCast_mul, e2, e3]
  refine lpW (σ := Array Slot × Int32 × Int32 × Nat) (fun u => match u with | (ls, s0, i0, n0) => lv_has ls 3 [(0, .ref h0), (1, .int s0), (2, .int i0)] ∧ (i0.toInt = (n0 : Int)) ∧ (n0 ≤ rN * hN) ∧ (s0.toInt = ((sN (fun i => pcw (g i)) n0 : Nat) : Int))) (fun u => match u with | (ls, s0, i0, n0) => rN * hN - n0) (fun _ => s.heap) (fun _ => []) (fun u => F0 m 4 u.1 []) (fun u hu ih4 => ?_) (ls, 0, 0, 0) ⟨lv_sub hl [2, 1, 0] rfl, rfl, Nat.zero_le _, rfl⟩
  obtain ⟨ls, s0, i0, n0⟩ := u
  obtain ⟨hl, hi0, hn0, hs0⟩ := hu
  dsimp only
  refine lv_iload_n hx hb dX0_ones_4 rfl (lv_at hl 2 rfl) ?_
  refine lv_aload_n hx hb dX0_ones_5 rfl (lv_at hl 0 rfl) ?_
  refine vp_callSi (va_Run.run (va_runV (As := []) (rest := [.int i0]) ⟨hx, hb, hml, hown, hts⟩ (mX0_wordCount l  he (by omega) (by omega)) (cwV 0 hts (gA (m4 k121 k122 k123 k2) k124) rfl rfl rfl (by decide +kernel) ⟨Nat.le_of_ble_eq_true rfl, Nat.le_of_ble_eq_true rfl⟩) (prRV hP hK hNS rfl he) rfl rfl hl.1 rfl (lv_room (Nat.le_of_ble_eq_true rfl)) dX0_ones_6 ⟨Nat.le_of_ble_eq_true rfl, Nat.le_of_ble_eq_true rfl⟩)) (fun r1 hwr1 => ?_)
  try dsimp only at hwr1
  refine lv_icmp_ge (tgt := 30) hx hb dX0_ones_9 (by decide) (fun c2 => ?_) (fun c2 => ?_)
  · replace c2 := (ti_le rfl rfl).mp c2
    refine lv_iload_n hx hb dX0_ones_30 rfl (lv_at hl 1 rfl) ?_
    exact W.iret (v := s0) hx hb hr (fun t9 ht9 _ => ⟨s0, rfl, by rw [show rN * hN = n0 by omega]; exact hs0, ht9⟩) (fun _ h => absurd h List.not_mem_nil) dX0_ones_31
  · replace c2 := mt (ti_le rfl rfl).mpr c2
    refine lv_iload_n hx hb dX0_ones_12 rfl (lv_at hl 1 rfl) ?_
    refine lv_aload_n hx hb dX0_ones_13 rfl (lv_at hl 0 rfl) ?_
    refine va_get (D := (dC, dI)) (ci := 0) (v := .ref a) (C := RX0) (T := TX0) (N := 4) hx hb hts inX0 hown hK hP k he rfl 3 (by decide) (hts _ k29) (fun _ h9 => h9) rfl dX0_ones_14 ?_
    refine lv_iload_n hx hb dX0_ones_17 rfl (lv_at hl 2 rfl) ?_
    have hbn : sN (fun i => pcw (g i)) n0 ≤ n0 * 16 := sN_le (fun i => pcw_le (g i)) n0
    refine iaK hx hb hK hP ka 0 ha rfl (n0) (hi0) (by omega) dX0_ones_18 ?_
    refine lv_topi (fun x3 ex3 => ?_)
    refine vp_callSi (va_Run.run (va_runS (As := [.int x3]) (rest := [.int s0]) ⟨hx, hb, hml, hown, hts⟩ (mJ6_bitCount l x3 (fun j hj => by rw [ex3]; exact hg _ j hj)) (va_cwS 1 hts (gA (m3 k159 k160 k7) k161) rfl rfl rfl (by decide +kernel) ⟨Nat.le_of_ble_eq_true rfl, Nat.le_of_ble_eq_true rfl⟩) (prT) rfl rfl hl.1 rfl (lv_room (Nat.le_of_ble_eq_true rfl)) dX0_ones_19 ⟨Nat.le_of_ble_eq_true rfl, Nat.le_of_ble_eq_true rfl⟩)) (fun r4 hwr4 => ?_)
    have hplr4 := pcw_le x3
    refine lv_iadd hx hb dX0_ones_22 ?_
    refine lv_topi (fun x5 ex5 => ?_)
    have hx5 : x5.toInt = s0.toInt + r4.toInt := by rw [ex5]; exact ti_add rfl rfl (by omega) (by omega)
    refine lv_istore_n (lv' := [(1, .int x5), (0, .ref h0), (2, .int i0)]) hx hb dX0_ones_23 rfl hl (by decide) rfl (fun ls hl => ?_)
    obtain ⟨x6, ex6⟩ : ∃ y : Int32, y = i0 + 1 := ⟨_, rfl⟩
    have hx6 : x6.toInt = i0.toInt + 1 := by rw [ex6]; exact ti_add rfl (by decide) (by omega) (by omega)
    refine lv_iinc (v := x6) (lv' := [(2, .int x6), (1, .int x5), (0, .ref h0)]) hx hb dX0_ones_24 hl (k := 2) rfl (by rw [ex6]; rfl) (by decide) rfl (fun ls hl => ?_)
    refine lv_goto (tgt := 4) hx hb dX0_ones_27 (by decide) ?_
    have hs1 : sN (fun i => pcw (g i)) (n0 + 1) = sN (fun i => pcw (g i)) n0 + pcw (g n0) := rfl
    have hs2 : pcw x3 = pcw (g n0) := by rw [ex3]
    exact ih4 (ls, x5, x6, n0 + 1) ⟨lv_sub hl [2, 1, 0] rfl, by omega, by omega, by omega⟩ (by dsimp only; omega)
set_option maxHeartbeats 8000000 in
set_option maxRecDepth 100000 in
theorem mX0_looksLike (l : Launch) {dC : Nat → ClassId} {dI : Nat → Nat → Nat} {ws : va_W} {h0 k a : Nat} {w h rw : Int32} {cI cF : ClassId} {ka n : Nat} {g : Nat → Int32} {h1 k1 a1 ka1 n1 : Nat} {w1 g1 rw1 : Int32} {f1 : Nat → Int32} (he : ws[k]? = some (h0, .inr (0, [.int w, .int h, .int rw, .ref a])))(ha : ws[ka]? = some (a, .inl (cI, n, .inl g))) (he1 : ws[k1]? = some (h1, .inr (0, [.int w1, .int g1, .int rw1, .ref a1]))) (ha1 : ws[ka1]? = some (a1, .inl (cI, n1, .inl f1))) {wN hN rN : Nat} (e1 : w.toInt = (wN : Int)) (e2 : h.toInt = (hN : Int)) (e3 : rw.toInt = (rN : Int)) (b2 : hN ≤ 4000) (b3 : rN ≤ 4000) (hn : rN * hN ≤ n) (h4 : n ≤ 4000) {w1N h1N : Nat} (e4 : w1.toInt = (w1N : Int)) (e5 : g1.toInt = (h1N : Int)) (hrr : wN = w1N → hN = h1N → rN * hN ≤ n1) : Met l yX0_looksLike (wM yX0_looksLike cX0_looksLike 3 (some .boolean)) ({ frames := 1, cells := 0, slots := 0, locals := 20 }) (va_Pc [.ref h0, .ref h1] (rP (dC, dI) vwCl (tyB cI cF) ws)) (vp_Si (fun r => (r.toInt = 1 ∧ wN = w1N ∧ hN = h1N ∧ ∀ i, i < rN * hN → g i = f1 i) ∨ (r.toInt = 0 ∧ ¬ (wN = w1N ∧ hN = h1N ∧ ∀ i, i < rN * hN → g i = f1 i)))) 0 0 (fun _ => False) := by
  refine Met.ofW (cc := cX0_looksLike) (maxL := 3) (ret := (some .boolean)) (by decide +kernel) rfl ?_
  intro p e s m args below meth c s₁ B hml hv
  obtain ⟨rfl, hP, hK, hNS⟩ := hv
  have hx := B.exec
  have hb := B.bytes
  have hr := B.returns
  have hts : ∀ w ∈ tblG, w.before _ s = true := fun w h => atoms_spec (ws := wM yX0_looksLike cX0_looksLike 3 (some .boolean)) B.pre w (List.mem_cons_of_mem _ h)
  have hown : s.vm.findClass RX0 = some m.cls := findClass_of_methodNamed B.named
  have hlocks := B.notSynchronized
  have hl := lv_entry ([.ref h0, .ref h1]) (n := 3) (Nat.le_of_ble_eq_true rfl)
  rw [lg_entry_eq]
  generalize (lg_sl ([.ref h0, .ref h1]) ++ List.replicate (3 - (lg_sl ([.ref h0, .ref h1])).length) Slot.unset).toArray = ls at hl ⊢
  have hl : lv_has ls 3 [(0, .ref h0), (1, .ref h1)] := hl
  refine lv_aload_n hx hb dX0_looksLike_0 rfl (lv_at hl 0 rfl) ?_
  refine va_get (D := (dC, dI)) (ci := 0) (v := .int w) (C := RX0) (T := TX0) (N := 4) hx hb hts inX0 hown hK hP k he rfl 0 (by decide) (hts _ k23) (fun _ h9 => h9) rfl dX0_looksLike_1 ?_
  refine lv_aload_n hx hb dX0_looksLike_4 rfl (lv_at hl 1 rfl) ?_
  refine va_get (D := (dC, dI)) (ci := 0) (v := .int w1) (C := RX0) (T := TX0) (N := 4) hx hb hts inX0 hown hK hP k1 he1 rfl 0 (by decide) (hts _ k23) (fun _ h9 => h9) rfl dX0_looksLike_5 ?_
  refine lv_icmp_ne (tgt := 22) hx hb dX0_looksLike_8 (by decide) (fun c1 => ?_) (fun c1 => ?_)
  · replace c1 := mt (ti_eq rfl rfl).mpr c1
    refine lv_iconst (v := 0) hx hb dX0_looksLike_22 (by decide) ?_
    refine lv_topi (fun r2 er2 => ?_)
    have hr2 : r2.toInt = (0 : Int) := by rw [er2]; exact (by decide : (0 : Int32).toInt = (0 : Int))
    exact W.zret (ty := .boolean) (v := r2) hx hb hr (nar_b (by omega)) (fun t9 ht9 _ => ⟨r2, rfl, Or.inr ⟨by omega, fun q => by omega⟩, ht9⟩) (fun _ h => absurd h List.not_mem_nil) dX0_looksLike_23
  · replace c1 := (ti_eq rfl rfl).mp c1
    refine lv_aload_n hx hb dX0_looksLike_11 rfl (lv_at hl 0 rfl) ?_
    refine va_get (D := (dC, dI)) (ci := 0) (v := .int h) (C := RX0) (T := TX0) (N := 4) hx hb hts inX0 hown hK hP k he rfl 1 (by decide) (hts _ k25) (fun _ h9 => h9) rfl dX0_looksLike_12 ?_
    refine lv_aload_n hx hb dX0_looksLike_15 rfl (lv_at hl 1 rfl) ?_
    refine va_get (D := (dC, dI)) (ci := 0) (v := .int g1) (C := RX0) (T := TX0) (N := 4) hx hb hts inX0 hown hK hP k1 he1 rfl 1 (by decide) (hts _ k25) (fun _ h9 => h9) rfl dX0_looksLike_16 ?_
    refine lv_icmp_eq (tgt := 24) hx hb dX0_looksLike_19 (by decide) (fun c3 => ?_) (fun c3 => ?_)
    · replace c3 := (ti_eq rfl rfl).mp c3
      refine lv_iconst (v := 0) hx hb dX0_looksLike_24 (by decide) ?_
      refine lv_istore_n (lv' := [(2, .int (0 : Int32)), (0, .ref h0), (1, .ref h1)]) hx hb dX0_looksLike_25 rfl hl (by decide) rfl (fun ls hl => ?_)
      have hmb := mul_bd (a := rw.toInt) (b := h.toInt) (A := 4000) (B := 4000) (by omega) (by omega) (by omega) (by omega)
      have hN4 : ((rN * hN : Nat) : Int) = rw.toInt * h.toInt := by rw [Int.natCast_mul, e2, e3]
      refine lpW (σ := Array Slot × Int32 × Nat) (fun u => match u with | (ls, i0, n0) => lv_has ls 3 [(0, .ref h0), (1, .ref h1), (2, .int i0)] ∧ (i0.toInt = (n0 : Int)) ∧ (n0 ≤ rN * hN) ∧ (∀ j, j < n0 → g j = f1 j)) (fun u => match u with | (ls, i0, n0) => rN * hN - n0) (fun _ => s.heap) (fun _ => []) (fun u => F0 m 26 u.1 []) (fun u hu ih26 => ?_) (ls, 0, 0) ⟨lv_sub hl [1, 2, 0] rfl, rfl, Nat.zero_le _, fun j hj => absurd hj (Nat.not_lt_zero j)⟩
      obtain ⟨ls, i0, n0⟩ := u
      obtain ⟨hl, hi0, hn0, hs0⟩ := hu
      dsimp only
      refine lv_iload_n hx hb dX0_looksLike_26 rfl (lv_at hl 2 rfl) ?_
      refine lv_aload_n hx hb dX0_looksLike_27 rfl (lv_at hl 0 rfl) ?_
      refine vp_callSi (va_Run.run (va_runV (As := []) (rest := [.int i0]) ⟨hx, hb, hml, hown, hts⟩ (mX0_wordCount l  he (by omega) (by omega)) (cwV 0 hts (gA (m4 k121 k122 k123 k2) k124) rfl rfl rfl (by decide +kernel) ⟨Nat.le_of_ble_eq_true rfl, Nat.le_of_ble_eq_true rfl⟩) (prRV hP hK hNS rfl he) rfl rfl hl.1 rfl (lv_room (Nat.le_of_ble_eq_true rfl)) dX0_looksLike_28 ⟨Nat.le_of_ble_eq_true rfl, Nat.le_of_ble_eq_true rfl⟩)) (fun r4 hwr4 => ?_)
      try dsimp only at hwr4
      refine lv_icmp_ge (tgt := 57) hx hb dX0_looksLike_31 (by decide) (fun c5 => ?_) (fun c5 => ?_)
      · replace c5 := (ti_le rfl rfl).mp c5
        refine lv_iconst (v := 1) hx hb dX0_looksLike_57 (by decide) ?_
        refine lv_topi (fun r6 er6 => ?_)
        have hr6 : r6.toInt = (1 : Int) := by rw [er6]; exact (by decide : (1 : Int32).toInt = (1 : Int))
        exact W.zret (ty := .boolean) (v := r6) hx hb hr (nar_b (by omega)) (fun t9 ht9 _ => ⟨r6, rfl, Or.inl ⟨by omega, by omega, by omega, fun j hj => hs0 j (by omega)⟩, ht9⟩) (fun _ h => absurd h List.not_mem_nil) dX0_looksLike_58
      · replace c5 := mt (ti_le rfl rfl).mpr c5
        refine lv_aload_n hx hb dX0_looksLike_34 rfl (lv_at hl 0 rfl) ?_
        refine va_get (D := (dC, dI)) (ci := 0) (v := .ref a) (C := RX0) (T := TX0) (N := 4) hx hb hts inX0 hown hK hP k he rfl 3 (by decide) (hts _ k29) (fun _ h9 => h9) rfl dX0_looksLike_35 ?_
        refine lv_iload_n hx hb dX0_looksLike_38 rfl (lv_at hl 2 rfl) ?_
        have hbb := hrr (by omega) (by omega)
        refine iaK hx hb hK hP ka 0 ha rfl (n0) (hi0) (by omega) dX0_looksLike_39 ?_
        refine lv_topi (fun x7 ex7 => ?_)
        refine lv_aload_n hx hb dX0_looksLike_40 rfl (lv_at hl 1 rfl) ?_
        refine va_get (D := (dC, dI)) (ci := 0) (v := .ref a1) (C := RX0) (T := TX0) (N := 4) hx hb hts inX0 hown hK hP k1 he1 rfl 3 (by decide) (hts _ k29) (fun _ h9 => h9) rfl dX0_looksLike_41 ?_
        refine lv_iload_n hx hb dX0_looksLike_44 rfl (lv_at hl 2 rfl) ?_
        refine iaK hx hb hK hP ka1 0 ha1 rfl (n0) (hi0) (by omega) dX0_looksLike_45 ?_
        refine lv_topi (fun x8 ex8 => ?_)
        refine lv_icmp_eq (tgt := 51) hx hb dX0_looksLike_46 (by decide) (fun c9 => ?_) (fun c9 => ?_)
        · replace c9 := (ti_eq rfl rfl).mp c9
          obtain ⟨x10, ex10⟩ : ∃ y : Int32, y = i0 + 1 := ⟨_, rfl⟩
          have hx10 : x10.toInt = i0.toInt + 1 := by rw [ex10]; exact ti_add rfl (by decide) (by omega) (by omega)
          refine lv_iinc (v := x10) (lv' := [(2, .int x10), (0, .ref h0), (1, .ref h1)]) hx hb dX0_looksLike_51 hl (k := 2) rfl (by rw [ex10]; rfl) (by decide) rfl (fun ls hl => ?_)
          refine lv_goto (tgt := 26) hx hb dX0_looksLike_54 (by decide) ?_
          have heq : g n0 = f1 n0 := by rw [← ex7, ← ex8]; exact (ti_eq rfl rfl).mpr (by omega)
          exact ih26 (ls, x10, n0 + 1) ⟨lv_sub hl [1, 2, 0] rfl, by omega, by omega, lt_s hs0 heq⟩ (by dsimp only; omega)
        · replace c9 := mt (ti_eq rfl rfl).mpr c9
          refine lv_iconst (v := 0) hx hb dX0_looksLike_49 (by decide) ?_
          refine lv_topi (fun r11 er11 => ?_)
          have hr11 : r11.toInt = (0 : Int) := by rw [er11]; exact (by decide : (0 : Int32).toInt = (0 : Int))
          exact W.zret (ty := .boolean) (v := r11) hx hb hr (nar_b (by omega)) (fun t9 ht9 _ => ⟨r11, rfl, Or.inr ⟨by omega, fun q => by have q2 := q.2.2 n0 (by omega); rw [← ex7, ← ex8] at q2; have q3 := (ti_eq rfl rfl).mp q2; omega⟩, ht9⟩) (fun _ h => absurd h List.not_mem_nil) dX0_looksLike_50
    · replace c3 := mt (ti_eq rfl rfl).mpr c3
      refine lv_iconst (v := 0) hx hb dX0_looksLike_22 (by decide) ?_
      refine lv_topi (fun r12 er12 => ?_)
      have hr12 : r12.toInt = (0 : Int) := by rw [er12]; exact (by decide : (0 : Int32).toInt = (0 : Int))
      exact W.zret (ty := .boolean) (v := r12) hx hb hr (nar_b (by omega)) (fun t9 ht9 _ => ⟨r12, rfl, Or.inr ⟨by omega, fun q => by omega⟩, ht9⟩) (fun _ h => absurd h List.not_mem_nil) dX0_looksLike_23
