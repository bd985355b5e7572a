set_option maxHeartbeats 8000000 in
set_option maxRecDepth 100000 in
theorem mX2_word (l : Launch) {dC : Nat → ClassId} {dI : Nat → Nat → Nat} {h0 qa qn qx qy : Nat} {cI cF : ClassId} {fa ar ln : Nat → Nat} {wd ht rw : Nat → Int32} {g : Nat → Nat → Int32} {nu : Nat → Int32} {X Y : Int32 × Int32 × Int32} {tg : Nat} {so pa : Option Nat} {ru : Int32} {wN hN : Nat → Nat} {Bt : Nat → Nat → Nat → Bool} {nz : Nat → Int} (f : Int32) (i : Int32) (hR : RC wN hN Bt nz tg so pa ru ln wd ht rw g nu) : Met l yX2_word (wM yX2_word cX2_word 3 (some .int)) ({ frames := 2, cells := 0, slots := 0, locals := 41 }) (va_Pc [.ref h0, .int f, .int i] (rP (dC, dI) vwCl (tyB cI cF) (w_bc h0 qa qn qx qy cI cF fa ar ln wd ht rw g nu X Y tg so pa ru))) (vp_Si (fun r => (r.toInt = -1 ∧ (f.toInt < 0 ∨ 4 ≤ f.toInt)) ∨ (∃ t : Nat, f.toInt = (t : Int) ∧ t < 4 ∧ ((r.toInt = -1 ∧ (i.toInt < 0 ∨ ((rN wN t * hN t : Nat) : Int) ≤ i.toInt)) ∨ (0 ≤ i.toInt ∧ i.toInt < ((rN wN t * hN t : Nat) : Int) ∧ r = g t i.toInt.toNat))))) 0 0 (fun _ => False) := by
  refine Met.ofW (cc := cX2_word) (maxL := 3) (ret := (some .int)) (by decide +kernel) rfl ?_
  intro p e s m args below meth c s₁ B hml hv
  obtain ⟨rfl, hP, hK, hNS⟩ := hv
  have hx := B.exec
  have hb := B.bytes
  have hr := B.returns
  have hts : ∀ w ∈ tblG, w.before _ s = true := fun w h => atoms_spec (ws := wM yX2_word cX2_word 3 (some .int)) B.pre w (List.mem_cons_of_mem _ h)
  have hown : s.vm.findClass RX2 = some m.cls := findClass_of_methodNamed B.named
  have hlocks := B.notSynchronized
  have hl := lv_entry ([.ref h0, .int f, .int i]) (n := 3) (Nat.le_of_ble_eq_true rfl)
  rw [lg_entry_eq]
  generalize (lg_sl ([.ref h0, .int f, .int i]) ++ List.replicate (3 - (lg_sl ([.ref h0, .int f, .int i])).length) Slot.unset).toArray = ls at hl ⊢
  have hl : lv_has ls 3 [(0, .ref h0), (1, .int f), (2, .int i)] := hl
  obtain ⟨hF, hnu, htg, hso, hpa, hr1, hr2⟩ := id hR
  refine lv_iload_n hx hb dX2_word_0 rfl (lv_at hl 1 rfl) ?_
  refine vp_callSi (va_Run.run (va_runS (As := [.int f]) (rest := []) ⟨hx, hb, hml, hown, hts⟩ (mX2_isForm l f) (va_cwS 1 hts (gA (m3 k96 k97 k1) k98) rfl rfl rfl (by decide +kernel) ⟨Nat.le_of_ble_eq_true rfl, Nat.le_of_ble_eq_true rfl⟩) (prT) rfl rfl hl.1 rfl (lv_room (Nat.le_of_ble_eq_true rfl)) dX2_word_1 ⟨Nat.le_of_ble_eq_true rfl, Nat.le_of_ble_eq_true rfl⟩)) (fun r1 hwr1 => ?_)
  try dsimp only at hwr1
  refine lv_if_eq (tgt := 20) hx hb dX2_word_4 (by decide) (fun c2 => ?_) (fun c2 => ?_)
  · replace c2 := (ti_eq rfl (by decide : (0 : Int32).toInt = (0 : Int))).mp c2
    refine lv_iconst (v := (-1)) hx hb dX2_word_20 (by decide) ?_
    refine lv_topi (fun r3 er3 => ?_)
    have hr3 : r3.toInt = (-1 : Int) := by rw [er3]; exact (by decide : (-1 : Int32).toInt = (-1 : Int))
    exact W.iret (v := r3) hx hb hr (fun t9 ht9 _ => ⟨r3, rfl, Or.inl ⟨by omega, by omega⟩, ht9⟩) (fun _ h => absurd h List.not_mem_nil) dX2_word_21
  · replace c2 := mt (ti_eq rfl (by decide : (0 : Int32).toInt = (0 : Int))).mpr c2
    refine lv_aload_n hx hb dX2_word_7 rfl (lv_at hl 0 rfl) ?_
    refine va_get (D := (dC, dI)) (ci := 2) (v := .ref qa) (C := RX2) (T := TX2) (N := 8) hx hb hts inX2 hown hK hP 0 rfl rfl 0 (by decide) (hts _ k60) (fun _ h9 => h9) rfl dX2_word_8 ?_
    refine lv_iload_n hx hb dX2_word_11 rfl (lv_at hl 1 rfl) ?_
    obtain ⟨t, et⟩ : ∃ t : Nat, f.toInt = (t : Int) := ⟨f.toInt.toNat, by omega⟩
    have h4t : t < 4 := by omega
    obtain ⟨fw_t, fh_t, fr_t, f1_t, f2_t, f3_t, f4_t, f5_t, f6_t, f7_t, fB_t⟩ := hF t h4t
    have frd_t : rN wN t = (wN t + 15) / 16 := rfl
    have hm_t : ((rN wN t * hN t : Nat) : Int) = (rw t).toInt * (ht t).toInt := by rw [Int.natCast_mul, fr_t, fh_t]
    refine aaK (v := .ref (fa t)) hx hb hK hP 1 1 rfl rfl (t) (et) (by omega) rfl dX2_word_12 ?_
    refine lv_iload_n hx hb dX2_word_13 rfl (lv_at hl 2 rfl) ?_
    refine vp_callSi (va_Run.run (va_runV (As := [.int i]) (rest := []) ⟨hx, hb, hml, hown, hts⟩ (mX0_hasWord l i (wb_o h4t) (by omega) (by omega)) (cwV 1 hts (gA (m4 k117 k118 k119 k2) k120) rfl rfl rfl (by decide +kernel) ⟨Nat.le_of_ble_eq_true rfl, Nat.le_of_ble_eq_true rfl⟩) (prRV hP hK hNS rfl (wb_o h4t)) rfl rfl hl.1 rfl (lv_room (Nat.le_of_ble_eq_true rfl)) dX2_word_14 ⟨Nat.le_of_ble_eq_true rfl, Nat.le_of_ble_eq_true rfl⟩)) (fun r4 hwr4 => ?_)
    try dsimp only at hwr4
    refine lv_if_ne (tgt := 22) hx hb dX2_word_17 (by decide) (fun c5 => ?_) (fun c5 => ?_)
    · replace c5 := mt (ti_eq rfl (by decide : (0 : Int32).toInt = (0 : Int))).mpr c5
      refine lv_aload_n hx hb dX2_word_22 rfl (lv_at hl 0 rfl) ?_
      refine va_get (D := (dC, dI)) (ci := 2) (v := .ref qa) (C := RX2) (T := TX2) (N := 8) hx hb hts inX2 hown hK hP 0 rfl rfl 0 (by decide) (hts _ k60) (fun _ h9 => h9) rfl dX2_word_23 ?_
      refine lv_iload_n hx hb dX2_word_26 rfl (lv_at hl 1 rfl) ?_
      refine aaK (v := .ref (fa t)) hx hb hK hP 1 1 rfl rfl (t) (et) (by omega) rfl dX2_word_27 ?_
      refine va_getN (D := (dC, dI)) (ci := 0) (v := .ref (ar t)) (C := RX0) (T := TX0) (N := 4) hx hb hts inX0 hown hK hP (5 + t) (wb_o h4t) rfl 3 (by decide) (va_Nw.use rfl (hNS.2.2.2.1)) (fun _ h9 => h9) rfl dX2_word_28 ?_
      refine lv_iload_n hx hb dX2_word_31 rfl (lv_at hl 2 rfl) ?_
      refine iaK hx hb hK hP (9 + t) 0 (wb_a h4t) rfl (i.toInt.toNat) (by omega) (by omega) dX2_word_32 ?_
      refine lv_topi (fun x6 ex6 => ?_)
      exact W.iret (v := x6) hx hb hr (fun t9 ht9 _ => ⟨x6, rfl, Or.inr ⟨t, et, h4t, Or.inr ⟨by omega, by omega, ex6⟩⟩, ht9⟩) (fun _ h => absurd h List.not_mem_nil) dX2_word_33
    · replace c5 := (ti_eq rfl (by decide : (0 : Int32).toInt = (0 : Int))).mp c5
      refine lv_iconst (v := (-1)) hx hb dX2_word_20 (by decide) ?_
      refine lv_topi (fun r7 er7 => ?_)
      have hr7 : r7.toInt = (-1 : Int) := by rw [er7]; exact (by decide : (-1 : Int32).toInt = (-1 : Int))
      exact W.iret (v := r7) hx hb hr (fun t9 ht9 _ => ⟨r7, rfl, Or.inr ⟨t, et, h4t, Or.inl ⟨by omega, by omega⟩⟩, ht9⟩) (fun _ h => absurd h List.not_mem_nil) dX2_word_21
set_option maxHeartbeats 8000000 in
set_option maxRecDepth 100000 in
theorem mX2_bit (l : Launch) {dC : Nat → ClassId} {dI : Nat → Nat → Nat} {h0 qa qn qx qy : Nat} {cI cF : ClassId} {fa ar ln : Nat → Nat} {wd ht rw : Nat → Int32} {g : Nat → Nat → Int32} {nu : Nat → Int32} {X Y : Int32 × Int32 × Int32} {tg : Nat} {so pa : Option Nat} {ru : Int32} {wN hN : Nat → Nat} {Bt : Nat → Nat → Nat → Bool} {nz : Nat → Int} (f : Int32) (x : Int32) (y : Int32) (hR : RC wN hN Bt nz tg so pa ru ln wd ht rw g nu) : Met l yX2_bit (wM yX2_bit cX2_bit 4 (some .int)) ({ frames := 1, cells := 0, slots := 0, locals := 23 }) (va_Pc [.ref h0, .int f, .int x, .int y] (rP (dC, dI) vwCl (tyB cI cF) (w_bc h0 qa qn qx qy cI cF fa ar ln wd ht rw g nu X Y tg so pa ru))) (vp_Si (fun r => (r.toInt = -1 ∧ (f.toInt < 0 ∨ 4 ≤ f.toInt)) ∨ (∃ t : Nat, f.toInt = (t : Int) ∧ t < 4 ∧ ((r.toInt = -1 ∧ (x.toInt < 0 ∨ (wN t : Int) ≤ x.toInt ∨ y.toInt < 0 ∨ (hN t : Int) ≤ y.toInt)) ∨ (0 ≤ x.toInt ∧ x.toInt < wN t ∧ 0 ≤ y.toInt ∧ y.toInt < hN t ∧ r.toInt = (b1 (Bt t x.toInt.toNat y.toInt.toNat) : Int)))))) 0 0 (fun _ => False) := by
  refine Met.ofW (cc := cX2_bit) (maxL := 4) (ret := (some .int)) (by decide +kernel) rfl ?_
  intro p e s m args below meth c s₁ B hml hv
  obtain ⟨rfl, hP, hK, hNS⟩ := hv
  have hx := B.exec
  have hb := B.bytes
  have hr := B.returns
  have hts : ∀ w ∈ tblG, w.before _ s = true := fun w h => atoms_spec (ws := wM yX2_bit cX2_bit 4 (some .int)) B.pre w (List.mem_cons_of_mem _ h)
  have hown : s.vm.findClass RX2 = some m.cls := findClass_of_methodNamed B.named
  have hlocks := B.notSynchronized
  have hl := lv_entry ([.ref h0, .int f, .int x, .int y]) (n := 4) (Nat.le_of_ble_eq_true rfl)
  rw [lg_entry_eq]
  generalize (lg_sl ([.ref h0, .int f, .int x, .int y]) ++ List.replicate (4 - (lg_sl ([.ref h0, .int f, .int x, .int y])).length) Slot.unset).toArray = ls at hl ⊢
  have hl : lv_has ls 4 [(0, .ref h0), (1, .int f), (2, .int x), (3, .int y)] := hl
  obtain ⟨hF, hnu, htg, hso, hpa, hr1, hr2⟩ := id hR
  refine lv_iload_n hx hb dX2_bit_0 rfl (lv_at hl 1 rfl) ?_
  refine vp_callSi (va_Run.run (va_runS (As := [.int f]) (rest := []) ⟨hx, hb, hml, hown, hts⟩ (mX2_isForm l f) (va_cwS 1 hts (gA (m3 k96 k97 k1) k98) rfl rfl rfl (by decide +kernel) ⟨Nat.le_of_ble_eq_true rfl, Nat.le_of_ble_eq_true rfl⟩) (prT) rfl rfl hl.1 rfl (lv_room (Nat.le_of_ble_eq_true rfl)) dX2_bit_1 ⟨Nat.le_of_ble_eq_true rfl, Nat.le_of_ble_eq_true rfl⟩)) (fun r1 hwr1 => ?_)
  try dsimp only at hwr1
  refine lv_if_eq (tgt := 21) hx hb dX2_bit_4 (by decide) (fun c2 => ?_) (fun c2 => ?_)
  · replace c2 := (ti_eq rfl (by decide : (0 : Int32).toInt = (0 : Int))).mp c2
    refine lv_iconst (v := (-1)) hx hb dX2_bit_21 (by decide) ?_
    refine lv_topi (fun r3 er3 => ?_)
    have hr3 : r3.toInt = (-1 : Int) := by rw [er3]; exact (by decide : (-1 : Int32).toInt = (-1 : Int))
    exact W.iret (v := r3) hx hb hr (fun t9 ht9 _ => ⟨r3, rfl, Or.inl ⟨by omega, by omega⟩, ht9⟩) (fun _ h => absurd h List.not_mem_nil) dX2_bit_22
  · replace c2 := mt (ti_eq rfl (by decide : (0 : Int32).toInt = (0 : Int))).mpr c2
    refine lv_aload_n hx hb dX2_bit_7 rfl (lv_at hl 0 rfl) ?_
    refine va_get (D := (dC, dI)) (ci := 2) (v := .ref qa) (C := RX2) (T := TX2) (N := 8) hx hb hts inX2 hown hK hP 0 rfl rfl 0 (by decide) (hts _ k60) (fun _ h9 => h9) rfl dX2_bit_8 ?_
    refine lv_iload_n hx hb dX2_bit_11 rfl (lv_at hl 1 rfl) ?_
    obtain ⟨t, et⟩ : ∃ t : Nat, f.toInt = (t : Int) := ⟨f.toInt.toNat, by omega⟩
    have h4t : t < 4 := by omega
    obtain ⟨fw_t, fh_t, fr_t, f1_t, f2_t, f3_t, f4_t, f5_t, f6_t, f7_t, fB_t⟩ := hF t h4t
    have frd_t : rN wN t = (wN t + 15) / 16 := rfl
    have hm_t : ((rN wN t * hN t : Nat) : Int) = (rw t).toInt * (ht t).toInt := by rw [Int.natCast_mul, fr_t, fh_t]
    refine aaK (v := .ref (fa t)) hx hb hK hP 1 1 rfl rfl (t) (et) (by omega) rfl dX2_bit_12 ?_
    refine lv_iload_n hx hb dX2_bit_13 rfl (lv_at hl 2 rfl) ?_
    refine lv_iload_n hx hb dX2_bit_14 rfl (lv_at hl 3 rfl) ?_
    refine vp_callSi (va_Run.run (va_runV (As := [.int x, .int y]) (rest := []) ⟨hx, hb, hml, hown, hts⟩ (mX0_hasBit l x y (wb_o h4t)) (cwV 2 hts (gA (m4 k143 k144 k145 k2) k146) rfl rfl rfl (by decide +kernel) ⟨Nat.le_of_ble_eq_true rfl, Nat.le_of_ble_eq_true rfl⟩) (prRV hP hK hNS rfl (wb_o h4t)) rfl rfl hl.1 rfl (lv_room (Nat.le_of_ble_eq_true rfl)) dX2_bit_15 ⟨Nat.le_of_ble_eq_true rfl, Nat.le_of_ble_eq_true rfl⟩)) (fun r4 hwr4 => ?_)
    try dsimp only at hwr4
    refine lv_if_ne (tgt := 23) hx hb dX2_bit_18 (by decide) (fun c5 => ?_) (fun c5 => ?_)
    · replace c5 := mt (ti_eq rfl (by decide : (0 : Int32).toInt = (0 : Int))).mpr c5
      refine lv_aload_n hx hb dX2_bit_23 rfl (lv_at hl 0 rfl) ?_
      refine va_get (D := (dC, dI)) (ci := 2) (v := .ref qa) (C := RX2) (T := TX2) (N := 8) hx hb hts inX2 hown hK hP 0 rfl rfl 0 (by decide) (hts _ k60) (fun _ h9 => h9) rfl dX2_bit_24 ?_
      refine lv_iload_n hx hb dX2_bit_27 rfl (lv_at hl 1 rfl) ?_
      refine aaK (v := .ref (fa t)) hx hb hK hP 1 1 rfl rfl (t) (et) (by omega) rfl dX2_bit_28 ?_
      refine lv_iload_n hx hb dX2_bit_29 rfl (lv_at hl 2 rfl) ?_
      refine lv_iload_n hx hb dX2_bit_30 rfl (lv_at hl 3 rfl) ?_
      refine vp_callSi (va_Run.run (va_runV (As := [.int x, .int y]) (rest := []) ⟨hx, hb, hml, hown, hts⟩ (mX0_bitAt l x y (wb_o h4t) (wb_a h4t) fw_t fh_t fr_t f7_t (by omega) f3_t (by omega) (by omega) (by omega) (by omega)) (cwV 2 hts (gA (m4 k147 k148 k149 k2) k150) rfl rfl rfl (by decide +kernel) ⟨Nat.le_of_ble_eq_true rfl, Nat.le_of_ble_eq_true rfl⟩) (prRV hP hK hNS rfl (wb_o h4t)) rfl rfl hl.1 rfl (lv_room (Nat.le_of_ble_eq_true rfl)) dX2_bit_31 ⟨Nat.le_of_ble_eq_true rfl, Nat.le_of_ble_eq_true rfl⟩)) (fun r6 hwr6 => ?_)
      try dsimp only at hwr6
      exact W.iret (v := r6) hx hb hr (fun t9 ht9 _ => ⟨r6, rfl, Or.inr ⟨t, et, h4t, Or.inr ⟨by omega, by omega, by omega, by omega, by rw [hwr6, fB_t.2 _ _ (by omega) (by omega), decide_eq_true (by omega), Bool.true_and]⟩⟩, ht9⟩) (fun _ h => absurd h List.not_mem_nil) dX2_bit_34
    · replace c5 := (ti_eq rfl (by decide : (0 : Int32).toInt = (0 : Int))).mp c5
      refine lv_iconst (v := (-1)) hx hb dX2_bit_21 (by decide) ?_
      refine lv_topi (fun r7 er7 => ?_)
      have hr7 : r7.toInt = (-1 : Int) := by rw [er7]; exact (by decide : (-1 : Int32).toInt = (-1 : Int))
      exact W.iret (v := r7) hx hb hr (fun t9 ht9 _ => ⟨r7, rfl, Or.inr ⟨t, et, h4t, Or.inl ⟨by omega, by omega⟩⟩, ht9⟩) (fun _ h => absurd h List.not_mem_nil) dX2_bit_22
set_option maxHeartbeats 8000000 in
set_option maxRecDepth 100000 in
theorem mX2_count (l : Launch) {dC : Nat → ClassId} {dI : Nat → Nat → Nat} {h0 qa qn qx qy : Nat} {cI cF : ClassId} {fa ar ln : Nat → Nat} {wd ht rw : Nat → Int32} {g : Nat → Nat → Int32} {nu : Nat → Int32} {X Y : Int32 × Int32 × Int32} {tg : Nat} {so pa : Option Nat} {ru : Int32} {wN hN : Nat → Nat} {Bt : Nat → Nat → Nat → Bool} {nz : Nat → Int} (f : Int32) (hR : RC wN hN Bt nz tg so pa ru ln wd ht rw g nu) : Met l yX2_count (wM yX2_count cX2_count 2 (some .int)) ({ frames := 2, cells := 0, slots := 0, locals := 42 }) (va_Pc [.ref h0, .int f] (rP (dC, dI) vwCl (tyB cI cF) (w_bc h0 qa qn qx qy cI cF fa ar ln wd ht rw g nu X Y tg so pa ru))) (vp_Si (fun r => (r.toInt = -1 ∧ (f.toInt < 0 ∨ 4 ≤ f.toInt)) ∨ (∃ t : Nat, f.toInt = (t : Int) ∧ t < 4 ∧ r.toInt = ((sN (fun y => sN (fun x => b1 (Bt t x y)) (wN t)) (hN t) : Nat) : Int)))) 0 0 (fun _ => False) := by
  refine Met.ofW (cc := cX2_count) (maxL := 2) (ret := (some .int)) (by decide +kernel) rfl ?_
  intro p e s m args below meth c s₁ B hml hv
  obtain ⟨rfl, hP, hK, hNS⟩ := hv
  have hx := B.exec
  have hb := B.bytes
  have hr := B.returns
  have hts : ∀ w ∈ tblG, w.before _ s = true := fun w h => atoms_spec (ws := wM yX2_count cX2_count 2 (some .int)) B.pre w (List.mem_cons_of_mem _ h)
  have hown : s.vm.findClass RX2 = some m.cls := findClass_of_methodNamed B.named
  have hlocks := B.notSynchronized
  have hl := lv_entry ([.ref h0, .int f]) (n := 2) (Nat.le_of_ble_eq_true rfl)
  rw [lg_entry_eq]
  generalize (lg_sl ([.ref h0, .int f]) ++ List.replicate (2 - (lg_sl ([.ref h0, .int f])).length) Slot.unset).toArray = ls at hl ⊢
  have hl : lv_has ls 2 [(0, .ref h0), (1, .int f)] := hl
  obtain ⟨hF, hnu, htg, hso, hpa, hr1, hr2⟩ := id hR
  refine lv_iload_n hx hb dX2_count_0 rfl (lv_at hl 1 rfl) ?_
  refine vp_callSi (va_Run.run (va_runS (As := [.int f]) (rest := []) ⟨hx, hb, hml, hown, hts⟩ (mX2_isForm l f) (va_cwS 1 hts (gA (m3 k96 k97 k1) k98) rfl rfl rfl (by decide +kernel) ⟨Nat.le_of_ble_eq_true rfl, Nat.le_of_ble_eq_true rfl⟩) (prT) rfl rfl hl.1 rfl (lv_room (Nat.le_of_ble_eq_true rfl)) dX2_count_1 ⟨Nat.le_of_ble_eq_true rfl, Nat.le_of_ble_eq_true rfl⟩)) (fun r1 hwr1 => ?_)
  try dsimp only at hwr1
  refine lv_if_eq (tgt := 19) hx hb dX2_count_4 (by decide) (fun c2 => ?_) (fun c2 => ?_)
  · replace c2 := (ti_eq rfl (by decide : (0 : Int32).toInt = (0 : Int))).mp c2
    refine lv_iconst (v := (-1)) hx hb dX2_count_19 (by decide) ?_
    refine lv_topi (fun r3 er3 => ?_)
    have hr3 : r3.toInt = (-1 : Int) := by rw [er3]; exact (by decide : (-1 : Int32).toInt = (-1 : Int))
    exact W.iret (v := r3) hx hb hr (fun t9 ht9 _ => ⟨r3, rfl, Or.inl ⟨by omega, by omega⟩, ht9⟩) (fun _ h => absurd h List.not_mem_nil) dX2_count_20
  · replace c2 := mt (ti_eq rfl (by decide : (0 : Int32).toInt = (0 : Int))).mpr c2
    refine lv_aload_n hx hb dX2_count_7 rfl (lv_at hl 0 rfl) ?_
    refine va_get (D := (dC, dI)) (ci := 2) (v := .ref qa) (C := RX2) (T := TX2) (N := 8) hx hb hts inX2 hown hK hP 0 rfl rfl 0 (by decide) (hts _ k60) (fun _ h9 => h9) rfl dX2_count_8 ?_
    refine lv_iload_n hx hb dX2_count_11 rfl (lv_at hl 1 rfl) ?_
    obtain ⟨t, et⟩ : ∃ t : Nat, f.toInt = (t : Int) := ⟨f.toInt.toNat, by omega⟩
    have h4t : t < 4 := by omega
    obtain ⟨fw_t, fh_t, fr_t, f1_t, f2_t, f3_t, f4_t, f5_t, f6_t, f7_t, fB_t⟩ := hF t h4t
    have frd_t : rN wN t = (wN t + 15) / 16 := rfl
    have hm_t : ((rN wN t * hN t : Nat) : Int) = (rw t).toInt * (ht t).toInt := by rw [Int.natCast_mul, fr_t, fh_t]
    refine aaK (v := .ref (fa t)) hx hb hK hP 1 1 rfl rfl (t) (et) (by omega) rfl dX2_count_12 ?_
    refine vp_callSi (va_Run.run (va_runV (As := []) (rest := []) ⟨hx, hb, hml, hown, hts⟩ (mX0_ones l  (wb_o h4t) (wb_a h4t) fw_t fh_t fr_t f7_t (by omega) f3_t (by omega) fB_t.1) (cwV 0 hts (gA (m4 k155 k156 k157 k2) k158) rfl rfl rfl (by decide +kernel) ⟨Nat.le_of_ble_eq_true rfl, Nat.le_of_ble_eq_true rfl⟩) (prRV hP hK hNS rfl (wb_o h4t)) rfl rfl hl.1 rfl (lv_room (Nat.le_of_ble_eq_true rfl)) dX2_count_13 ⟨Nat.le_of_ble_eq_true rfl, Nat.le_of_ble_eq_true rfl⟩)) (fun r4 hwr4 => ?_)
    try dsimp only at hwr4
    refine lv_goto (tgt := 20) hx hb dX2_count_16 (by decide) ?_
    exact W.iret (v := r4) hx hb hr (fun t9 ht9 _ => ⟨r4, rfl, Or.inr ⟨t, et, h4t, by rw [hwr4, ones_bits (by omega) fB_t.2]⟩, ht9⟩) (fun _ h => absurd h List.not_mem_nil) dX2_count_20
set_option maxHeartbeats 8000000 in
set_option maxRecDepth 100000 in
theorem mX2_same (l : Launch) {dC : Nat → ClassId} {dI : Nat → Nat → Nat} {h0 qa qn qx qy : Nat} {cI cF : ClassId} {fa ar ln : Nat → Nat} {wd ht rw : Nat → Int32} {g : Nat → Nat → Int32} {nu : Nat → Int32} {X Y : Int32 × Int32 × Int32} {tg : Nat} {so pa : Option Nat} {ru : Int32} {wN hN : Nat → Nat} {Bt : Nat → Nat → Nat → Bool} {nz : Nat → Int} (f : Int32) (f2 : Int32) (hR : RC wN hN Bt nz tg so pa ru ln wd ht rw g nu) : Met l yX2_same (wM yX2_same cX2_same 3 (some .boolean)) ({ frames := 2, cells := 0, slots := 0, locals := 42 }) (va_Pc [.ref h0, .int f, .int f2] (rP (dC, dI) vwCl (tyB cI cF) (w_bc h0 qa qn qx qy cI cF fa ar ln wd ht rw g nu X Y tg so pa ru))) (vp_Si (fun r => (∃ t t2 : Nat, f.toInt = (t : Int) ∧ t < 4 ∧ f2.toInt = (t2 : Int) ∧ t2 < 4 ∧ ((r.toInt = 1 ∧ wN t = wN t2 ∧ hN t = hN t2 ∧ ∀ x y, x < wN t → y < hN t → Bt t x y = Bt t2 x y) ∨ (r.toInt = 0 ∧ ¬ (wN t = wN t2 ∧ hN t = hN t2 ∧ ∀ x y, x < wN t → y < hN t → Bt t x y = Bt t2 x y)))) ∨ (r.toInt = 0 ∧ (f.toInt < 0 ∨ 4 ≤ f.toInt ∨ f2.toInt < 0 ∨ 4 ≤ f2.toInt)))) 0 0 (fun _ => False) := by
  refine Met.ofW (cc := cX2_same) (maxL := 3) (ret := (some .boolean)) (by decide +kernel) rfl ?_
  intro p e s m args below meth c s₁ B hml hv
  obtain ⟨rfl, hP, hK, hNS⟩ := hv
  have hx := B.exec
  have hb := B.bytes
  have hr := B.returns
  have hts : ∀ w ∈ tblG, w.before _ s = true := fun w h => atoms_spec (ws := wM yX2_same cX2_same 3 (some .boolean)) B.pre w (List.mem_cons_of_mem _ h)
  have hown : s.vm.findClass RX2 = some m.cls := findClass_of_methodNamed B.named
  have hlocks := B.notSynchronized
  have hl := lv_entry ([.ref h0, .int f, .int f2]) (n := 3) (Nat.le_of_ble_eq_true rfl)
  rw [lg_entry_eq]
  generalize (lg_sl ([.ref h0, .int f, .int f2]) ++ List.replicate (3 - (lg_sl ([.ref h0, .int f, .int f2])).length) Slot.unset).toArray = ls at hl ⊢
  have hl : lv_has ls 3 [(0, .ref h0), (1, .int f), (2, .int f2)] := hl
  obtain ⟨hF, hnu, htg, hso, hpa, hr1, hr2⟩ := id hR
  refine lv_iload_n hx hb dX2_same_0 rfl (lv_at hl 1 rfl) ?_
  refine vp_callSi (va_Run.run (va_runS (As := [.int f]) (rest := []) ⟨hx, hb, hml, hown, hts⟩ (mX2_isForm l f) (va_cwS 1 hts (gA (m3 k96 k97 k1) k98) rfl rfl rfl (by decide +kernel) ⟨Nat.le_of_ble_eq_true rfl, Nat.le_of_ble_eq_true rfl⟩) (prT) rfl rfl hl.1 rfl (lv_room (Nat.le_of_ble_eq_true rfl)) dX2_same_1 ⟨Nat.le_of_ble_eq_true rfl, Nat.le_of_ble_eq_true rfl⟩)) (fun r1 hwr1 => ?_)
  try dsimp only at hwr1
  refine lv_if_eq (tgt := 36) hx hb dX2_same_4 (by decide) (fun c2 => ?_) (fun c2 => ?_)
  · replace c2 := (ti_eq rfl (by decide : (0 : Int32).toInt = (0 : Int))).mp c2
    refine lv_iconst (v := 0) hx hb dX2_same_36 (by decide) ?_
    refine lv_topi (fun r3 er3 => ?_)
    have hr3 : r3.toInt = (0 : Int) := by rw [er3]; exact (by decide : (0 : Int32).toInt = (0 : Int))
    exact W.zret (ty := .boolean) (v := r3) hx hb hr (nar_b (by omega)) (fun t9 ht9 _ => ⟨r3, rfl, Or.inr ⟨by omega, by omega⟩, ht9⟩) (fun _ h => absurd h List.not_mem_nil) dX2_same_37
  · replace c2 := mt (ti_eq rfl (by decide : (0 : Int32).toInt = (0 : Int))).mpr c2
    refine lv_iload_n hx hb dX2_same_7 rfl (lv_at hl 2 rfl) ?_
    refine vp_callSi (va_Run.run (va_runS (As := [.int f2]) (rest := []) ⟨hx, hb, hml, hown, hts⟩ (mX2_isForm l f2) (va_cwS 1 hts (gA (m3 k96 k97 k1) k98) rfl rfl rfl (by decide +kernel) ⟨Nat.le_of_ble_eq_true rfl, Nat.le_of_ble_eq_true rfl⟩) (prT) rfl rfl hl.1 rfl (lv_room (Nat.le_of_ble_eq_true rfl)) dX2_same_8 ⟨Nat.le_of_ble_eq_true rfl, Nat.le_of_ble_eq_true rfl⟩)) (fun r4 hwr4 => ?_)
    try dsimp only at hwr4
    refine lv_if_eq (tgt := 36) hx hb dX2_same_11 (by decide) (fun c5 => ?_) (fun c5 => ?_)
    · replace c5 := (ti_eq rfl (by decide : (0 : Int32).toInt = (0 : Int))).mp c5
      refine lv_iconst (v := 0) hx hb dX2_same_36 (by decide) ?_
      refine lv_topi (fun r6 er6 => ?_)
      have hr6 : r6.toInt = (0 : Int) := by rw [er6]; exact (by decide : (0 : Int32).toInt = (0 : Int))
      exact W.zret (ty := .boolean) (v := r6) hx hb hr (nar_b (by omega)) (fun t9 ht9 _ => ⟨r6, rfl, Or.inr ⟨by omega, by omega⟩, ht9⟩) (fun _ h => absurd h List.not_mem_nil) dX2_same_37
    · replace c5 := mt (ti_eq rfl (by decide : (0 : Int32).toInt = (0 : Int))).mpr c5
      refine lv_aload_n hx hb dX2_same_14 rfl (lv_at hl 0 rfl) ?_
      refine va_get (D := (dC, dI)) (ci := 2) (v := .ref qa) (C := RX2) (T := TX2) (N := 8) hx hb hts inX2 hown hK hP 0 rfl rfl 0 (by decide) (hts _ k60) (fun _ h9 => h9) rfl dX2_same_15 ?_
      refine lv_iload_n hx hb dX2_same_18 rfl (lv_at hl 1 rfl) ?_
      obtain ⟨t, et⟩ : ∃ t : Nat, f.toInt = (t : Int) := ⟨f.toInt.toNat, by omega⟩
      have h4t : t < 4 := by omega
      obtain ⟨fw_t, fh_t, fr_t, f1_t, f2_t, f3_t, f4_t, f5_t, f6_t, f7_t, fB_t⟩ := hF t h4t
      have frd_t : rN wN t = (wN t + 15) / 16 := rfl
      have hm_t : ((rN wN t * hN t : Nat) : Int) = (rw t).toInt * (ht t).toInt := by rw [Int.natCast_mul, fr_t, fh_t]
      refine aaK (v := .ref (fa t)) hx hb hK hP 1 1 rfl rfl (t) (et) (by omega) rfl dX2_same_19 ?_
      refine lv_aload_n hx hb dX2_same_20 rfl (lv_at hl 0 rfl) ?_
      refine va_get (D := (dC, dI)) (ci := 2) (v := .ref qa) (C := RX2) (T := TX2) (N := 8) hx hb hts inX2 hown hK hP 0 rfl rfl 0 (by decide) (hts _ k60) (fun _ h9 => h9) rfl dX2_same_21 ?_
      refine lv_iload_n hx hb dX2_same_24 rfl (lv_at hl 2 rfl) ?_
      obtain ⟨t2, et2⟩ : ∃ t : Nat, f2.toInt = (t : Int) := ⟨f2.toInt.toNat, by omega⟩
      have h4t2 : t2 < 4 := by omega
      obtain ⟨fw_t2, fh_t2, fr_t2, f1_t2, f2_t2, f3_t2, f4_t2, f5_t2, f6_t2, f7_t2, fB_t2⟩ := hF t2 h4t2
      have frd_t2 : rN wN t2 = (wN t2 + 15) / 16 := rfl
      have hm_t2 : ((rN wN t2 * hN t2 : Nat) : Int) = (rw t2).toInt * (ht t2).toInt := by rw [Int.natCast_mul, fr_t2, fh_t2]
      refine aaK (v := .ref (fa t2)) hx hb hK hP 1 1 rfl rfl (t2) (et2) (by omega) rfl dX2_same_25 ?_
      refine vp_callSi (va_Run.run (va_runV (As := [.ref (fa t2)]) (rest := []) ⟨hx, hb, hml, hown, hts⟩ (mX0_looksLike l (wb_o h4t) (wb_a h4t) (wb_o h4t2) (wb_a h4t2) fw_t fh_t fr_t f7_t (by omega) f3_t f5_t fw_t2 fh_t2 (fun q1 q2 => rr_le q1 q2 f3_t2)) (cwV 1 hts (gA (m4 k169 k170 k171 k2) k172) rfl rfl rfl (by decide +kernel) ⟨Nat.le_of_ble_eq_true rfl, Nat.le_of_ble_eq_true rfl⟩) (prRV hP hK hNS rfl (wb_o h4t)) rfl rfl hl.1 rfl (lv_room (Nat.le_of_ble_eq_true rfl)) dX2_same_26 ⟨Nat.le_of_ble_eq_true rfl, Nat.le_of_ble_eq_true rfl⟩)) (fun r7 hwr7 => ?_)
      have h01r7 := or01 hwr7
      refine lv_if_eq (tgt := 36) hx hb dX2_same_29 (by decide) (fun c8 => ?_) (fun c8 => ?_)
      · replace c8 := (ti_eq rfl (by decide : (0 : Int32).toInt = (0 : Int))).mp c8
        refine lv_iconst (v := 0) hx hb dX2_same_36 (by decide) ?_
        refine lv_topi (fun r9 er9 => ?_)
        have hr9 : r9.toInt = (0 : Int) := by rw [er9]; exact (by decide : (0 : Int32).toInt = (0 : Int))
        exact W.zret (ty := .boolean) (v := r9) hx hb hr (nar_b (by omega)) (fun t9 ht9 _ => ⟨r9, rfl, Or.inl ⟨t, t2, et, h4t, et2, h4t2, same_post (r := r9) (by omega) (by omega) fB_t fB_t2 hwr7⟩, ht9⟩) (fun _ h => absurd h List.not_mem_nil) dX2_same_37
      · replace c8 := mt (ti_eq rfl (by decide : (0 : Int32).toInt = (0 : Int))).mpr c8
        refine lv_iconst (v := 1) hx hb dX2_same_32 (by decide) ?_
        refine lv_goto (tgt := 37) hx hb dX2_same_33 (by decide) ?_
        refine lv_topi (fun r10 er10 => ?_)
        have hr10 : r10.toInt = (1 : Int) := by rw [er10]; exact (by decide : (1 : Int32).toInt = (1 : Int))
        exact W.zret (ty := .boolean) (v := r10) hx hb hr (nar_b (by omega)) (fun t9 ht9 _ => ⟨r10, rfl, Or.inl ⟨t, t2, et, h4t, et2, h4t2, same_post (r := r10) (by omega) (by omega) fB_t fB_t2 hwr7⟩, ht9⟩) (fun _ h => absurd h List.not_mem_nil) dX2_same_37
set_option maxHeartbeats 8000000 in
set_option maxRecDepth 100000 in
theorem mX2_order (l : Launch) {dC : Nat → ClassId} {dI : Nat → Nat → Nat} {h0 qa qn qx qy : Nat} {cI cF : ClassId} {fa ar ln : Nat → Nat} {wd ht rw : Nat → Int32} {g : Nat → Nat → Int32} {nu : Nat → Int32} {X Y : Int32 × Int32 × Int32} {tg : Nat} {so pa : Option Nat} {ru : Int32} {wN hN : Nat → Nat} {Bt : Nat → Nat → Nat → Bool} {nz : Nat → Int} (wh : Int32) (se : Int32) (hR : RC wN hN Bt nz tg so pa ru ln wd ht rw g nu) : Met l yX2_order (wM yX2_order cX2_order 3 (some .int)) ({ frames := 1, cells := 0, slots := 0, locals := 20 }) (va_Pc [.ref h0, .int wh, .int se] (rP (dC, dI) vwCl (tyB cI cF) (w_bc h0 qa qn qx qy cI cF fa ar ln wd ht rw g nu X Y tg so pa ru))) (vp_Si (fun r => (r.toInt = 0 ∧ (wh.toInt < 0 ∨ 5 ≤ wh.toInt)) ∨ (0 ≤ wh.toInt ∧ wh.toInt < 5 ∧ ∃ k : Nat, k < 10 ∧ ((se.toInt = 0 ∧ (k : Int) = 2 * wh.toInt) ∨ (se.toInt ≠ 0 ∧ (k : Int) = 2 * wh.toInt + 1)) ∧ r.toInt = nz k))) 0 0 (fun _ => False) := by
  refine Met.ofW (cc := cX2_order) (maxL := 3) (ret := (some .int)) (by decide +kernel) rfl ?_
  intro p e s m args below meth c s₁ B hml hv
  obtain ⟨rfl, hP, hK, hNS⟩ := hv
  have hx := B.exec
  have hb := B.bytes
  have hr := B.returns
  have hts : ∀ w ∈ tblG, w.before _ s = true := fun w h => atoms_spec (ws := wM yX2_order cX2_order 3 (some .int)) B.pre w (List.mem_cons_of_mem _ h)
  have hown : s.vm.findClass RX2 = some m.cls := findClass_of_methodNamed B.named
  have hlocks := B.notSynchronized
  have hl := lv_entry ([.ref h0, .int wh, .int se]) (n := 3) (Nat.le_of_ble_eq_true rfl)
  rw [lg_entry_eq]
  generalize (lg_sl ([.ref h0, .int wh, .int se]) ++ List.replicate (3 - (lg_sl ([.ref h0, .int wh, .int se])).length) Slot.unset).toArray = ls at hl ⊢
  have hl : lv_has ls 3 [(0, .ref h0), (1, .int wh), (2, .int se)] := hl
  obtain ⟨hF, hnu, htg, hso, hpa, hr1, hr2⟩ := id hR
  refine lv_iload_n hx hb dX2_order_0 rfl (lv_at hl 1 rfl) ?_
  refine vp_callSi (va_Run.run (va_runS (As := [.int wh]) (rest := []) ⟨hx, hb, hml, hown, hts⟩ (mX2_isPair l wh) (va_cwS 1 hts (gA (m3 k195 k196 k1) k197) rfl rfl rfl (by decide +kernel) ⟨Nat.le_of_ble_eq_true rfl, Nat.le_of_ble_eq_true rfl⟩) (prT) rfl rfl hl.1 rfl (lv_room (Nat.le_of_ble_eq_true rfl)) dX2_order_1 ⟨Nat.le_of_ble_eq_true rfl, Nat.le_of_ble_eq_true rfl⟩)) (fun r1 hwr1 => ?_)
  try dsimp only at hwr1
  refine lv_if_eq (tgt := 28) hx hb dX2_order_4 (by decide) (fun c2 => ?_) (fun c2 => ?_)
  · replace c2 := (ti_eq rfl (by decide : (0 : Int32).toInt = (0 : Int))).mp c2
    refine lv_iconst (v := 0) hx hb dX2_order_28 (by decide) ?_
    refine lv_topi (fun r3 er3 => ?_)
    have hr3 : r3.toInt = (0 : Int) := by rw [er3]; exact (by decide : (0 : Int32).toInt = (0 : Int))
    exact W.iret (v := r3) hx hb hr (fun t9 ht9 _ => ⟨r3, rfl, Or.inl ⟨by omega, by omega⟩, ht9⟩) (fun _ h => absurd h List.not_mem_nil) dX2_order_29
  · replace c2 := mt (ti_eq rfl (by decide : (0 : Int32).toInt = (0 : Int))).mpr c2
    refine lv_aload_n hx hb dX2_order_7 rfl (lv_at hl 0 rfl) ?_
    refine va_get (D := (dC, dI)) (ci := 2) (v := .ref qn) (C := RX2) (T := TX2) (N := 8) hx hb hts inX2 hown hK hP 0 rfl rfl 1 (by decide) (hts _ k61) (fun _ h9 => h9) rfl dX2_order_8 ?_
    refine lv_iconst (v := 2) hx hb dX2_order_11 (by decide) ?_
    refine lv_iload_n hx hb dX2_order_12 rfl (lv_at hl 1 rfl) ?_
    refine lv_imul hx hb dX2_order_13 ?_
    refine lv_topi (fun x4 ex4 => ?_)
    have hx4 : x4.toInt = (2 : Int) * wh.toInt := by rw [ex4]; exact ti_mul (by decide : (2 : Int32).toInt = (2 : Int)) rfl (by omega) (by omega)
    refine lv_iload_n hx hb dX2_order_14 rfl (lv_at hl 2 rfl) ?_
    refine lv_if_eq (tgt := 22) hx hb dX2_order_15 (by decide) (fun c5 => ?_) (fun c5 => ?_)
    · replace c5 := (ti_eq rfl (by decide : (0 : Int32).toInt = (0 : Int))).mp c5
      refine lv_iconst (v := 0) hx hb dX2_order_22 (by decide) ?_
      refine lv_iadd hx hb dX2_order_23 ?_
      refine lv_topi (fun x6 ex6 => ?_)
      have hx6 : x6.toInt = x4.toInt + (0 : Int) := by rw [ex6]; exact ti_add rfl (by decide : (0 : Int32).toInt = (0 : Int)) (by omega) (by omega)
      have hk0 : ∃ k : Nat, k < 10 ∧ x6.toInt = (k : Int) := ⟨x6.toInt.toNat, by omega, by omega⟩
      obtain ⟨k, hk1, hk2⟩ := hk0
      have hk3 := hnu k hk1
      refine iaK hx hb hK hP 2 0 rfl rfl (k) (hk2) (by omega) dX2_order_24 ?_
      refine lv_topi (fun x7 ex7 => ?_)
      refine lv_goto (tgt := 29) hx hb dX2_order_25 (by decide) ?_
      exact W.iret (v := x7) hx hb hr (fun t9 ht9 _ => ⟨x7, rfl, Or.inr ⟨by omega, by omega, k, hk1, by omega, by rw [ex7]; exact hk3.1⟩, ht9⟩) (fun _ h => absurd h List.not_mem_nil) dX2_order_29
    · replace c5 := mt (ti_eq rfl (by decide : (0 : Int32).toInt = (0 : Int))).mpr c5
      refine lv_iconst (v := 1) hx hb dX2_order_18 (by decide) ?_
      refine lv_goto (tgt := 23) hx hb dX2_order_19 (by decide) ?_
      refine lv_iadd hx hb dX2_order_23 ?_
      refine lv_topi (fun x8 ex8 => ?_)
      have hx8 : x8.toInt = x4.toInt + (1 : Int) := by rw [ex8]; exact ti_add rfl (by decide : (1 : Int32).toInt = (1 : Int)) (by omega) (by omega)
      have hk0 : ∃ k : Nat, k < 10 ∧ x8.toInt = (k : Int) := ⟨x8.toInt.toNat, by omega, by omega⟩
      obtain ⟨k, hk1, hk2⟩ := hk0
      have hk3 := hnu k hk1
      refine iaK hx hb hK hP 2 0 rfl rfl (k) (hk2) (by omega) dX2_order_24 ?_
      refine lv_topi (fun x9 ex9 => ?_)
      refine lv_goto (tgt := 29) hx hb dX2_order_25 (by decide) ?_
      exact W.iret (v := x9) hx hb hr (fun t9 ht9 _ => ⟨x9, rfl, Or.inr ⟨by omega, by omega, k, hk1, by omega, by rw [ex9]; exact hk3.1⟩, ht9⟩) (fun _ h => absurd h List.not_mem_nil) dX2_order_29
set_option maxHeartbeats 8000000 in
set_option maxRecDepth 100000 in
theorem mX2_byRule (l : Launch) {dC : Nat → ClassId} {dI : Nat → Nat → Nat} {h0 qa qn qx qy : Nat} {cI cF : ClassId} {fa ar ln : Nat → Nat} {wd ht rw : Nat → Int32} {g : Nat → Nat → Int32} {nu : Nat → Int32} {X Y : Int32 × Int32 × Int32} {tg : Nat} {so pa : Option Nat} {ru : Int32} {wN hN : Nat → Nat} {nz : Nat → Int} (sv : Int32) (dv : Int32) (hR : CS wN hN nz tg so pa ru ln wd ht rw g nu) : Met l yX2_byRule (wM yX2_byRule cX2_byRule 4 (some .int)) ({ frames := 0, cells := 0, slots := 0, locals := 0 }) (va_Pc [.ref h0, .int sv, .int dv] (rP (dC, dI) vwCl (tyB cI cF) (w_bc h0 qa qn qx qy cI cF fa ar ln wd ht rw g nu X Y tg so pa ru))) (vp_Si (fun r => ∀ j, j < 32 → bt r j = rB ru (bt sv j) (bt dv j))) 0 0 (fun _ => False) := by
  refine Met.ofW (cc := cX2_byRule) (maxL := 4) (ret := (some .int)) (by decide +kernel) rfl ?_
  intro p e s m args below meth c s₁ B hml hv
  obtain ⟨rfl, hP, hK, hNS⟩ := hv
  have hx := B.exec
  have hb := B.bytes
  have hr := B.returns
  have hts : ∀ w ∈ tblG, w.before _ s = true := fun w h => atoms_spec (ws := wM yX2_byRule cX2_byRule 4 (some .int)) B.pre w (List.mem_cons_of_mem _ h)
  have hown : s.vm.findClass RX2 = some m.cls := findClass_of_methodNamed B.named
  have hlocks := B.notSynchronized
  have hl := lv_entry ([.ref h0, .int sv, .int dv]) (n := 4) (Nat.le_of_ble_eq_true rfl)
  rw [lg_entry_eq]
  generalize (lg_sl ([.ref h0, .int sv, .int dv]) ++ List.replicate (4 - (lg_sl ([.ref h0, .int sv, .int dv])).length) Slot.unset).toArray = ls at hl ⊢
  have hl : lv_has ls 4 [(0, .ref h0), (1, .int sv), (2, .int dv)] := hl
  obtain ⟨hF, hnu, htg, hso, hpa, hr1, hr2⟩ := id hR
  refine lv_iconst (v := 0) hx hb dX2_byRule_0 (by decide) ?_
  refine lv_istore_n (lv' := [(3, .int (0 : Int32)), (0, .ref h0), (1, .int sv), (2, .int dv)]) hx hb dX2_byRule_1 rfl hl (by decide) rfl (fun ls hl => ?_)
  refine lv_aload_n hx hb dX2_byRule_2 rfl (lv_at hl 1 rfl) ?_
  refine va_get (D := (dC, dI)) (ci := 2) (v := .int ru) (C := RX2) (T := TX2) (N := 8) hx hb hts inX2 hown hK hP 0 rfl rfl 7 (by decide) (hts _ k67) (fun _ h9 => h9) rfl dX2_byRule_3 ?_
  refine lv_iconst (v := 1) hx hb dX2_byRule_6 (by decide) ?_
  refine lv_iand hx hb dX2_byRule_7 ?_
  refine lv_topi (fun x1 ex1 => ?_)
  have hq0 := and2k (k := 0) (by decide) b_k1 ex1
  refine lv_if_eq (tgt := 17) hx hb dX2_byRule_8 (by decide) (fun c2 => ?_) (fun c2 => ?_)
  · replace c2 := (ti_eq rfl (by decide : (0 : Int32).toInt = (0 : Int))).mp c2
    refine lv_aload_n hx hb dX2_byRule_17 rfl (lv_at hl 1 rfl) ?_
    refine va_get (D := (dC, dI)) (ci := 2) (v := .int ru) (C := RX2) (T := TX2) (N := 8) hx hb hts inX2 hown hK hP 0 rfl rfl 7 (by decide) (hts _ k67) (fun _ h9 => h9) rfl dX2_byRule_18 ?_
    refine lv_iconst (v := 2) hx hb dX2_byRule_21 (by decide) ?_
    refine lv_iand hx hb dX2_byRule_22 ?_
    refine lv_topi (fun x3 ex3 => ?_)
    have hq1 := and2k (k := 1) (by decide) b_k2 ex3
    refine lv_if_eq (tgt := 34) hx hb dX2_byRule_23 (by decide) (fun c4 => ?_) (fun c4 => ?_)
    · replace c4 := (ti_eq rfl (by decide : (0 : Int32).toInt = (0 : Int))).mp c4
      refine lv_aload_n hx hb dX2_byRule_34 rfl (lv_at hl 1 rfl) ?_
      refine va_get (D := (dC, dI)) (ci := 2) (v := .int ru) (C := RX2) (T := TX2) (N := 8) hx hb hts inX2 hown hK hP 0 rfl rfl 7 (by decide) (hts _ k67) (fun _ h9 => h9) rfl dX2_byRule_35 ?_
      refine lv_iconst (v := 4) hx hb dX2_byRule_38 (by decide) ?_
      refine lv_iand hx hb dX2_byRule_39 ?_
      refine lv_topi (fun x5 ex5 => ?_)
      have hq2 := and2k (k := 2) (by decide) b_k4 ex5
      refine lv_if_eq (tgt := 51) hx hb dX2_byRule_40 (by decide) (fun c6 => ?_) (fun c6 => ?_)
      · replace c6 := (ti_eq rfl (by decide : (0 : Int32).toInt = (0 : Int))).mp c6
        refine lv_aload_n hx hb dX2_byRule_51 rfl (lv_at hl 1 rfl) ?_
        refine va_get (D := (dC, dI)) (ci := 2) (v := .int ru) (C := RX2) (T := TX2) (N := 8) hx hb hts inX2 hown hK hP 0 rfl rfl 7 (by decide) (hts _ k67) (fun _ h9 => h9) rfl dX2_byRule_52 ?_
        refine lv_bipush (v := (8)) hx hb dX2_byRule_55 (by decide) ?_
        refine lv_iand hx hb dX2_byRule_57 ?_
        refine lv_topi (fun x7 ex7 => ?_)
        have hq3 := and2k (k := 3) (by decide) b_k8 ex7
        refine lv_if_eq (tgt := 71) hx hb dX2_byRule_58 (by decide) (fun c8 => ?_) (fun c8 => ?_)
        · replace c8 := (ti_eq rfl (by decide : (0 : Int32).toInt = (0 : Int))).mp c8
          refine lv_iload_n hx hb dX2_byRule_71 rfl (lv_at hl 0 rfl) ?_
          refine lv_topi (fun r9 er9 => ?_)
          have hr9 : r9.toInt = (0 : Int) := by rw [er9]; exact (by decide : (0 : Int32).toInt = (0 : Int))
          have hB0 : bt ru 0 = false := and2F hq0 (by omega)
          have hB1 : bt ru 1 = false := and2F hq1 (by omega)
          have hB2 : bt ru 2 = false := and2F hq2 (by omega)
          have hB3 : bt ru 3 = false := and2F hq3 (by omega)
          exact W.iret (v := r9) hx hb hr (fun t9 ht9 _ => ⟨r9, rfl, fun j hj => by simp only [er9, b_or, b_and, b_not hj, b_0, rB, hB0, hB1, hB2, hB3]; cases bt sv j <;> cases bt dv j <;> rfl, ht9⟩) (fun _ h => absurd h List.not_mem_nil) dX2_byRule_72
        · replace c8 := mt (ti_eq rfl (by decide : (0 : Int32).toInt = (0 : Int))).mpr c8
          refine lv_iload_n hx hb dX2_byRule_61 rfl (lv_at hl 0 rfl) ?_
          refine lv_iload_n hx hb dX2_byRule_62 rfl (lv_at hl 2 rfl) ?_
          refine lv_iconst (v := (-1)) hx hb dX2_byRule_63 (by decide) ?_
          refine lv_ixor hx hb dX2_byRule_64 ?_
          refine lv_topi (fun x10 ex10 => ?_)
          refine lv_iload_n hx hb dX2_byRule_65 rfl (lv_at hl 3 rfl) ?_
          refine lv_iconst (v := (-1)) hx hb dX2_byRule_66 (by decide) ?_
          refine lv_ixor hx hb dX2_byRule_67 ?_
          refine lv_topi (fun x11 ex11 => ?_)
          refine lv_iand hx hb dX2_byRule_68 ?_
          refine lv_topi (fun x12 ex12 => ?_)
          refine lv_ior hx hb dX2_byRule_69 ?_
          refine lv_topi (fun x13 ex13 => ?_)
          refine lv_istore_n (lv' := [(3, .int x13), (0, .ref h0), (1, .int sv), (2, .int dv)]) hx hb dX2_byRule_70 rfl hl (by decide) rfl (fun ls hl => ?_)
          refine lv_iload_n hx hb dX2_byRule_71 rfl (lv_at hl 0 rfl) ?_
          have hB0 : bt ru 0 = false := and2F hq0 (by omega)
          have hB1 : bt ru 1 = false := and2F hq1 (by omega)
          have hB2 : bt ru 2 = false := and2F hq2 (by omega)
          have hB3 : bt ru 3 = true := and2T hq3 (by omega)
          exact W.iret (v := x13) hx hb hr (fun t9 ht9 _ => ⟨x13, rfl, fun j hj => by simp only [ex13, ex12, ex11, ex10, b_or, b_and, b_not hj, b_0, rB, hB0, hB1, hB2, hB3]; cases bt sv j <;> cases bt dv j <;> rfl, ht9⟩) (fun _ h => absurd h List.not_mem_nil) dX2_byRule_72
      · replace c6 := mt (ti_eq rfl (by decide : (0 : Int32).toInt = (0 : Int))).mpr c6
        refine lv_iload_n hx hb dX2_byRule_43 rfl (lv_at hl 0 rfl) ?_
        refine lv_iload_n hx hb dX2_byRule_44 rfl (lv_at hl 2 rfl) ?_
        refine lv_iconst (v := (-1)) hx hb dX2_byRule_45 (by decide) ?_
        refine lv_ixor hx hb dX2_byRule_46 ?_
        refine lv_topi (fun x14 ex14 => ?_)
        refine lv_iload_n hx hb dX2_byRule_47 rfl (lv_at hl 3 rfl) ?_
        refine lv_iand hx hb dX2_byRule_48 ?_
        refine lv_topi (fun x15 ex15 => ?_)
        refine lv_ior hx hb dX2_byRule_49 ?_
        refine lv_topi (fun x16 ex16 => ?_)
        refine lv_istore_n (lv' := [(3, .int x16), (0, .ref h0), (1, .int sv), (2, .int dv)]) hx hb dX2_byRule_50 rfl hl (by decide) rfl (fun ls hl => ?_)
        refine lv_aload_n hx hb dX2_byRule_51 rfl (lv_at hl 1 rfl) ?_
        refine va_get (D := (dC, dI)) (ci := 2) (v := .int ru) (C := RX2) (T := TX2) (N := 8) hx hb hts inX2 hown hK hP 0 rfl rfl 7 (by decide) (hts _ k67) (fun _ h9 => h9) rfl dX2_byRule_52 ?_
        refine lv_bipush (v := (8)) hx hb dX2_byRule_55 (by decide) ?_
        refine lv_iand hx hb dX2_byRule_57 ?_
        refine lv_topi (fun x17 ex17 => ?_)
        have hq3 := and2k (k := 3) (by decide) b_k8 ex17
        refine lv_if_eq (tgt := 71) hx hb dX2_byRule_58 (by decide) (fun c18 => ?_) (fun c18 => ?_)
        · replace c18 := (ti_eq rfl (by decide : (0 : Int32).toInt = (0 : Int))).mp c18
          refine lv_iload_n hx hb dX2_byRule_71 rfl (lv_at hl 0 rfl) ?_
          have hB0 : bt ru 0 = false := and2F hq0 (by omega)
          have hB1 : bt ru 1 = false := and2F hq1 (by omega)
          have hB2 : bt ru 2 = true := and2T hq2 (by omega)
          have hB3 : bt ru 3 = false := and2F hq3 (by omega)
          exact W.iret (v := x16) hx hb hr (fun t9 ht9 _ => ⟨x16, rfl, fun j hj => by simp only [ex16, ex15, ex14, b_or, b_and, b_not hj, b_0, rB, hB0, hB1, hB2, hB3]; cases bt sv j <;> cases bt dv j <;> rfl, ht9⟩) (fun _ h => absurd h List.not_mem_nil) dX2_byRule_72
        · replace c18 := mt (ti_eq rfl (by decide : (0 : Int32).toInt = (0 : Int))).mpr c18
          refine lv_iload_n hx hb dX2_byRule_61 rfl (lv_at hl 0 rfl) ?_
          refine lv_iload_n hx hb dX2_byRule_62 rfl (lv_at hl 2 rfl) ?_
          refine lv_iconst (v := (-1)) hx hb dX2_byRule_63 (by decide) ?_
          refine lv_ixor hx hb dX2_byRule_64 ?_
          refine lv_topi (fun x19 ex19 => ?_)
          refine lv_iload_n hx hb dX2_byRule_65 rfl (lv_at hl 3 rfl) ?_
          refine lv_iconst (v := (-1)) hx hb dX2_byRule_66 (by decide) ?_
          refine lv_ixor hx hb dX2_byRule_67 ?_
          refine lv_topi (fun x20 ex20 => ?_)
          refine lv_iand hx hb dX2_byRule_68 ?_
          refine lv_topi (fun x21 ex21 => ?_)
          refine lv_ior hx hb dX2_byRule_69 ?_
          refine lv_topi (fun x22 ex22 => ?_)
          refine lv_istore_n (lv' := [(3, .int x22), (0, .ref h0), (1, .int sv), (2, .int dv)]) hx hb dX2_byRule_70 rfl hl (by decide) rfl (fun ls hl => ?_)
          refine lv_iload_n hx hb dX2_byRule_71 rfl (lv_at hl 0 rfl) ?_
          have hB0 : bt ru 0 = false := and2F hq0 (by omega)
          have hB1 : bt ru 1 = false := and2F hq1 (by omega)
          have hB2 : bt ru 2 = true := and2T hq2 (by omega)
          have hB3 : bt ru 3 = true := and2T hq3 (by omega)
          exact W.iret (v := x22) hx hb hr (fun t9 ht9 _ => ⟨x22, rfl, fun j hj => by simp only [ex22, ex21, ex20, ex19, ex16, ex15, ex14, b_or, b_and, b_not hj, b_0, rB, hB0, hB1, hB2, hB3]; cases bt sv j <;> cases bt dv j <;> rfl, ht9⟩) (fun _ h => absurd h List.not_mem_nil) dX2_byRule_72
    · replace c4 := mt (ti_eq rfl (by decide : (0 : Int32).toInt = (0 : Int))).mpr c4
      refine lv_iload_n hx hb dX2_byRule_26 rfl (lv_at hl 0 rfl) ?_
      refine lv_iload_n hx hb dX2_byRule_27 rfl (lv_at hl 2 rfl) ?_
      refine lv_iload_n hx hb dX2_byRule_28 rfl (lv_at hl 3 rfl) ?_
      refine lv_iconst (v := (-1)) hx hb dX2_byRule_29 (by decide) ?_
      refine lv_ixor hx hb dX2_byRule_30 ?_
      refine lv_topi (fun x23 ex23 => ?_)
      refine lv_iand hx hb dX2_byRule_31 ?_
      refine lv_topi (fun x24 ex24 => ?_)
      refine lv_ior hx hb dX2_byRule_32 ?_
      refine lv_topi (fun x25 ex25 => ?_)
      refine lv_istore_n (lv' := [(3, .int x25), (0, .ref h0), (1, .int sv), (2, .int dv)]) hx hb dX2_byRule_33 rfl hl (by decide) rfl (fun ls hl => ?_)
      refine lv_aload_n hx hb dX2_byRule_34 rfl (lv_at hl 1 rfl) ?_
      refine va_get (D := (dC, dI)) (ci := 2) (v := .int ru) (C := RX2) (T := TX2) (N := 8) hx hb hts inX2 hown hK hP 0 rfl rfl 7 (by decide) (hts _ k67) (fun _ h9 => h9) rfl dX2_byRule_35 ?_
      refine lv_iconst (v := 4) hx hb dX2_byRule_38 (by decide) ?_
      refine lv_iand hx hb dX2_byRule_39 ?_
      refine lv_topi (fun x26 ex26 => ?_)
      have hq2 := and2k (k := 2) (by decide) b_k4 ex26
      refine lv_if_eq (tgt := 51) hx hb dX2_byRule_40 (by decide) (fun c27 => ?_) (fun c27 => ?_)
      · replace c27 := (ti_eq rfl (by decide : (0 : Int32).toInt = (0 : Int))).mp c27
        refine lv_aload_n hx hb dX2_byRule_51 rfl (lv_at hl 1 rfl) ?_
        refine va_get (D := (dC, dI)) (ci := 2) (v := .int ru) (C := RX2) (T := TX2) (N := 8) hx hb hts inX2 hown hK hP 0 rfl rfl 7 (by decide) (hts _ k67) (fun _ h9 => h9) rfl dX2_byRule_52 ?_
        refine lv_bipush (v := (8)) hx hb dX2_byRule_55 (by decide) ?_
        refine lv_iand hx hb dX2_byRule_57 ?_
        refine lv_topi (fun x28 ex28 => ?_)
        have hq3 := and2k (k := 3) (by decide) b_k8 ex28
        refine lv_if_eq (tgt := 71) hx hb dX2_byRule_58 (by decide) (fun c29 => ?_) (fun c29 => ?_)
        · replace c29 := (ti_eq rfl (by decide : (0 : Int32).toInt = (0 : Int))).mp c29
          refine lv_iload_n hx hb dX2_byRule_71 rfl (lv_at hl 0 rfl) ?_
          have hB0 : bt ru 0 = false := and2F hq0 (by omega)
          have hB1 : bt ru 1 = true := and2T hq1 (by omega)
          have hB2 : bt ru 2 = false := and2F hq2 (by omega)
          have hB3 : bt ru 3 = false := and2F hq3 (by omega)
          exact W.iret (v := x25) hx hb hr (fun t9 ht9 _ => ⟨x25, rfl, fun j hj => by simp only [ex25, ex24, ex23, b_or, b_and, b_not hj, b_0, rB, hB0, hB1, hB2, hB3]; cases bt sv j <;> cases bt dv j <;> rfl, ht9⟩) (fun _ h => absurd h List.not_mem_nil) dX2_byRule_72
        · replace c29 := mt (ti_eq rfl (by decide : (0 : Int32).toInt = (0 : Int))).mpr c29
          refine lv_iload_n hx hb dX2_byRule_61 rfl (lv_at hl 0 rfl) ?_
          refine lv_iload_n hx hb dX2_byRule_62 rfl (lv_at hl 2 rfl) ?_
          refine lv_iconst (v := (-1)) hx hb dX2_byRule_63 (by decide) ?_
          refine lv_ixor hx hb dX2_byRule_64 ?_
          refine lv_topi (fun x30 ex30 => ?_)
          refine lv_iload_n hx hb dX2_byRule_65 rfl (lv_at hl 3 rfl) ?_
          refine lv_iconst (v := (-1)) hx hb dX2_byRule_66 (by decide) ?_
          refine lv_ixor hx hb dX2_byRule_67 ?_
          refine lv_topi (fun x31 ex31 => ?_)
          refine lv_iand hx hb dX2_byRule_68 ?_
          refine lv_topi (fun x32 ex32 => ?_)
          refine lv_ior hx hb dX2_byRule_69 ?_
          refine lv_topi (fun x33 ex33 => ?_)
          refine lv_istore_n (lv' := [(3, .int x33), (0, .ref h0), (1, .int sv), (2, .int dv)]) hx hb dX2_byRule_70 rfl hl (by decide) rfl (fun ls hl => ?_)
          refine lv_iload_n hx hb dX2_byRule_71 rfl (lv_at hl 0 rfl) ?_
          have hB0 : bt ru 0 = false := and2F hq0 (by omega)
          have hB1 : bt ru 1 = true := and2T hq1 (by omega)
          have hB2 : bt ru 2 = false := and2F hq2 (by omega)
          have hB3 : bt ru 3 = true := and2T hq3 (by omega)
          exact W.iret (v := x33) hx hb hr (fun t9 ht9 _ => ⟨x33, rfl, fun j hj => by simp only [ex33, ex32, ex31, ex30, ex25, ex24, ex23, b_or, b_and, b_not hj, b_0, rB, hB0, hB1, hB2, hB3]; cases bt sv j <;> cases bt dv j <;> rfl, ht9⟩) (fun _ h => absurd h List.not_mem_nil) dX2_byRule_72
      · replace c27 := mt (ti_eq rfl (by decide : (0 : Int32).toInt = (0 : Int))).mpr c27
        refine lv_iload_n hx hb dX2_byRule_43 rfl (lv_at hl 0 rfl) ?_
        refine lv_iload_n hx hb dX2_byRule_44 rfl (lv_at hl 2 rfl) ?_
        refine lv_iconst (v := (-1)) hx hb dX2_byRule_45 (by decide) ?_
        refine lv_ixor hx hb dX2_byRule_46 ?_
        refine lv_topi (fun x34 ex34 => ?_)
        refine lv_iload_n hx hb dX2_byRule_47 rfl (lv_at hl 3 rfl) ?_
        refine lv_iand hx hb dX2_byRule_48 ?_
        refine lv_topi (fun x35 ex35 => ?_)
        refine lv_ior hx hb dX2_byRule_49 ?_
        refine lv_topi (fun x36 ex36 => ?_)
        refine lv_istore_n (lv' := [(3, .int x36), (0, .ref h0), (1, .int sv), (2, .int dv)]) hx hb dX2_byRule_50 rfl hl (by decide) rfl (fun ls hl => ?_)
        refine lv_aload_n hx hb dX2_byRule_51 rfl (lv_at hl 1 rfl) ?_
        refine va_get (D := (dC, dI)) (ci := 2) (v := .int ru) (C := RX2) (T := TX2) (N := 8) hx hb hts inX2 hown hK hP 0 rfl rfl 7 (by decide) (hts _ k67) (fun _ h9 => h9) rfl dX2_byRule_52 ?_
        refine lv_bipush (v := (8)) hx hb dX2_byRule_55 (by decide) ?_
        refine lv_iand hx hb dX2_byRule_57 ?_
        refine lv_topi (fun x37 ex37 => ?_)
        have hq3 := and2k (k := 3) (by decide) b_k8 ex37
        refine lv_if_eq (tgt := 71) hx hb dX2_byRule_58 (by decide) (fun c38 => ?_) (fun c38 => ?_)
        · replace c38 := (ti_eq rfl (by decide : (0 : Int32).toInt = (0 : Int))).mp c38
          refine lv_iload_n hx hb dX2_byRule_71 rfl (lv_at hl 0 rfl) ?_
          have hB0 : bt ru 0 = false := and2F hq0 (by omega)
          have hB1 : bt ru 1 = true := and2T hq1 (by omega)
          have hB2 : bt ru 2 = true := and2T hq2 (by omega)
          have hB3 : bt ru 3 = false := and2F hq3 (by omega)
          exact W.iret (v := x36) hx hb hr (fun t9 ht9 _ => ⟨x36, rfl, fun j hj => by simp only [ex36, ex35, ex34, ex25, ex24, ex23, b_or, b_and, b_not hj, b_0, rB, hB0, hB1, hB2, hB3]; cases bt sv j <;> cases bt dv j <;> rfl, ht9⟩) (fun _ h => absurd h List.not_mem_nil) dX2_byRule_72
        · replace c38 := mt (ti_eq rfl (by decide : (0 : Int32).toInt = (0 : Int))).mpr c38
          refine lv_iload_n hx hb dX2_byRule_61 rfl (lv_at hl 0 rfl) ?_
          refine lv_iload_n hx hb dX2_byRule_62 rfl (lv_at hl 2 rfl) ?_
          refine lv_iconst (v := (-1)) hx hb dX2_byRule_63 (by decide) ?_
          refine lv_ixor hx hb dX2_byRule_64 ?_
          refine lv_topi (fun x39 ex39 => ?_)
          refine lv_iload_n hx hb dX2_byRule_65 rfl (lv_at hl 3 rfl) ?_
          refine lv_iconst (v := (-1)) hx hb dX2_byRule_66 (by decide) ?_
          refine lv_ixor hx hb dX2_byRule_67 ?_
          refine lv_topi (fun x40 ex40 => ?_)
          refine lv_iand hx hb dX2_byRule_68 ?_
          refine lv_topi (fun x41 ex41 => ?_)
          refine lv_ior hx hb dX2_byRule_69 ?_
          refine lv_topi (fun x42 ex42 => ?_)
          refine lv_istore_n (lv' := [(3, .int x42), (0, .ref h0), (1, .int sv), (2, .int dv)]) hx hb dX2_byRule_70 rfl hl (by decide) rfl (fun ls hl => ?_)
          refine lv_iload_n hx hb dX2_byRule_71 rfl (lv_at hl 0 rfl) ?_
          have hB0 : bt ru 0 = false := and2F hq0 (by omega)
          have hB1 : bt ru 1 = true := and2T hq1 (by omega)
          have hB2 : bt ru 2 = true := and2T hq2 (by omega)
          have hB3 : bt ru 3 = true := and2T hq3 (by omega)
          exact W.iret (v := x42) hx hb hr (fun t9 ht9 _ => ⟨x42, rfl, fun j hj => by simp only [ex42, ex41, ex40, ex39, ex36, ex35, ex34, ex25, ex24, ex23, b_or, b_and, b_not hj, b_0, rB, hB0, hB1, hB2, hB3]; cases bt sv j <;> cases bt dv j <;> rfl, ht9⟩) (fun _ h => absurd h List.not_mem_nil) dX2_byRule_72
  · replace c2 := mt (ti_eq rfl (by decide : (0 : Int32).toInt = (0 : Int))).mpr c2
    refine lv_iload_n hx hb dX2_byRule_11 rfl (lv_at hl 0 rfl) ?_
    refine lv_iload_n hx hb dX2_byRule_12 rfl (lv_at hl 2 rfl) ?_
    refine lv_iload_n hx hb dX2_byRule_13 rfl (lv_at hl 3 rfl) ?_
    refine lv_iand hx hb dX2_byRule_14 ?_
    refine lv_topi (fun x43 ex43 => ?_)
    refine lv_ior hx hb dX2_byRule_15 ?_
    refine lv_topi (fun x44 ex44 => ?_)
    refine lv_istore_n (lv' := [(3, .int x44), (0, .ref h0), (1, .int sv), (2, .int dv)]) hx hb dX2_byRule_16 rfl hl (by decide) rfl (fun ls hl => ?_)
    refine lv_aload_n hx hb dX2_byRule_17 rfl (lv_at hl 1 rfl) ?_
    refine va_get (D := (dC, dI)) (ci := 2) (v := .int ru) (C := RX2) (T := TX2) (N := 8) hx hb hts inX2 hown hK hP 0 rfl rfl 7 (by decide) (hts _ k67) (fun _ h9 => h9) rfl dX2_byRule_18 ?_
    refine lv_iconst (v := 2) hx hb dX2_byRule_21 (by decide) ?_
    refine lv_iand hx hb dX2_byRule_22 ?_
    refine lv_topi (fun x45 ex45 => ?_)
    have hq1 := and2k (k := 1) (by decide) b_k2 ex45
    refine lv_if_eq (tgt := 34) hx hb dX2_byRule_23 (by decide) (fun c46 => ?_) (fun c46 => ?_)
    · replace c46 := (ti_eq rfl (by decide : (0 : Int32).toInt = (0 : Int))).mp c46
      refine lv_aload_n hx hb dX2_byRule_34 rfl (lv_at hl 1 rfl) ?_
      refine va_get (D := (dC, dI)) (ci := 2) (v := .int ru) (C := RX2) (T := TX2) (N := 8) hx hb hts inX2 hown hK hP 0 rfl rfl 7 (by decide) (hts _ k67) (fun _ h9 => h9) rfl dX2_byRule_35 ?_
      refine lv_iconst (v := 4) hx hb dX2_byRule_38 (by decide) ?_
      refine lv_iand hx hb dX2_byRule_39 ?_
      refine lv_topi (fun x47 ex47 => ?_)
      have hq2 := and2k (k := 2) (by decide) b_k4 ex47
      refine lv_if_eq (tgt := 51) hx hb dX2_byRule_40 (by decide) (fun c48 => ?_) (fun c48 => ?_)
      · replace c48 := (ti_eq rfl (by decide : (0 : Int32).toInt = (0 : Int))).mp c48
        refine lv_aload_n hx hb dX2_byRule_51 rfl (lv_at hl 1 rfl) ?_
        refine va_get (D := (dC, dI)) (ci := 2) (v := .int ru) (C := RX2) (T := TX2) (N := 8) hx hb hts inX2 hown hK hP 0 rfl rfl 7 (by decide) (hts _ k67) (fun _ h9 => h9) rfl dX2_byRule_52 ?_
        refine lv_bipush (v := (8)) hx hb dX2_byRule_55 (by decide) ?_
        refine lv_iand hx hb dX2_byRule_57 ?_
        refine lv_topi (fun x49 ex49 => ?_)
        have hq3 := and2k (k := 3) (by decide) b_k8 ex49
        refine lv_if_eq (tgt := 71) hx hb dX2_byRule_58 (by decide) (fun c50 => ?_) (fun c50 => ?_)
        · replace c50 := (ti_eq rfl (by decide : (0 : Int32).toInt = (0 : Int))).mp c50
          refine lv_iload_n hx hb dX2_byRule_71 rfl (lv_at hl 0 rfl) ?_
          have hB0 : bt ru 0 = true := and2T hq0 (by omega)
          have hB1 : bt ru 1 = false := and2F hq1 (by omega)
          have hB2 : bt ru 2 = false := and2F hq2 (by omega)
          have hB3 : bt ru 3 = false := and2F hq3 (by omega)
          exact W.iret (v := x44) hx hb hr (fun t9 ht9 _ => ⟨x44, rfl, fun j hj => by simp only [ex44, ex43, b_or, b_and, b_not hj, b_0, rB, hB0, hB1, hB2, hB3]; cases bt sv j <;> cases bt dv j <;> rfl, ht9⟩) (fun _ h => absurd h List.not_mem_nil) dX2_byRule_72
        · replace c50 := mt (ti_eq rfl (by decide : (0 : Int32).toInt = (0 : Int))).mpr c50
          refine lv_iload_n hx hb dX2_byRule_61 rfl (lv_at hl 0 rfl) ?_
          refine lv_iload_n hx hb dX2_byRule_62 rfl (lv_at hl 2 rfl) ?_
          refine lv_iconst (v := (-1)) hx hb dX2_byRule_63 (by decide) ?_
          refine lv_ixor hx hb dX2_byRule_64 ?_
          refine lv_topi (fun x51 ex51 => ?_)
          refine lv_iload_n hx hb dX2_byRule_65 rfl (lv_at hl 3 rfl) ?_
          refine lv_iconst (v := (-1)) hx hb dX2_byRule_66 (by decide) ?_
          refine lv_ixor hx hb dX2_byRule_67 ?_
          refine lv_topi (fun x52 ex52 => ?_)
          refine lv_iand hx hb dX2_byRule_68 ?_
          refine lv_topi (fun x53 ex53 => ?_)
          refine lv_ior hx hb dX2_byRule_69 ?_
          refine lv_topi (fun x54 ex54 => ?_)
          refine lv_istore_n (lv' := [(3, .int x54), (0, .ref h0), (1, .int sv), (2, .int dv)]) hx hb dX2_byRule_70 rfl hl (by decide) rfl (fun ls hl => ?_)
          refine lv_iload_n hx hb dX2_byRule_71 rfl (lv_at hl 0 rfl) ?_
          have hB0 : bt ru 0 = true := and2T hq0 (by omega)
          have hB1 : bt ru 1 = false := and2F hq1 (by omega)
          have hB2 : bt ru 2 = false := and2F hq2 (by omega)
          have hB3 : bt ru 3 = true := and2T hq3 (by omega)
          exact W.iret (v := x54) hx hb hr (fun t9 ht9 _ => ⟨x54, rfl, fun j hj => by simp only [ex54, ex53, ex52, ex51, ex44, ex43, b_or, b_and, b_not hj, b_0, rB, hB0, hB1, hB2, hB3]; cases bt sv j <;> cases bt dv j <;> rfl, ht9⟩) (fun _ h => absurd h List.not_mem_nil) dX2_byRule_72
      · replace c48 := mt (ti_eq rfl (by decide : (0 : Int32).toInt = (0 : Int))).mpr c48
        refine lv_iload_n hx hb dX2_byRule_43 rfl (lv_at hl 0 rfl) ?_
        refine lv_iload_n hx hb dX2_byRule_44 rfl (lv_at hl 2 rfl) ?_
        refine lv_iconst (v := (-1)) hx hb dX2_byRule_45 (by decide) ?_
        refine lv_ixor hx hb dX2_byRule_46 ?_
        refine lv_topi (fun x55 ex55 => ?_)
        refine lv_iload_n hx hb dX2_byRule_47 rfl (lv_at hl 3 rfl) ?_
        refine lv_iand hx hb dX2_byRule_48 ?_
        refine lv_topi (fun x56 ex56 => ?_)
        refine lv_ior hx hb dX2_byRule_49 ?_
        refine lv_topi (fun x57 ex57 => ?_)
        refine lv_istore_n (lv' := [(3, .int x57), (0, .ref h0), (1, .int sv), (2, .int dv)]) hx hb dX2_byRule_50 rfl hl (by decide) rfl (fun ls hl => ?_)
        refine lv_aload_n hx hb dX2_byRule_51 rfl (lv_at hl 1 rfl) ?_
        refine va_get (D := (dC, dI)) (ci := 2) (v := .int ru) (C := RX2) (T := TX2) (N := 8) hx hb hts inX2 hown hK hP 0 rfl rfl 7 (by decide) (hts _ k67) (fun _ h9 => h9) rfl dX2_byRule_52 ?_
        refine lv_bipush (v := (8)) hx hb dX2_byRule_55 (by decide) ?_
        refine lv_iand hx hb dX2_byRule_57 ?_
        refine lv_topi (fun x58 ex58 => ?_)
        have hq3 := and2k (k := 3) (by decide) b_k8 ex58
        refine lv_if_eq (tgt := 71) hx hb dX2_byRule_58 (by decide) (fun c59 => ?_) (fun c59 => ?_)
        · replace c59 := (ti_eq rfl (by decide : (0 : Int32).toInt = (0 : Int))).mp c59
          refine lv_iload_n hx hb dX2_byRule_71 rfl (lv_at hl 0 rfl) ?_
          have hB0 : bt ru 0 = true := and2T hq0 (by omega)
          have hB1 : bt ru 1 = false := and2F hq1 (by omega)
          have hB2 : bt ru 2 = true := and2T hq2 (by omega)
          have hB3 : bt ru 3 = false := and2F hq3 (by omega)
          exact W.iret (v := x57) hx hb hr (fun t9 ht9 _ => ⟨x57, rfl, fun j hj => by simp only [ex57, ex56, ex55, ex44, ex43, b_or, b_and, b_not hj, b_0, rB, hB0, hB1, hB2, hB3]; cases bt sv j <;> cases bt dv j <;> rfl, ht9⟩) (fun _ h => absurd h List.not_mem_nil) dX2_byRule_72
        · replace c59 := mt (ti_eq rfl (by decide : (0 : Int32).toInt = (0 : Int))).mpr c59
          refine lv_iload_n hx hb dX2_byRule_61 rfl (lv_at hl 0 rfl) ?_
          refine lv_iload_n hx hb dX2_byRule_62 rfl (lv_at hl 2 rfl) ?_
          refine lv_iconst (v := (-1)) hx hb dX2_byRule_63 (by decide) ?_
          refine lv_ixor hx hb dX2_byRule_64 ?_
          refine lv_topi (fun x60 ex60 => ?_)
          refine lv_iload_n hx hb dX2_byRule_65 rfl (lv_at hl 3 rfl) ?_
          refine lv_iconst (v := (-1)) hx hb dX2_byRule_66 (by decide) ?_
          refine lv_ixor hx hb dX2_byRule_67 ?_
          refine lv_topi (fun x61 ex61 => ?_)
          refine lv_iand hx hb dX2_byRule_68 ?_
          refine lv_topi (fun x62 ex62 => ?_)
          refine lv_ior hx hb dX2_byRule_69 ?_
          refine lv_topi (fun x63 ex63 => ?_)
          refine lv_istore_n (lv' := [(3, .int x63), (0, .ref h0), (1, .int sv), (2, .int dv)]) hx hb dX2_byRule_70 rfl hl (by decide) rfl (fun ls hl => ?_)
          refine lv_iload_n hx hb dX2_byRule_71 rfl (lv_at hl 0 rfl) ?_
          have hB0 : bt ru 0 = true := and2T hq0 (by omega)
          have hB1 : bt ru 1 = false := and2F hq1 (by omega)
          have hB2 : bt ru 2 = true := and2T hq2 (by omega)
          have hB3 : bt ru 3 = true := and2T hq3 (by omega)
          exact W.iret (v := x63) hx hb hr (fun t9 ht9 _ => ⟨x63, rfl, fun j hj => by simp only [ex63, ex62, ex61, ex60, ex57, ex56, ex55, ex44, ex43, b_or, b_and, b_not hj, b_0, rB, hB0, hB1, hB2, hB3]; cases bt sv j <;> cases bt dv j <;> rfl, ht9⟩) (fun _ h => absurd h List.not_mem_nil) dX2_byRule_72
    · replace c46 := mt (ti_eq rfl (by decide : (0 : Int32).toInt = (0 : Int))).mpr c46
      refine lv_iload_n hx hb dX2_byRule_26 rfl (lv_at hl 0 rfl) ?_
      refine lv_iload_n hx hb dX2_byRule_27 rfl (lv_at hl 2 rfl) ?_
      refine lv_iload_n hx hb dX2_byRule_28 rfl (lv_at hl 3 rfl) ?_
      refine lv_iconst (v := (-1)) hx hb dX2_byRule_29 (by decide) ?_
      refine lv_ixor hx hb dX2_byRule_30 ?_
      refine lv_topi (fun x64 ex64 => ?_)
      refine lv_iand hx hb dX2_byRule_31 ?_
      refine lv_topi (fun x65 ex65 => ?_)
      refine lv_ior hx hb dX2_byRule_32 ?_
      refine lv_topi (fun x66 ex66 => ?_)
      refine lv_istore_n (lv' := [(3, .int x66), (0, .ref h0), (1, .int sv), (2, .int dv)]) hx hb dX2_byRule_33 rfl hl (by decide) rfl (fun ls hl => ?_)
      refine lv_aload_n hx hb dX2_byRule_34 rfl (lv_at hl 1 rfl) ?_
      refine va_get (D := (dC, dI)) (ci := 2) (v := .int ru) (C := RX2) (T := TX2) (N := 8) hx hb hts inX2 hown hK hP 0 rfl rfl 7 (by decide) (hts _ k67) (fun _ h9 => h9) rfl dX2_byRule_35 ?_
      refine lv_iconst (v := 4) hx hb dX2_byRule_38 (by decide) ?_
      refine lv_iand hx hb dX2_byRule_39 ?_
      refine lv_topi (fun x67 ex67 => ?_)
      have hq2 := and2k (k := 2) (by decide) b_k4 ex67
      refine lv_if_eq (tgt := 51) hx hb dX2_byRule_40 (by decide) (fun c68 => ?_) (fun c68 => ?_)
      · replace c68 := (ti_eq rfl (by decide : (0 : Int32).toInt = (0 : Int))).mp c68
        refine lv_aload_n hx hb dX2_byRule_51 rfl (lv_at hl 1 rfl) ?_
        refine va_get (D := (dC, dI)) (ci := 2) (v := .int ru) (C := RX2) (T := TX2) (N := 8) hx hb hts inX2 hown hK hP 0 rfl rfl 7 (by decide) (hts _ k67) (fun _ h9 => h9) rfl dX2_byRule_52 ?_
        refine lv_bipush (v := (8)) hx hb dX2_byRule_55 (by decide) ?_
        refine lv_iand hx hb dX2_byRule_57 ?_
        refine lv_topi (fun x69 ex69 => ?_)
        have hq3 := and2k (k := 3) (by decide) b_k8 ex69
        refine lv_if_eq (tgt := 71) hx hb dX2_byRule_58 (by decide) (fun c70 => ?_) (fun c70 => ?_)
        · replace c70 := (ti_eq rfl (by decide : (0 : Int32).toInt = (0 : Int))).mp c70
          refine lv_iload_n hx hb dX2_byRule_71 rfl (lv_at hl 0 rfl) ?_
          have hB0 : bt ru 0 = true := and2T hq0 (by omega)
          have hB1 : bt ru 1 = true := and2T hq1 (by omega)
          have hB2 : bt ru 2 = false := and2F hq2 (by omega)
          have hB3 : bt ru 3 = false := and2F hq3 (by omega)
          exact W.iret (v := x66) hx hb hr (fun t9 ht9 _ => ⟨x66, rfl, fun j hj => by simp only [ex66, ex65, ex64, ex44, ex43, b_or, b_and, b_not hj, b_0, rB, hB0, hB1, hB2, hB3]; cases bt sv j <;> cases bt dv j <;> rfl, ht9⟩) (fun _ h => absurd h List.not_mem_nil) dX2_byRule_72
        · replace c70 := mt (ti_eq rfl (by decide : (0 : Int32).toInt = (0 : Int))).mpr c70
          refine lv_iload_n hx hb dX2_byRule_61 rfl (lv_at hl 0 rfl) ?_
          refine lv_iload_n hx hb dX2_byRule_62 rfl (lv_at hl 2 rfl) ?_
          refine lv_iconst (v := (-1)) hx hb dX2_byRule_63 (by decide) ?_
          refine lv_ixor hx hb dX2_byRule_64 ?_
          refine lv_topi (fun x71 ex71 => ?_)
          refine lv_iload_n hx hb dX2_byRule_65 rfl (lv_at hl 3 rfl) ?_
          refine lv_iconst (v := (-1)) hx hb dX2_byRule_66 (by decide) ?_
          refine lv_ixor hx hb dX2_byRule_67 ?_
          refine lv_topi (fun x72 ex72 => ?_)
          refine lv_iand hx hb dX2_byRule_68 ?_
          refine lv_topi (fun x73 ex73 => ?_)
          refine lv_ior hx hb dX2_byRule_69 ?_
          refine lv_topi (fun x74 ex74 => ?_)
          refine lv_istore_n (lv' := [(3, .int x74), (0, .ref h0), (1, .int sv), (2, .int dv)]) hx hb dX2_byRule_70 rfl hl (by decide) rfl (fun ls hl => ?_)
          refine lv_iload_n hx hb dX2_byRule_71 rfl (lv_at hl 0 rfl) ?_
          have hB0 : bt ru 0 = true := and2T hq0 (by omega)
          have hB1 : bt ru 1 = true := and2T hq1 (by omega)
          have hB2 : bt ru 2 = false := and2F hq2 (by omega)
          have hB3 : bt ru 3 = true := and2T hq3 (by omega)
          exact W.iret (v := x74) hx hb hr (fun t9 ht9 _ => ⟨x74, rfl, fun j hj => by simp only [ex74, ex73, ex72, ex71, ex66, ex65, ex64, ex44, ex43, b_or, b_and, b_not hj, b_0, rB, hB0, hB1, hB2, hB3]; cases bt sv j <;> cases bt dv j <;> rfl, ht9⟩) (fun _ h => absurd h List.not_mem_nil) dX2_byRule_72
      · replace c68 := mt (ti_eq rfl (by decide : (0 : Int32).toInt = (0 : Int))).mpr c68
        refine lv_iload_n hx hb dX2_byRule_43 rfl (lv_at hl 0 rfl) ?_
        refine lv_iload_n hx hb dX2_byRule_44 rfl (lv_at hl 2 rfl) ?_
        refine lv_iconst (v := (-1)) hx hb dX2_byRule_45 (by decide) ?_
        refine lv_ixor hx hb dX2_byRule_46 ?_
        refine lv_topi (fun x75 ex75 => ?_)
        refine lv_iload_n hx hb dX2_byRule_47 rfl (lv_at hl 3 rfl) ?_
        refine lv_iand hx hb dX2_byRule_48 ?_
        refine lv_topi (fun x76 ex76 => ?_)
        refine lv_ior hx hb dX2_byRule_49 ?_
        refine lv_topi (fun x77 ex77 => ?_)
        refine lv_istore_n (lv' := [(3, .int x77), (0, .ref h0), (1, .int sv), (2, .int dv)]) hx hb dX2_byRule_50 rfl hl (by decide) rfl (fun ls hl => ?_)
        refine lv_aload_n hx hb dX2_byRule_51 rfl (lv_at hl 1 rfl) ?_
        refine va_get (D := (dC, dI)) (ci := 2) (v := .int ru) (C := RX2) (T := TX2) (N := 8) hx hb hts inX2 hown hK hP 0 rfl rfl 7 (by decide) (hts _ k67) (fun _ h9 => h9) rfl dX2_byRule_52 ?_
        refine lv_bipush (v := (8)) hx hb dX2_byRule_55 (by decide) ?_
        refine lv_iand hx hb dX2_byRule_57 ?_
        refine lv_topi (fun x78 ex78 => ?_)
        have hq3 := and2k (k := 3) (by decide) b_k8 ex78
        refine lv_if_eq (tgt := 71) hx hb dX2_byRule_58 (by decide) (fun c79 => ?_) (fun c79 => ?_)
        · replace c79 := (ti_eq rfl (by decide : (0 : Int32).toInt = (0 : Int))).mp c79
          refine lv_iload_n hx hb dX2_byRule_71 rfl (lv_at hl 0 rfl) ?_
          have hB0 : bt ru 0 = true := and2T hq0 (by omega)
          have hB1 : bt ru 1 = true := and2T hq1 (by omega)
          have hB2 : bt ru 2 = true := and2T hq2 (by omega)
          have hB3 : bt ru 3 = false := and2F hq3 (by omega)
          exact W.iret (v := x77) hx hb hr (fun t9 ht9 _ => ⟨x77, rfl, fun j hj => by simp only [ex77, ex76, ex75, ex66, ex65, ex64, ex44, ex43, b_or, b_and, b_not hj, b_0, rB, hB0, hB1, hB2, hB3]; cases bt sv j <;> cases bt dv j <;> rfl, ht9⟩) (fun _ h => absurd h List.not_mem_nil) dX2_byRule_72
        · replace c79 := mt (ti_eq rfl (by decide : (0 : Int32).toInt = (0 : Int))).mpr c79
          refine lv_iload_n hx hb dX2_byRule_61 rfl (lv_at hl 0 rfl) ?_
          refine lv_iload_n hx hb dX2_byRule_62 rfl (lv_at hl 2 rfl) ?_
          refine lv_iconst (v := (-1)) hx hb dX2_byRule_63 (by decide) ?_
          refine lv_ixor hx hb dX2_byRule_64 ?_
          refine lv_topi (fun x80 ex80 => ?_)
          refine lv_iload_n hx hb dX2_byRule_65 rfl (lv_at hl 3 rfl) ?_
          refine lv_iconst (v := (-1)) hx hb dX2_byRule_66 (by decide) ?_
          refine lv_ixor hx hb dX2_byRule_67 ?_
          refine lv_topi (fun x81 ex81 => ?_)
          refine lv_iand hx hb dX2_byRule_68 ?_
          refine lv_topi (fun x82 ex82 => ?_)
          refine lv_ior hx hb dX2_byRule_69 ?_
          refine lv_topi (fun x83 ex83 => ?_)
          refine lv_istore_n (lv' := [(3, .int x83), (0, .ref h0), (1, .int sv), (2, .int dv)]) hx hb dX2_byRule_70 rfl hl (by decide) rfl (fun ls hl => ?_)
          refine lv_iload_n hx hb dX2_byRule_71 rfl (lv_at hl 0 rfl) ?_
          have hB0 : bt ru 0 = true := and2T hq0 (by omega)
          have hB1 : bt ru 1 = true := and2T hq1 (by omega)
          have hB2 : bt ru 2 = true := and2T hq2 (by omega)
          have hB3 : bt ru 3 = true := and2T hq3 (by omega)
          exact W.iret (v := x83) hx hb hr (fun t9 ht9 _ => ⟨x83, rfl, fun j hj => by simp only [ex83, ex82, ex81, ex80, ex77, ex76, ex75, ex66, ex65, ex64, ex44, ex43, b_or, b_and, b_not hj, b_0, rB, hB0, hB1, hB2, hB3]; cases bt sv j <;> cases bt dv j <;> rfl, ht9⟩) (fun _ h => absurd h List.not_mem_nil) dX2_byRule_72
set_option maxHeartbeats 8000000 in
set_option maxRecDepth 100000 in
theorem mX2_incoming (l : Launch) {dC : Nat → ClassId} {dI : Nat → Nat → Nat} {h0 qa qn qx qy : Nat} {cI cF : ClassId} {fa ar ln : Nat → Nat} {wd ht rw : Nat → Int32} {g : Nat → Nat → Int32} {nu : Nat → Int32} {X Y : Int32 × Int32 × Int32} {tg : Nat} {so pa : Option Nat} {ru : Int32} {wN hN : Nat → Nat} {nz : Nat → Int} (k : Int32) (y : Int32) (hR : CS wN hN nz tg so pa ru ln wd ht rw g nu) {kn yn : Nat} (hk : k.toInt = (kn : Int)) (hy : y.toInt = (yn : Int)) (hkb : kn ≤ 4000) (hyb : yn ≤ 4000) (hX : -100000 ≤ X.2.2.toInt ∧ X.2.2.toInt ≤ 100000) (hY : -100000 ≤ Y.2.2.toInt ∧ Y.2.2.toInt ≤ 100000) (hp : ∀ q, pa = some q → wN q = 16 ∧ hN q = 16) : Met l yX2_incoming (wM yX2_incoming cX2_incoming 4 (some .int)) ({ frames := 2, cells := 0, slots := 0, locals := 46 }) (va_Pc [.ref h0, .int k, .int y] (rP (dC, dI) vwCl (tyB cI cF) (w_bc h0 qa qn qx qy cI cF fa ar ln wd ht rw g nu X Y tg so pa ru))) (vp_Si (fun r => ∀ j, j < 16 → bt r j = IB g (rN wN) hN so pa X.2.2.toInt Y.2.2.toInt (16 * kn + 15 - j) yn)) 0 0 (fun _ => False) := by
  refine Met.ofW (cc := cX2_incoming) (maxL := 4) (ret := (some .int)) (by decide +kernel) rfl ?_
  intro p e s m args below meth c s₁ B hml hv
  obtain ⟨rfl, hP, hK, hNS⟩ := hv
  have hx := B.exec
  have hb := B.bytes
  have hr := B.returns
  have hts : ∀ w ∈ tblG, w.before _ s = true := fun w h => atoms_spec (ws := wM yX2_incoming cX2_incoming 4 (some .int)) B.pre w (List.mem_cons_of_mem _ h)
  have hown : s.vm.findClass RX2 = some m.cls := findClass_of_methodNamed B.named
  have hlocks := B.notSynchronized
  have hl := lv_entry ([.ref h0, .int k, .int y]) (n := 4) (Nat.le_of_ble_eq_true rfl)
  rw [lg_entry_eq]
  generalize (lg_sl ([.ref h0, .int k, .int y]) ++ List.replicate (4 - (lg_sl ([.ref h0, .int k, .int y])).length) Slot.unset).toArray = ls at hl ⊢
  have hl : lv_has ls 4 [(0, .ref h0), (1, .int k), (2, .int y)] := hl
  obtain ⟨hF, hnu, htg, hso, hpa, hr1, hr2⟩ := id hR
  rcases so with _ | sv
  · rcases pa with _ | pv
    · have hsk : True := trivial
      refine lv_ldc (own := RX2) (v := (65535)) hx hb hown (hts _ k134) dX2_incoming_0 ?_
      refine lv_istore_n (lv' := [(3, .int (65535 : Int32)), (0, .ref h0), (1, .int k), (2, .int y)]) hx hb dX2_incoming_2 rfl hl (by decide) rfl (fun ls hl => ?_)
      refine lv_aload_n hx hb dX2_incoming_3 rfl (lv_at hl 1 rfl) ?_
      refine va_get (D := (dC, dI)) (ci := 2) (v := .null) (C := RX2) (T := TX2) (N := 8) hx hb hts inX2 hown hK hP 0 rfl rfl 5 (by decide) (hts _ k65) (fun _ h9 => h9) rfl dX2_incoming_4 ?_
      refine lv_ifnullN (tgt := 39) hx hb dX2_incoming_7 (by decide) ?_
      obtain ⟨c65, ec65⟩ : ∃ z : Int32, z = (65535 : Int32) := ⟨_, rfl⟩
      refine lv_aload_n hx hb dX2_incoming_39 rfl (lv_at hl 1 rfl) ?_
      refine va_get (D := (dC, dI)) (ci := 2) (v := .null) (C := RX2) (T := TX2) (N := 8) hx hb hts inX2 hown hK hP 0 rfl rfl 6 (by decide) (hts _ k66) (fun _ h9 => h9) rfl dX2_incoming_40 ?_
      refine lv_ifnullN (tgt := 61) hx hb dX2_incoming_43 (by decide) ?_
      refine lv_iload_n hx hb dX2_incoming_61 rfl (lv_at hl 0 rfl) ?_
      refine lv_topi (fun r1 er1 => ?_)
      have hr1 : r1.toInt = (65535 : Int) := by rw [er1]; exact (by decide : (65535 : Int32).toInt = (65535 : Int))
      have hsrc : ∀ j, j < 16 → bt (65535 : Int32) j = (match (none : Option Nat) with | none => true | some s => SB (g s) (rN wN s) (hN s) (((16 * kn + 15 - j : Nat) : Int) + X.2.2.toInt) ((yn : Int) + Y.2.2.toInt)) := by
        intro j hj
        rw [show (65535 : Int32) = (65535 : Int32) from rfl, b_65535, decide_eq_true hj]
      exact W.iret (v := r1) hx hb hr (fun t9 ht9 _ => ⟨r1, rfl, fun j hj => by unfold IB; rw [Bool.and_true, er1]; exact hsrc j hj, ht9⟩) (fun _ h => absurd h List.not_mem_nil) dX2_incoming_62
    · have h4p := hpa pv rfl
      obtain ⟨fw_pv, fh_pv, fr_pv, f1_pv, f2_pv, f3_pv, f4_pv, f5_pv, f6_pv, f7_pv, fB_pv⟩ := hF pv h4p
      have frd_pv : rN wN pv = (wN pv + 15) / 16 := rfl
      have hp16 := hp pv rfl
      have hsk : True := trivial
      refine lv_ldc (own := RX2) (v := (65535)) hx hb hown (hts _ k134) dX2_incoming_0 ?_
      refine lv_istore_n (lv' := [(3, .int (65535 : Int32)), (0, .ref h0), (1, .int k), (2, .int y)]) hx hb dX2_incoming_2 rfl hl (by decide) rfl (fun ls hl => ?_)
      refine lv_aload_n hx hb dX2_incoming_3 rfl (lv_at hl 1 rfl) ?_
      refine va_get (D := (dC, dI)) (ci := 2) (v := .null) (C := RX2) (T := TX2) (N := 8) hx hb hts inX2 hown hK hP 0 rfl rfl 5 (by decide) (hts _ k65) (fun _ h9 => h9) rfl dX2_incoming_4 ?_
      refine lv_ifnullN (tgt := 39) hx hb dX2_incoming_7 (by decide) ?_
      obtain ⟨c65, ec65⟩ : ∃ z : Int32, z = (65535 : Int32) := ⟨_, rfl⟩
      refine lv_aload_n hx hb dX2_incoming_39 rfl (lv_at hl 1 rfl) ?_
      refine va_get (D := (dC, dI)) (ci := 2) (v := .ref (fa pv)) (C := RX2) (T := TX2) (N := 8) hx hb hts inX2 hown hK hP 0 rfl rfl 6 (by decide) (hts _ k66) (fun _ h9 => h9) rfl dX2_incoming_40 ?_
      refine lv_ifnull hx hb dX2_incoming_43 ?_
      refine lv_iload_n hx hb dX2_incoming_46 rfl (lv_at hl 0 rfl) ?_
      refine lv_aload_n hx hb dX2_incoming_47 rfl (lv_at hl 1 rfl) ?_
      refine va_get (D := (dC, dI)) (ci := 2) (v := .ref (fa pv)) (C := RX2) (T := TX2) (N := 8) hx hb hts inX2 hown hK hP 0 rfl rfl 6 (by decide) (hts _ k66) (fun _ h9 => h9) rfl dX2_incoming_48 ?_
      refine va_getN (D := (dC, dI)) (ci := 0) (v := .ref (ar pv)) (C := RX0) (T := TX0) (N := 4) hx hb hts inX0 hown hK hP (5 + pv) (wb_o h4p) rfl 3 (by decide) (va_Nw.use rfl (hNS.2.2.2.1)) (fun _ h9 => h9) rfl dX2_incoming_51 ?_
      refine lv_iload_n hx hb dX2_incoming_54 rfl (lv_at hl 3 rfl) ?_
      refine lv_bipush (v := (16)) hx hb dX2_incoming_55 (by decide) ?_
      refine lv_irem hx hb dX2_incoming_57 (by decide) ?_
      refine lv_topi (fun x2 ex2 => ?_)
      have hx2 : x2.toInt = y.toInt % (16 : Int) := by rw [ex2]; exact ti_rem rfl (by decide : (16 : Int32).toInt = (16 : Int)) (by omega) (by omega)
      have hix : x2.toInt = ((yn % 16 : Nat) : Int) := by omega
      refine iaK hx hb hK hP (9 + pv) 0 (wb_a h4p) rfl (yn % 16) (hix) (by omega) dX2_incoming_58 ?_
      refine lv_topi (fun x3 ex3 => ?_)
      refine lv_iand hx hb dX2_incoming_59 ?_
      refine lv_topi (fun x4 ex4 => ?_)
      refine lv_istore_n (lv' := [(3, .int x4), (0, .ref h0), (1, .int k), (2, .int y)]) hx hb dX2_incoming_60 rfl hl (by decide) rfl (fun ls hl => ?_)
      refine lv_iload_n hx hb dX2_incoming_61 rfl (lv_at hl 0 rfl) ?_
      have hsrc : ∀ j, j < 16 → bt (65535 : Int32) j = (match (none : Option Nat) with | none => true | some s => SB (g s) (rN wN s) (hN s) (((16 * kn + 15 - j : Nat) : Int) + X.2.2.toInt) ((yn : Int) + Y.2.2.toInt)) := by
        intro j hj
        rw [show (65535 : Int32) = (65535 : Int32) from rfl, b_65535, decide_eq_true hj]
      exact W.iret (v := x4) hx hb hr (fun t9 ht9 _ => ⟨x4, rfl, fun j hj => by unfold IB; rw [ex4, b_and, hsrc j hj, ex3]; congr 1; exact pat_bt hj, ht9⟩) (fun _ h => absurd h List.not_mem_nil) dX2_incoming_62
  · have h4s := hso sv rfl
    rcases pa with _ | pv
    · obtain ⟨fw_sv, fh_sv, fr_sv, f1_sv, f2_sv, f3_sv, f4_sv, f5_sv, f6_sv, f7_sv, fB_sv⟩ := hF sv h4s
      have frd_sv : rN wN sv = (wN sv + 15) / 16 := rfl
      have hsk : True := trivial
      refine lv_ldc (own := RX2) (v := (65535)) hx hb hown (hts _ k134) dX2_incoming_0 ?_
      refine lv_istore_n (lv' := [(3, .int (65535 : Int32)), (0, .ref h0), (1, .int k), (2, .int y)]) hx hb dX2_incoming_2 rfl hl (by decide) rfl (fun ls hl => ?_)
      refine lv_aload_n hx hb dX2_incoming_3 rfl (lv_at hl 1 rfl) ?_
      refine va_get (D := (dC, dI)) (ci := 2) (v := .ref (fa sv)) (C := RX2) (T := TX2) (N := 8) hx hb hts inX2 hown hK hP 0 rfl rfl 5 (by decide) (hts _ k65) (fun _ h9 => h9) rfl dX2_incoming_4 ?_
      refine lv_ifnull hx hb dX2_incoming_7 ?_
      refine lv_aload_n hx hb dX2_incoming_10 rfl (lv_at hl 1 rfl) ?_
      refine va_get (D := (dC, dI)) (ci := 2) (v := .ref (fa sv)) (C := RX2) (T := TX2) (N := 8) hx hb hts inX2 hown hK hP 0 rfl rfl 5 (by decide) (hts _ k65) (fun _ h9 => h9) rfl dX2_incoming_11 ?_
      refine lv_iload_n hx hb dX2_incoming_14 rfl (lv_at hl 2 rfl) ?_
      refine lv_bipush (v := (16)) hx hb dX2_incoming_15 (by decide) ?_
      refine lv_imul hx hb dX2_incoming_17 ?_
      refine lv_topi (fun x5 ex5 => ?_)
      have hx5 : x5.toInt = k.toInt * (16 : Int) := by rw [ex5]; exact ti_mul rfl (by decide : (16 : Int32).toInt = (16 : Int)) (by omega) (by omega)
      refine lv_aload_n hx hb dX2_incoming_18 rfl (lv_at hl 1 rfl) ?_
      refine va_get (D := (dC, dI)) (ci := 2) (v := .ref qx) (C := RX2) (T := TX2) (N := 8) hx hb hts inX2 hown hK hP 0 rfl rfl 2 (by decide) (hts _ k62) (fun _ h9 => h9) rfl dX2_incoming_19 ?_
      refine va_getN (D := (dC, dI)) (ci := 1) (v := .int X.2.2) (C := RX1) (T := TX1) (N := 3) hx hb hts inX1 hown hK hP 3 rfl rfl 2 (by decide) (va_Nw.use rfl (hNS.2.2.2.2.2.2.2.1)) (fun _ h9 => h9) rfl dX2_incoming_22 ?_
      refine lv_iadd hx hb dX2_incoming_25 ?_
      refine lv_topi (fun x6 ex6 => ?_)
      have hx6 : x6.toInt = x5.toInt + X.2.2.toInt := by rw [ex6]; exact ti_add rfl rfl (by omega) (by omega)
      refine lv_iload_n hx hb dX2_incoming_26 rfl (lv_at hl 3 rfl) ?_
      refine lv_aload_n hx hb dX2_incoming_27 rfl (lv_at hl 1 rfl) ?_
      refine va_get (D := (dC, dI)) (ci := 2) (v := .ref qy) (C := RX2) (T := TX2) (N := 8) hx hb hts inX2 hown hK hP 0 rfl rfl 3 (by decide) (hts _ k63) (fun _ h9 => h9) rfl dX2_incoming_28 ?_
      refine va_getN (D := (dC, dI)) (ci := 1) (v := .int Y.2.2) (C := RX1) (T := TX1) (N := 3) hx hb hts inX1 hown hK hP 4 rfl rfl 2 (by decide) (va_Nw.use rfl (hNS.2.2.2.2.2.2.2.1)) (fun _ h9 => h9) rfl dX2_incoming_31 ?_
      refine lv_iadd hx hb dX2_incoming_34 ?_
      refine lv_topi (fun x7 ex7 => ?_)
      have hx7 : x7.toInt = y.toInt + Y.2.2.toInt := by rw [ex7]; exact ti_add rfl rfl (by omega) (by omega)
      refine vp_callSi (va_Run.run (va_runV (As := [.int x6, .int x7]) (rest := []) ⟨hx, hb, hml, hown, hts⟩ (mX0_bitsFrom l x6 x7 (wb_o h4s) (wb_a h4s) fw_sv fh_sv fr_sv f7_sv (by omega) f3_sv fB_sv (by omega)) (cwV 2 hts (gA (m4 k244 k245 k246 k2) k247) rfl rfl rfl (by decide +kernel) ⟨Nat.le_of_ble_eq_true rfl, Nat.le_of_ble_eq_true rfl⟩) (prRV hP hK hNS rfl (wb_o h4s)) rfl rfl hl.1 rfl (lv_room (Nat.le_of_ble_eq_true rfl)) dX2_incoming_35 ⟨Nat.le_of_ble_eq_true rfl, Nat.le_of_ble_eq_true rfl⟩)) (fun r8 hwr8 => ?_)
      try dsimp only at hwr8
      refine lv_istore_n (lv' := [(3, .int r8), (0, .ref h0), (1, .int k), (2, .int y)]) hx hb dX2_incoming_38 rfl hl (by decide) rfl (fun ls hl => ?_)
      refine lv_aload_n hx hb dX2_incoming_39 rfl (lv_at hl 1 rfl) ?_
      refine va_get (D := (dC, dI)) (ci := 2) (v := .null) (C := RX2) (T := TX2) (N := 8) hx hb hts inX2 hown hK hP 0 rfl rfl 6 (by decide) (hts _ k66) (fun _ h9 => h9) rfl dX2_incoming_40 ?_
      refine lv_ifnullN (tgt := 61) hx hb dX2_incoming_43 (by decide) ?_
      refine lv_iload_n hx hb dX2_incoming_61 rfl (lv_at hl 0 rfl) ?_
      have hsrc : ∀ j, j < 16 → bt r8 j = (match ((some sv) : Option Nat) with | none => true | some s => SB (g s) (rN wN s) (hN s) (((16 * kn + 15 - j : Nat) : Int) + X.2.2.toInt) ((yn : Int) + Y.2.2.toInt)) := by
        intro j hj
        rw [hwr8 j, decide_eq_true hj, Bool.true_and]
        show SB (g sv) _ _ _ _ = SB (g sv) _ _ _ _
        congr 1 <;> omega
      exact W.iret (v := r8) hx hb hr (fun t9 ht9 _ => ⟨r8, rfl, fun j hj => by unfold IB; rw [Bool.and_true]; exact hsrc j hj, ht9⟩) (fun _ h => absurd h List.not_mem_nil) dX2_incoming_62
    · have h4p := hpa pv rfl
      obtain ⟨fw_pv, fh_pv, fr_pv, f1_pv, f2_pv, f3_pv, f4_pv, f5_pv, f6_pv, f7_pv, fB_pv⟩ := hF pv h4p
      have frd_pv : rN wN pv = (wN pv + 15) / 16 := rfl
      have hp16 := hp pv rfl
      obtain ⟨fw_sv, fh_sv, fr_sv, f1_sv, f2_sv, f3_sv, f4_sv, f5_sv, f6_sv, f7_sv, fB_sv⟩ := hF sv h4s
      have frd_sv : rN wN sv = (wN sv + 15) / 16 := rfl
      have hsk : True := trivial
      refine lv_ldc (own := RX2) (v := (65535)) hx hb hown (hts _ k134) dX2_incoming_0 ?_
      refine lv_istore_n (lv' := [(3, .int (65535 : Int32)), (0, .ref h0), (1, .int k), (2, .int y)]) hx hb dX2_incoming_2 rfl hl (by decide) rfl (fun ls hl => ?_)
      refine lv_aload_n hx hb dX2_incoming_3 rfl (lv_at hl 1 rfl) ?_
      refine va_get (D := (dC, dI)) (ci := 2) (v := .ref (fa sv)) (C := RX2) (T := TX2) (N := 8) hx hb hts inX2 hown hK hP 0 rfl rfl 5 (by decide) (hts _ k65) (fun _ h9 => h9) rfl dX2_incoming_4 ?_
      refine lv_ifnull hx hb dX2_incoming_7 ?_
      refine lv_aload_n hx hb dX2_incoming_10 rfl (lv_at hl 1 rfl) ?_
      refine va_get (D := (dC, dI)) (ci := 2) (v := .ref (fa sv)) (C := RX2) (T := TX2) (N := 8) hx hb hts inX2 hown hK hP 0 rfl rfl 5 (by decide) (hts _ k65) (fun _ h9 => h9) rfl dX2_incoming_11 ?_
      refine lv_iload_n hx hb dX2_incoming_14 rfl (lv_at hl 2 rfl) ?_
      refine lv_bipush (v := (16)) hx hb dX2_incoming_15 (by decide) ?_
      refine lv_imul hx hb dX2_incoming_17 ?_
      refine lv_topi (fun x9 ex9 => ?_)
      have hx9 : x9.toInt = k.toInt * (16 : Int) := by rw [ex9]; exact ti_mul rfl (by decide : (16 : Int32).toInt = (16 : Int)) (by omega) (by omega)
      refine lv_aload_n hx hb dX2_incoming_18 rfl (lv_at hl 1 rfl) ?_
      refine va_get (D := (dC, dI)) (ci := 2) (v := .ref qx) (C := RX2) (T := TX2) (N := 8) hx hb hts inX2 hown hK hP 0 rfl rfl 2 (by decide) (hts _ k62) (fun _ h9 => h9) rfl dX2_incoming_19 ?_
      refine va_getN (D := (dC, dI)) (ci := 1) (v := .int X.2.2) (C := RX1) (T := TX1) (N := 3) hx hb hts inX1 hown hK hP 3 rfl rfl 2 (by decide) (va_Nw.use rfl (hNS.2.2.2.2.2.2.2.1)) (fun _ h9 => h9) rfl dX2_incoming_22 ?_
      refine lv_iadd hx hb dX2_incoming_25 ?_
      refine lv_topi (fun x10 ex10 => ?_)
      have hx10 : x10.toInt = x9.toInt + X.2.2.toInt := by rw [ex10]; exact ti_add rfl rfl (by omega) (by omega)
      refine lv_iload_n hx hb dX2_incoming_26 rfl (lv_at hl 3 rfl) ?_
      refine lv_aload_n hx hb dX2_incoming_27 rfl (lv_at hl 1 rfl) ?_
      refine va_get (D := (dC, dI)) (ci := 2) (v := .ref qy) (C := RX2) (T := TX2) (N := 8) hx hb hts inX2 hown hK hP 0 rfl rfl 3 (by decide) (hts _ k63) (fun _ h9 => h9) rfl dX2_incoming_28 ?_
      refine va_getN (D := (dC, dI)) (ci := 1) (v := .int Y.2.2) (C := RX1) (T := TX1) (N := 3) hx hb hts inX1 hown hK hP 4 rfl rfl 2 (by decide) (va_Nw.use rfl (hNS.2.2.2.2.2.2.2.1)) (fun _ h9 => h9) rfl dX2_incoming_31 ?_
      refine lv_iadd hx hb dX2_incoming_34 ?_
      refine lv_topi (fun x11 ex11 => ?_)
      have hx11 : x11.toInt = y.toInt + Y.2.2.toInt := by rw [ex11]; exact ti_add rfl rfl (by omega) (by omega)
      refine vp_callSi (va_Run.run (va_runV (As := [.int x10, .int x11]) (rest := []) ⟨hx, hb, hml, hown, hts⟩ (mX0_bitsFrom l x10 x11 (wb_o h4s) (wb_a h4s) fw_sv fh_sv fr_sv f7_sv (by omega) f3_sv fB_sv (by omega)) (cwV 2 hts (gA (m4 k244 k245 k246 k2) k247) rfl rfl rfl (by decide +kernel) ⟨Nat.le_of_ble_eq_true rfl, Nat.le_of_ble_eq_true rfl⟩) (prRV hP hK hNS rfl (wb_o h4s)) rfl rfl hl.1 rfl (lv_room (Nat.le_of_ble_eq_true rfl)) dX2_incoming_35 ⟨Nat.le_of_ble_eq_true rfl, Nat.le_of_ble_eq_true rfl⟩)) (fun r12 hwr12 => ?_)
      try dsimp only at hwr12
      refine lv_istore_n (lv' := [(3, .int r12), (0, .ref h0), (1, .int k), (2, .int y)]) hx hb dX2_incoming_38 rfl hl (by decide) rfl (fun ls hl => ?_)
      refine lv_aload_n hx hb dX2_incoming_39 rfl (lv_at hl 1 rfl) ?_
      refine va_get (D := (dC, dI)) (ci := 2) (v := .ref (fa pv)) (C := RX2) (T := TX2) (N := 8) hx hb hts inX2 hown hK hP 0 rfl rfl 6 (by decide) (hts _ k66) (fun _ h9 => h9) rfl dX2_incoming_40 ?_
      refine lv_ifnull hx hb dX2_incoming_43 ?_
      refine lv_iload_n hx hb dX2_incoming_46 rfl (lv_at hl 0 rfl) ?_
      refine lv_aload_n hx hb dX2_incoming_47 rfl (lv_at hl 1 rfl) ?_
      refine va_get (D := (dC, dI)) (ci := 2) (v := .ref (fa pv)) (C := RX2) (T := TX2) (N := 8) hx hb hts inX2 hown hK hP 0 rfl rfl 6 (by decide) (hts _ k66) (fun _ h9 => h9) rfl dX2_incoming_48 ?_
      refine va_getN (D := (dC, dI)) (ci := 0) (v := .ref (ar pv)) (C := RX0) (T := TX0) (N := 4) hx hb hts inX0 hown hK hP (5 + pv) (wb_o h4p) rfl 3 (by decide) (va_Nw.use rfl (hNS.2.2.2.1)) (fun _ h9 => h9) rfl dX2_incoming_51 ?_
      refine lv_iload_n hx hb dX2_incoming_54 rfl (lv_at hl 3 rfl) ?_
      refine lv_bipush (v := (16)) hx hb dX2_incoming_55 (by decide) ?_
      refine lv_irem hx hb dX2_incoming_57 (by decide) ?_
      refine lv_topi (fun x13 ex13 => ?_)
      have hx13 : x13.toInt = y.toInt % (16 : Int) := by rw [ex13]; exact ti_rem rfl (by decide : (16 : Int32).toInt = (16 : Int)) (by omega) (by omega)
      have hix : x13.toInt = ((yn % 16 : Nat) : Int) := by omega
      refine iaK hx hb hK hP (9 + pv) 0 (wb_a h4p) rfl (yn % 16) (hix) (by omega) dX2_incoming_58 ?_
      refine lv_topi (fun x14 ex14 => ?_)
      refine lv_iand hx hb dX2_incoming_59 ?_
      refine lv_topi (fun x15 ex15 => ?_)
      refine lv_istore_n (lv' := [(3, .int x15), (0, .ref h0), (1, .int k), (2, .int y)]) hx hb dX2_incoming_60 rfl hl (by decide) rfl (fun ls hl => ?_)
      refine lv_iload_n hx hb dX2_incoming_61 rfl (lv_at hl 0 rfl) ?_
      have hsrc : ∀ j, j < 16 → bt r12 j = (match ((some sv) : Option Nat) with | none => true | some s => SB (g s) (rN wN s) (hN s) (((16 * kn + 15 - j : Nat) : Int) + X.2.2.toInt) ((yn : Int) + Y.2.2.toInt)) := by
        intro j hj
        rw [hwr12 j, decide_eq_true hj, Bool.true_and]
        show SB (g sv) _ _ _ _ = SB (g sv) _ _ _ _
        congr 1 <;> omega
      exact W.iret (v := x15) hx hb hr (fun t9 ht9 _ => ⟨x15, rfl, fun j hj => by unfold IB; rw [ex15, b_and, hsrc j hj, ex14]; congr 1; exact pat_bt hj, ht9⟩) (fun _ h => absurd h List.not_mem_nil) dX2_incoming_62
