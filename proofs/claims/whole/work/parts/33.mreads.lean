set_option maxHeartbeats 8000000 in
set_option maxRecDepth 100000 in
theorem mX3_bitAt (l : Launch) {dC : Nat → ClassId} {dI : Nat → Nat → Nat} {m0 a1 a2 a3 a4 a5 a6 : Nat} {cI : ClassId} {wd ht ws bf mk nu : Nat → Int32} {tg so pa ru : Int32} {wN hN : Nat → Nat} {Bt : Nat → Nat → Nat → Bool} {nz : Nat → Int} {tn : Nat} {sn pn : Option Nat} {rA : Int32} (f : Int32) (x : Int32) (y : Int32) (hM : RM wN hN Bt nz tn sn pn rA wd ht ws nu tg so pa ru) {t : Nat} (et : f.toInt = (t : Int)) (h4t : t < 4) {X Y : Nat} (ex : x.toInt = (X : Int)) (ey : y.toInt = (Y : Int)) (hX : X < wN t) (hY : Y < hN t) : Met l yX3_bitAt (wM yX3_bitAt cX3_bitAt 4 (some .int)) ({ frames := 1, cells := 0, slots := 0, locals := 21 }) (va_Pc [.ref m0, .int f, .int x, .int y] (rP (dC, dI) vwCl (tyM cI) (w_md m0 a1 a2 a3 a4 a5 a6 cI wd ht ws bf mk nu tg so pa ru))) (vp_Si (fun r => r.toInt = (b1 (BV (mw ws t) (rN wN t) X Y) : Int))) 0 0 (fun _ => False) := by
  refine Met.ofW (cc := cX3_bitAt) (maxL := 4) (ret := (some .int)) (by decide +kernel) rfl ?_
  intro p e s m args below meth c s₁ B hml hv
  obtain ⟨rfl, hP, hK, hNS⟩ := hv
  have hx := B.exec
  have hb := B.bytes
  have hr := B.returns
  have hts : ∀ w ∈ tblG, w.before _ s = true := fun w h => atoms_spec (ws := wM yX3_bitAt cX3_bitAt 4 (some .int)) B.pre w (List.mem_cons_of_mem _ h)
  have hown : s.vm.findClass RX3 = some m.cls := findClass_of_methodNamed B.named
  have hlocks := B.notSynchronized
  have hl := lv_entry ([.ref m0, .int f, .int x, .int y]) (n := 4) (Nat.le_of_ble_eq_true rfl)
  rw [lg_entry_eq]
  generalize (lg_sl ([.ref m0, .int f, .int x, .int y]) ++ List.replicate (4 - (lg_sl ([.ref m0, .int f, .int x, .int y])).length) Slot.unset).toArray = ls at hl ⊢
  have hl : lv_has ls 4 [(0, .ref m0), (1, .int f), (2, .int x), (3, .int y)] := hl
  obtain ⟨hF, hnu, htg, htn, hso, hsn, hpa, hpn, hru, hr1, hr2⟩ := id hM
  have hso4 := oz_lo hsn
  have hpa4 := oz_lo hpn
  obtain ⟨fw_t, fh_t, f1_t, f2_t, f3_t, f6_t, f7_t, fB_t⟩ := hF t h4t
  have frd_t : rN wN t = (wN t + 15) / 16 := rfl
  refine lv_aload_n hx hb dX3_bitAt_0 rfl (lv_at hl 0 rfl) ?_
  refine va_get (D := (dC, dI)) (ci := 3) (v := .ref a3) (C := RX3) (T := TX3) (N := 10) hx hb hts inX3 hown hK hP 0 rfl rfl 2 (by decide) (hts _ k292) (fun _ h9 => h9) rfl dX3_bitAt_1 ?_
  refine lv_sipush (v := (4000)) hx hb dX3_bitAt_4 (by decide) ?_
  refine lv_iload_n hx hb dX3_bitAt_7 rfl (lv_at hl 1 rfl) ?_
  refine lv_imul hx hb dX3_bitAt_8 ?_
  refine lv_topi (fun x1 ex1 => ?_)
  have hx1 : x1.toInt = (4000 : Int) * f.toInt := by rw [ex1]; exact ti_mul (by decide : (4000 : Int32).toInt = (4000 : Int)) rfl (by omega) (by omega)
  refine lv_aload_n hx hb dX3_bitAt_9 rfl (lv_at hl 0 rfl) ?_
  refine lv_iload_n hx hb dX3_bitAt_10 rfl (lv_at hl 1 rfl) ?_
  refine vp_callSi (va_Run.run (va_runV (As := [.int f]) (rest := [.int x1, .ref a3]) ⟨hx, hb, hml, hown, hts⟩ (mX3_perRow l f hM et h4t) (cwV 1 hts (gA (m4 k331 k333 ksel9 k4) k334) rfl rfl rfl (by decide +kernel) ⟨Nat.le_of_ble_eq_true rfl, Nat.le_of_ble_eq_true rfl⟩) (prRV hP hK hNS rfl (show (w_md m0 a1 a2 a3 a4 a5 a6 cI wd ht ws bf mk nu tg so pa ru)[0]? = some (m0, .inr (3, [.ref a1, .ref a2, .ref a3, .ref a4, .ref a5, .int tg, .int so, .int pa, .int ru, .ref a6])) from rfl)) rfl rfl hl.1 rfl (lv_room (Nat.le_of_ble_eq_true rfl)) dX3_bitAt_11 ⟨Nat.le_of_ble_eq_true rfl, Nat.le_of_ble_eq_true rfl⟩)) (fun r2 hwr2 => ?_)
  try dsimp only at hwr2
  refine lv_iload_n hx hb dX3_bitAt_14 rfl (lv_at hl 3 rfl) ?_
  have hcm := rc_comm hwr2 ey
  have hrcl := rc_lt (rw := rN wN t) (y := Y) (k := X / 16) (ht := hN t) (by omega) (by omega)
  refine lv_imul hx hb dX3_bitAt_15 ?_
  refine lv_topi (fun x3 ex3 => ?_)
  have hx3 : x3.toInt = r2.toInt * y.toInt := by rw [ex3]; exact ti_mul rfl rfl (by omega) (by omega)
  refine lv_iadd hx hb dX3_bitAt_16 ?_
  refine lv_topi (fun x4 ex4 => ?_)
  have hx4 : x4.toInt = x1.toInt + x3.toInt := by rw [ex4]; exact ti_add rfl rfl (by omega) (by omega)
  refine lv_iload_n hx hb dX3_bitAt_17 rfl (lv_at hl 2 rfl) ?_
  refine lv_bipush (v := (16)) hx hb dX3_bitAt_18 (by decide) ?_
  refine lv_idiv hx hb dX3_bitAt_20 (by decide) ?_
  refine lv_topi (fun x5 ex5 => ?_)
  have hx5 : x5.toInt = x.toInt / (16 : Int) := by rw [ex5]; exact ti_div rfl (by decide : (16 : Int32).toInt = (16 : Int)) (by omega) (by omega)
  refine lv_iadd hx hb dX3_bitAt_21 ?_
  refine lv_topi (fun x6 ex6 => ?_)
  have hx6 : x6.toInt = x4.toInt + x5.toInt := by rw [ex6]; exact ti_add rfl rfl (by omega) (by omega)
  refine iaK hx hb hK hP 3 0 rfl rfl (4000 * t + (Y * rN wN t + X / 16)) (by omega) (by omega) dX3_bitAt_22 ?_
  refine lv_topi (fun x7 ex7 => ?_)
  refine lv_bipush (v := (15)) hx hb dX3_bitAt_23 (by decide) ?_
  refine lv_iload_n hx hb dX3_bitAt_25 rfl (lv_at hl 2 rfl) ?_
  refine lv_bipush (v := (16)) hx hb dX3_bitAt_26 (by decide) ?_
  refine lv_irem hx hb dX3_bitAt_28 (by decide) ?_
  refine lv_topi (fun x8 ex8 => ?_)
  have hx8 : x8.toInt = x.toInt % (16 : Int) := by rw [ex8]; exact ti_rem rfl (by decide : (16 : Int32).toInt = (16 : Int)) (by omega) (by omega)
  refine lv_isub hx hb dX3_bitAt_29 ?_
  refine lv_topi (fun x9 ex9 => ?_)
  have hx9 : x9.toInt = (15 : Int) - x8.toInt := by rw [ex9]; exact ti_sub (by decide : (15 : Int32).toInt = (15 : Int)) rfl (by omega) (by omega)
  refine lv_ishr hx hb dX3_bitAt_30 ?_
  refine lv_topi (fun x10 ex10 => ?_)
  refine lv_iconst (v := 1) hx hb dX3_bitAt_31 (by decide) ?_
  refine lv_iand hx hb dX3_bitAt_32 ?_
  refine lv_topi (fun x11 ex11 => ?_)
  exact W.iret (v := x11) hx hb hr (fun t9 ht9 _ => ⟨x11, rfl, bitM_post (g := mw ws t) ex7 (by omega) ex10 ex11, ht9⟩) (fun _ h => absurd h List.not_mem_nil) dX3_bitAt_33
set_option maxHeartbeats 8000000 in
set_option maxRecDepth 100000 in
theorem mX3_word (l : Launch) {dC : Nat → ClassId} {dI : Nat → Nat → Nat} {m0 a1 a2 a3 a4 a5 a6 : Nat} {cI : ClassId} {wd ht ws bf mk nu : Nat → Int32} {tg so pa ru : Int32} {wN hN : Nat → Nat} {Bt : Nat → Nat → Nat → Bool} {nz : Nat → Int} {tn : Nat} {sn pn : Option Nat} {rA : Int32} (f : Int32) (i : Int32) (hM : RM wN hN Bt nz tn sn pn rA wd ht ws nu tg so pa ru) : Met l yX3_word (wM yX3_word cX3_word 3 (some .int)) ({ frames := 2, cells := 0, slots := 0, locals := 43 }) (va_Pc [.ref m0, .int f, .int i] (rP (dC, dI) vwCl (tyM cI) (w_md m0 a1 a2 a3 a4 a5 a6 cI wd ht ws bf mk nu tg so pa ru))) (vp_Si (fun r => (r.toInt = -1 ∧ ((f.toInt < 0 ∨ 4 ≤ f.toInt) ∨ ∃ t : Nat, f.toInt = (t : Int) ∧ t < 4 ∧ (i.toInt < 0 ∨ ((rN wN t * hN t : Nat) : Int) ≤ i.toInt))) ∨ (∃ t : Nat, f.toInt = (t : Int) ∧ t < 4 ∧ 0 ≤ i.toInt ∧ i.toInt < ((rN wN t * hN t : Nat) : Int) ∧ r = mw ws t i.toInt.toNat))) 0 0 (fun _ => False) := by
  refine Met.ofW (cc := cX3_word) (maxL := 3) (ret := (some .int)) (by decide +kernel) rfl ?_
  intro p e s m args below meth c s₁ B hml hv
  obtain ⟨rfl, hP, hK, hNS⟩ := hv
  have hx := B.exec
  have hb := B.bytes
  have hr := B.returns
  have hts : ∀ w ∈ tblG, w.before _ s = true := fun w h => atoms_spec (ws := wM yX3_word cX3_word 3 (some .int)) B.pre w (List.mem_cons_of_mem _ h)
  have hown : s.vm.findClass RX3 = some m.cls := findClass_of_methodNamed B.named
  have hlocks := B.notSynchronized
  have hl := lv_entry ([.ref m0, .int f, .int i]) (n := 3) (Nat.le_of_ble_eq_true rfl)
  rw [lg_entry_eq]
  generalize (lg_sl ([.ref m0, .int f, .int i]) ++ List.replicate (3 - (lg_sl ([.ref m0, .int f, .int i])).length) Slot.unset).toArray = ls at hl ⊢
  have hl : lv_has ls 3 [(0, .ref m0), (1, .int f), (2, .int i)] := hl
  obtain ⟨hF, hnu, htg, htn, hso, hsn, hpa, hpn, hru, hr1, hr2⟩ := id hM
  have hso4 := oz_lo hsn
  have hpa4 := oz_lo hpn
  refine lv_aload_n hx hb dX3_word_0 rfl (lv_at hl 0 rfl) ?_
  refine lv_iload_n hx hb dX3_word_1 rfl (lv_at hl 1 rfl) ?_
  refine lv_iload_n hx hb dX3_word_2 rfl (lv_at hl 2 rfl) ?_
  refine vp_callSi (va_Run.run (va_runV (As := [.int f, .int i]) (rest := []) ⟨hx, hb, hml, hown, hts⟩ (mX3_isWord l f i hM) (cwV 2 hts (gA (m4 k339 k341 ksel10 k4) k342) rfl rfl rfl (by decide +kernel) ⟨Nat.le_of_ble_eq_true rfl, Nat.le_of_ble_eq_true rfl⟩) (prRV hP hK hNS rfl (show (w_md m0 a1 a2 a3 a4 a5 a6 cI wd ht ws bf mk nu tg so pa ru)[0]? = some (m0, .inr (3, [.ref a1, .ref a2, .ref a3, .ref a4, .ref a5, .int tg, .int so, .int pa, .int ru, .ref a6])) from rfl)) rfl rfl hl.1 rfl (lv_room (Nat.le_of_ble_eq_true rfl)) dX3_word_3 ⟨Nat.le_of_ble_eq_true rfl, Nat.le_of_ble_eq_true rfl⟩)) (fun r1 hwr1 => ?_)
  have h01r1 := or01 hwr1
  refine lv_if_eq (tgt := 24) hx hb dX3_word_6 (by decide) (fun c2 => ?_) (fun c2 => ?_)
  · replace c2 := (ti_eq rfl (by decide : (0 : Int32).toInt = (0 : Int))).mp c2
    refine lv_iconst (v := (-1)) hx hb dX3_word_24 (by decide) ?_
    refine lv_topi (fun r3 er3 => ?_)
    have hr3 : r3.toInt = (-1 : Int) := by rw [er3]; exact (by decide : (-1 : Int32).toInt = (-1 : Int))
    exact W.iret (v := r3) hx hb hr (fun t9 ht9 _ => ⟨r3, rfl, Or.inl ⟨by omega, or_r hwr1 (by omega)⟩, ht9⟩) (fun _ h => absurd h List.not_mem_nil) dX3_word_25
  · replace c2 := mt (ti_eq rfl (by decide : (0 : Int32).toInt = (0 : Int))).mpr c2
    refine lv_aload_n hx hb dX3_word_9 rfl (lv_at hl 0 rfl) ?_
    obtain ⟨t, et, h4t, hi1, hi2⟩ := or_l hwr1 (by omega)
    obtain ⟨fw_t, fh_t, f1_t, f2_t, f3_t, f6_t, f7_t, fB_t⟩ := hF t h4t
    have frd_t : rN wN t = (wN t + 15) / 16 := rfl
    refine va_get (D := (dC, dI)) (ci := 3) (v := .ref a3) (C := RX3) (T := TX3) (N := 10) hx hb hts inX3 hown hK hP 0 rfl rfl 2 (by decide) (hts _ k292) (fun _ h9 => h9) rfl dX3_word_10 ?_
    refine lv_sipush (v := (4000)) hx hb dX3_word_13 (by decide) ?_
    refine lv_iload_n hx hb dX3_word_16 rfl (lv_at hl 1 rfl) ?_
    refine lv_imul hx hb dX3_word_17 ?_
    refine lv_topi (fun x4 ex4 => ?_)
    have hx4 : x4.toInt = (4000 : Int) * f.toInt := by rw [ex4]; exact ti_mul (by decide : (4000 : Int32).toInt = (4000 : Int)) rfl (by omega) (by omega)
    refine lv_iload_n hx hb dX3_word_18 rfl (lv_at hl 2 rfl) ?_
    refine lv_iadd hx hb dX3_word_19 ?_
    refine lv_topi (fun x5 ex5 => ?_)
    have hx5 : x5.toInt = x4.toInt + i.toInt := by rw [ex5]; exact ti_add rfl rfl (by omega) (by omega)
    refine iaK hx hb hK hP 3 0 rfl rfl (4000 * t + i.toInt.toNat) (by omega) (by omega) dX3_word_20 ?_
    refine lv_topi (fun x6 ex6 => ?_)
    refine lv_goto (tgt := 25) hx hb dX3_word_21 (by decide) ?_
    exact W.iret (v := x6) hx hb hr (fun t9 ht9 _ => ⟨x6, rfl, Or.inr ⟨t, et, h4t, hi1, hi2, ex6⟩, ht9⟩) (fun _ h => absurd h List.not_mem_nil) dX3_word_25
set_option maxHeartbeats 8000000 in
set_option maxRecDepth 100000 in
theorem mX3_bit (l : Launch) {dC : Nat → ClassId} {dI : Nat → Nat → Nat} {m0 a1 a2 a3 a4 a5 a6 : Nat} {cI : ClassId} {wd ht ws bf mk nu : Nat → Int32} {tg so pa ru : Int32} {wN hN : Nat → Nat} {Bt : Nat → Nat → Nat → Bool} {nz : Nat → Int} {tn : Nat} {sn pn : Option Nat} {rA : Int32} (f : Int32) (x : Int32) (y : Int32) (hM : RM wN hN Bt nz tn sn pn rA wd ht ws nu tg so pa ru) : Met l yX3_bit (wM yX3_bit cX3_bit 4 (some .int)) ({ frames := 2, cells := 0, slots := 0, locals := 44 }) (va_Pc [.ref m0, .int f, .int x, .int y] (rP (dC, dI) vwCl (tyM cI) (w_md m0 a1 a2 a3 a4 a5 a6 cI wd ht ws bf mk nu tg so pa ru))) (vp_Si (fun r => (r.toInt = -1 ∧ (f.toInt < 0 ∨ 4 ≤ f.toInt)) ∨ (∃ t : Nat, f.toInt = (t : Int) ∧ t < 4 ∧ ((r.toInt = -1 ∧ (x.toInt < 0 ∨ (wN t : Int) ≤ x.toInt ∨ y.toInt < 0 ∨ (hN t : Int) ≤ y.toInt)) ∨ (0 ≤ x.toInt ∧ x.toInt < wN t ∧ 0 ≤ y.toInt ∧ y.toInt < hN t ∧ r.toInt = (b1 (Bt t x.toInt.toNat y.toInt.toNat) : Int)))))) 0 0 (fun _ => False) := by
  refine Met.ofW (cc := cX3_bit) (maxL := 4) (ret := (some .int)) (by decide +kernel) rfl ?_
  intro p e s m args below meth c s₁ B hml hv
  obtain ⟨rfl, hP, hK, hNS⟩ := hv
  have hx := B.exec
  have hb := B.bytes
  have hr := B.returns
  have hts : ∀ w ∈ tblG, w.before _ s = true := fun w h => atoms_spec (ws := wM yX3_bit cX3_bit 4 (some .int)) B.pre w (List.mem_cons_of_mem _ h)
  have hown : s.vm.findClass RX3 = some m.cls := findClass_of_methodNamed B.named
  have hlocks := B.notSynchronized
  have hl := lv_entry ([.ref m0, .int f, .int x, .int y]) (n := 4) (Nat.le_of_ble_eq_true rfl)
  rw [lg_entry_eq]
  generalize (lg_sl ([.ref m0, .int f, .int x, .int y]) ++ List.replicate (4 - (lg_sl ([.ref m0, .int f, .int x, .int y])).length) Slot.unset).toArray = ls at hl ⊢
  have hl : lv_has ls 4 [(0, .ref m0), (1, .int f), (2, .int x), (3, .int y)] := hl
  obtain ⟨hF, hnu, htg, htn, hso, hsn, hpa, hpn, hru, hr1, hr2⟩ := id hM
  have hso4 := oz_lo hsn
  have hpa4 := oz_lo hpn
  refine lv_iload_n hx hb dX3_bit_0 rfl (lv_at hl 1 rfl) ?_
  refine vp_callSi (va_Run.run (va_runS (As := [.int f]) (rest := []) ⟨hx, hb, hml, hown, hts⟩ (mX3_isForm l f) (va_cwS 1 hts (gA (m3 k325 k326 k4) k327) rfl rfl rfl (by decide +kernel) ⟨Nat.le_of_ble_eq_true rfl, Nat.le_of_ble_eq_true rfl⟩) (prT) rfl rfl hl.1 rfl (lv_room (Nat.le_of_ble_eq_true rfl)) dX3_bit_1 ⟨Nat.le_of_ble_eq_true rfl, Nat.le_of_ble_eq_true rfl⟩)) (fun r1 hwr1 => ?_)
  try dsimp only at hwr1
  refine lv_if_eq (tgt := 29) hx hb dX3_bit_4 (by decide) (fun c2 => ?_) (fun c2 => ?_)
  · replace c2 := (ti_eq rfl (by decide : (0 : Int32).toInt = (0 : Int))).mp c2
    refine lv_iconst (v := (-1)) hx hb dX3_bit_29 (by decide) ?_
    refine lv_topi (fun r3 er3 => ?_)
    have hr3 : r3.toInt = (-1 : Int) := by rw [er3]; exact (by decide : (-1 : Int32).toInt = (-1 : Int))
    exact W.iret (v := r3) hx hb hr (fun t9 ht9 _ => ⟨r3, rfl, Or.inl ⟨by omega, by omega⟩, ht9⟩) (fun _ h => absurd h List.not_mem_nil) dX3_bit_30
  · replace c2 := mt (ti_eq rfl (by decide : (0 : Int32).toInt = (0 : Int))).mpr c2
    refine lv_aload_n hx hb dX3_bit_7 rfl (lv_at hl 0 rfl) ?_
    refine lv_iload_n hx hb dX3_bit_8 rfl (lv_at hl 1 rfl) ?_
    refine lv_iload_n hx hb dX3_bit_9 rfl (lv_at hl 2 rfl) ?_
    refine lv_i2l hx hb dX3_bit_10 rfl ?_
    refine lv_topl (fun y4 ey4 => ?_)
    have hy4 : y4.toInt = x.toInt := (tl_i ey4).trans rfl
    refine lv_iload_n hx hb dX3_bit_11 rfl (lv_at hl 3 rfl) ?_
    refine lv_i2l hx hb dX3_bit_12 rfl ?_
    refine lv_topl (fun y5 ey5 => ?_)
    have hy5 : y5.toInt = y.toInt := (tl_i ey5).trans rfl
    obtain ⟨t, et⟩ : ∃ t : Nat, f.toInt = (t : Int) := ⟨f.toInt.toNat, by omega⟩
    have h4t : t < 4 := by omega
    obtain ⟨fw_t, fh_t, f1_t, f2_t, f3_t, f6_t, f7_t, fB_t⟩ := hF t h4t
    have frd_t : rN wN t = (wN t + 15) / 16 := rfl
    refine vp_callSi (va_Run.run (va_runV (As := [.int f, .long y4, .long y5]) (rest := []) ⟨hx, hb, hml, hown, hts⟩ (mX3_isBit l f y4 y5 hM et h4t) (cwV 3 hts (gA (m4 k353 k355 ksel11 k4) k356) rfl rfl rfl (by decide +kernel) ⟨Nat.le_of_ble_eq_true rfl, Nat.le_of_ble_eq_true rfl⟩) (prRV hP hK hNS rfl (show (w_md m0 a1 a2 a3 a4 a5 a6 cI wd ht ws bf mk nu tg so pa ru)[0]? = some (m0, .inr (3, [.ref a1, .ref a2, .ref a3, .ref a4, .ref a5, .int tg, .int so, .int pa, .int ru, .ref a6])) from rfl)) rfl rfl hl.1 rfl (lv_room (Nat.le_of_ble_eq_true rfl)) dX3_bit_13 ⟨Nat.le_of_ble_eq_true rfl, Nat.le_of_ble_eq_true rfl⟩)) (fun r6 hwr6 => ?_)
    try dsimp only at hwr6
    refine lv_if_eq (tgt := 29) hx hb dX3_bit_16 (by decide) (fun c7 => ?_) (fun c7 => ?_)
    · replace c7 := (ti_eq rfl (by decide : (0 : Int32).toInt = (0 : Int))).mp c7
      refine lv_iconst (v := (-1)) hx hb dX3_bit_29 (by decide) ?_
      refine lv_topi (fun r8 er8 => ?_)
      have hr8 : r8.toInt = (-1 : Int) := by rw [er8]; exact (by decide : (-1 : Int32).toInt = (-1 : Int))
      exact W.iret (v := r8) hx hb hr (fun t9 ht9 _ => ⟨r8, rfl, Or.inr ⟨t, et, h4t, Or.inl ⟨by omega, by omega⟩⟩, ht9⟩) (fun _ h => absurd h List.not_mem_nil) dX3_bit_30
    · replace c7 := mt (ti_eq rfl (by decide : (0 : Int32).toInt = (0 : Int))).mpr c7
      refine lv_aload_n hx hb dX3_bit_19 rfl (lv_at hl 0 rfl) ?_
      refine lv_iload_n hx hb dX3_bit_20 rfl (lv_at hl 1 rfl) ?_
      refine lv_iload_n hx hb dX3_bit_21 rfl (lv_at hl 2 rfl) ?_
      refine lv_iload_n hx hb dX3_bit_22 rfl (lv_at hl 3 rfl) ?_
      refine vp_callSi (va_Run.run (va_runV (As := [.int f, .int x, .int y]) (rest := []) ⟨hx, hb, hml, hown, hts⟩ (mX3_bitAt l f x y hM et h4t (X := x.toInt.toNat) (Y := y.toInt.toNat) (by omega) (by omega) (by omega) (by omega)) (cwV 3 hts (gA (m4 k357 k359 ksel12 k4) k360) rfl rfl rfl (by decide +kernel) ⟨Nat.le_of_ble_eq_true rfl, Nat.le_of_ble_eq_true rfl⟩) (prRV hP hK hNS rfl (show (w_md m0 a1 a2 a3 a4 a5 a6 cI wd ht ws bf mk nu tg so pa ru)[0]? = some (m0, .inr (3, [.ref a1, .ref a2, .ref a3, .ref a4, .ref a5, .int tg, .int so, .int pa, .int ru, .ref a6])) from rfl)) rfl rfl hl.1 rfl (lv_room (Nat.le_of_ble_eq_true rfl)) dX3_bit_23 ⟨Nat.le_of_ble_eq_true rfl, Nat.le_of_ble_eq_true rfl⟩)) (fun r9 hwr9 => ?_)
      try dsimp only at hwr9
      refine lv_goto (tgt := 30) hx hb dX3_bit_26 (by decide) ?_
      exact W.iret (v := r9) hx hb hr (fun t9 ht9 _ => ⟨r9, rfl, Or.inr ⟨t, et, h4t, Or.inr ⟨by omega, by omega, by omega, by omega, by rw [hwr9, fB_t.2 _ _ (by omega) (by omega), decide_eq_true (by omega), Bool.true_and]⟩⟩, ht9⟩) (fun _ h => absurd h List.not_mem_nil) dX3_bit_30
set_option maxHeartbeats 8000000 in
set_option maxRecDepth 100000 in
theorem mX3_order (l : Launch) {dC : Nat → ClassId} {dI : Nat → Nat → Nat} {m0 a1 a2 a3 a4 a5 a6 : Nat} {cI : ClassId} {wd ht ws bf mk nu : Nat → Int32} {tg so pa ru : Int32} {wN hN : Nat → Nat} {Bt : Nat → Nat → Nat → Bool} {nz : Nat → Int} {tn : Nat} {sn pn : Option Nat} {rA : Int32} (wh : Int32) (se : Int32) (hM : RM wN hN Bt nz tn sn pn rA wd ht ws nu tg so pa ru) : Met l yX3_order (wM yX3_order cX3_order 3 (some .int)) ({ frames := 0, cells := 0, slots := 0, locals := 0 }) (va_Pc [.ref m0, .int wh, .int se] (rP (dC, dI) vwCl (tyM cI) (w_md m0 a1 a2 a3 a4 a5 a6 cI wd ht ws bf mk nu tg so pa ru))) (vp_Si (fun r => (r.toInt = 0 ∧ (wh.toInt < 0 ∨ 5 ≤ wh.toInt)) ∨ (0 ≤ wh.toInt ∧ wh.toInt < 5 ∧ ∃ k : Nat, k < 10 ∧ ((se.toInt = 0 ∧ (k : Int) = 2 * wh.toInt) ∨ (se.toInt ≠ 0 ∧ (k : Int) = 2 * wh.toInt + 1)) ∧ r.toInt = nz k))) 0 0 (fun _ => False) := by
  refine Met.ofW (cc := cX3_order) (maxL := 3) (ret := (some .int)) (by decide +kernel) rfl ?_
  intro p e s m args below meth c s₁ B hml hv
  obtain ⟨rfl, hP, hK, hNS⟩ := hv
  have hx := B.exec
  have hb := B.bytes
  have hr := B.returns
  have hts : ∀ w ∈ tblG, w.before _ s = true := fun w h => atoms_spec (ws := wM yX3_order cX3_order 3 (some .int)) B.pre w (List.mem_cons_of_mem _ h)
  have hown : s.vm.findClass RX3 = some m.cls := findClass_of_methodNamed B.named
  have hlocks := B.notSynchronized
  have hl := lv_entry ([.ref m0, .int wh, .int se]) (n := 3) (Nat.le_of_ble_eq_true rfl)
  rw [lg_entry_eq]
  generalize (lg_sl ([.ref m0, .int wh, .int se]) ++ List.replicate (3 - (lg_sl ([.ref m0, .int wh, .int se])).length) Slot.unset).toArray = ls at hl ⊢
  have hl : lv_has ls 3 [(0, .ref m0), (1, .int wh), (2, .int se)] := hl
  obtain ⟨hF, hnu, htg, htn, hso, hsn, hpa, hpn, hru, hr1, hr2⟩ := id hM
  have hso4 := oz_lo hsn
  have hpa4 := oz_lo hpn
  refine lv_iload_n hx hb dX3_order_0 rfl (lv_at hl 1 rfl) ?_
  refine lv_if_lt (tgt := 9) hx hb dX3_order_1 (by decide) (fun c1 => ?_) (fun c1 => ?_)
  · replace c1 := (ti_lt rfl (by decide : (0 : Int32).toInt = (0 : Int))).mp c1
    refine lv_iconst (v := 0) hx hb dX3_order_9 (by decide) ?_
    refine lv_goto (tgt := 31) hx hb dX3_order_10 (by decide) ?_
    refine lv_topi (fun r2 er2 => ?_)
    have hr2 : r2.toInt = (0 : Int) := by rw [er2]; exact (by decide : (0 : Int32).toInt = (0 : Int))
    exact W.iret (v := r2) hx hb hr (fun t9 ht9 _ => ⟨r2, rfl, Or.inl ⟨by omega, by omega⟩, ht9⟩) (fun _ h => absurd h List.not_mem_nil) dX3_order_31
  · replace c1 := mt (ti_lt rfl (by decide : (0 : Int32).toInt = (0 : Int))).mpr c1
    refine lv_iload_n hx hb dX3_order_4 rfl (lv_at hl 1 rfl) ?_
    refine lv_iconst (v := 4) hx hb dX3_order_5 (by decide) ?_
    refine lv_icmp_le (tgt := 13) hx hb dX3_order_6 (by decide) (fun c3 => ?_) (fun c3 => ?_)
    · replace c3 := (ti_le rfl (by decide : (4 : Int32).toInt = (4 : Int))).mp c3
      refine lv_aload_n hx hb dX3_order_13 rfl (lv_at hl 0 rfl) ?_
      refine va_get (D := (dC, dI)) (ci := 3) (v := .ref a6) (C := RX3) (T := TX3) (N := 10) hx hb hts inX3 hown hK hP 0 rfl rfl 9 (by decide) (hts _ k299) (fun _ h9 => h9) rfl dX3_order_14 ?_
      refine lv_iconst (v := 2) hx hb dX3_order_17 (by decide) ?_
      refine lv_iload_n hx hb dX3_order_18 rfl (lv_at hl 1 rfl) ?_
      refine lv_imul hx hb dX3_order_19 ?_
      refine lv_topi (fun x4 ex4 => ?_)
      have hx4 : x4.toInt = (2 : Int) * wh.toInt := by rw [ex4]; exact ti_mul (by decide : (2 : Int32).toInt = (2 : Int)) rfl (by omega) (by omega)
      refine lv_iload_n hx hb dX3_order_20 rfl (lv_at hl 2 rfl) ?_
      refine lv_if_eq (tgt := 28) hx hb dX3_order_21 (by decide) (fun c5 => ?_) (fun c5 => ?_)
      · replace c5 := (ti_eq rfl (by decide : (0 : Int32).toInt = (0 : Int))).mp c5
        refine lv_iconst (v := 0) hx hb dX3_order_28 (by decide) ?_
        refine lv_iadd hx hb dX3_order_29 ?_
        refine lv_topi (fun x6 ex6 => ?_)
        have hx6 : x6.toInt = x4.toInt + (0 : Int) := by rw [ex6]; exact ti_add rfl (by decide : (0 : Int32).toInt = (0 : Int)) (by omega) (by omega)
        have hk0 : ∃ k : Nat, k < 10 ∧ x6.toInt = (k : Int) := ⟨x6.toInt.toNat, by omega, by omega⟩
        obtain ⟨k, hk1, hk2⟩ := hk0
        have hk3 := hnu k hk1
        refine iaK hx hb hK hP 6 0 rfl rfl (k) (hk2) (by omega) dX3_order_30 ?_
        refine lv_topi (fun x7 ex7 => ?_)
        exact W.iret (v := x7) hx hb hr (fun t9 ht9 _ => ⟨x7, rfl, Or.inr ⟨by omega, by omega, k, hk1, by omega, by rw [ex7]; exact hk3.1⟩, ht9⟩) (fun _ h => absurd h List.not_mem_nil) dX3_order_31
      · replace c5 := mt (ti_eq rfl (by decide : (0 : Int32).toInt = (0 : Int))).mpr c5
        refine lv_iconst (v := 1) hx hb dX3_order_24 (by decide) ?_
        refine lv_goto (tgt := 29) hx hb dX3_order_25 (by decide) ?_
        refine lv_iadd hx hb dX3_order_29 ?_
        refine lv_topi (fun x8 ex8 => ?_)
        have hx8 : x8.toInt = x4.toInt + (1 : Int) := by rw [ex8]; exact ti_add rfl (by decide : (1 : Int32).toInt = (1 : Int)) (by omega) (by omega)
        have hk0 : ∃ k : Nat, k < 10 ∧ x8.toInt = (k : Int) := ⟨x8.toInt.toNat, by omega, by omega⟩
        obtain ⟨k, hk1, hk2⟩ := hk0
        have hk3 := hnu k hk1
        refine iaK hx hb hK hP 6 0 rfl rfl (k) (hk2) (by omega) dX3_order_30 ?_
        refine lv_topi (fun x9 ex9 => ?_)
        exact W.iret (v := x9) hx hb hr (fun t9 ht9 _ => ⟨x9, rfl, Or.inr ⟨by omega, by omega, k, hk1, by omega, by rw [ex9]; exact hk3.1⟩, ht9⟩) (fun _ h => absurd h List.not_mem_nil) dX3_order_31
    · replace c3 := mt (ti_le rfl (by decide : (4 : Int32).toInt = (4 : Int))).mpr c3
      refine lv_iconst (v := 0) hx hb dX3_order_9 (by decide) ?_
      refine lv_goto (tgt := 31) hx hb dX3_order_10 (by decide) ?_
      refine lv_topi (fun r10 er10 => ?_)
      have hr10 : r10.toInt = (0 : Int) := by rw [er10]; exact (by decide : (0 : Int32).toInt = (0 : Int))
      exact W.iret (v := r10) hx hb hr (fun t9 ht9 _ => ⟨r10, rfl, Or.inl ⟨by omega, by omega⟩, ht9⟩) (fun _ h => absurd h List.not_mem_nil) dX3_order_31
set_option maxHeartbeats 8000000 in
set_option maxRecDepth 100000 in
theorem mX3_lacksPattern (l : Launch) {dC : Nat → ClassId} {dI : Nat → Nat → Nat} {m0 a1 a2 a3 a4 a5 a6 : Nat} {cI : ClassId} {wd ht ws bf mk nu : Nat → Int32} {tg so pa ru : Int32} {wN hN : Nat → Nat} {Bt : Nat → Nat → Nat → Bool} {nz : Nat → Int} {tn : Nat} {sn pn : Option Nat} {rA : Int32} (hM : RM wN hN Bt nz tn sn pn rA wd ht ws nu tg so pa ru) : Met l yX3_lacksPattern (wM yX3_lacksPattern cX3_lacksPattern 1 (some .boolean)) ({ frames := 1, cells := 0, slots := 0, locals := 21 }) (va_Pc [.ref m0] (rP (dC, dI) vwCl (tyM cI) (w_md m0 a1 a2 a3 a4 a5 a6 cI wd ht ws bf mk nu tg so pa ru))) (vp_Si (fun r => (r.toInt = 1 ∧ ∃ q, pn = some q ∧ ¬ (wN q = 16 ∧ hN q = 16)) ∨ (r.toInt = 0 ∧ ∀ q, pn = some q → wN q = 16 ∧ hN q = 16))) 0 0 (fun _ => False) := by
  refine Met.ofW (cc := cX3_lacksPattern) (maxL := 1) (ret := (some .boolean)) (by decide +kernel) rfl ?_
  intro p e s m args below meth c s₁ B hml hv
  obtain ⟨rfl, hP, hK, hNS⟩ := hv
  have hx := B.exec
  have hb := B.bytes
  have hr := B.returns
  have hts : ∀ w ∈ tblG, w.before _ s = true := fun w h => atoms_spec (ws := wM yX3_lacksPattern cX3_lacksPattern 1 (some .boolean)) B.pre w (List.mem_cons_of_mem _ h)
  have hown : s.vm.findClass RX3 = some m.cls := findClass_of_methodNamed B.named
  have hlocks := B.notSynchronized
  have hl := lv_entry ([.ref m0]) (n := 1) (Nat.le_of_ble_eq_true rfl)
  rw [lg_entry_eq]
  generalize (lg_sl ([.ref m0]) ++ List.replicate (1 - (lg_sl ([.ref m0])).length) Slot.unset).toArray = ls at hl ⊢
  have hl : lv_has ls 1 [(0, .ref m0)] := hl
  obtain ⟨hF, hnu, htg, htn, hso, hsn, hpa, hpn, hru, hr1, hr2⟩ := id hM
  have hso4 := oz_lo hsn
  have hpa4 := oz_lo hpn
  refine lv_aload_n hx hb dX3_lacksPattern_0 rfl (lv_at hl 0 rfl) ?_
  refine va_get (D := (dC, dI)) (ci := 3) (v := .int pa) (C := RX3) (T := TX3) (N := 10) hx hb hts inX3 hown hK hP 0 rfl rfl 7 (by decide) (hts _ k297) (fun _ h9 => h9) rfl dX3_lacksPattern_1 ?_
  refine lv_iconst (v := (-1)) hx hb dX3_lacksPattern_4 (by decide) ?_
  refine lv_icmp_eq (tgt := 23) hx hb dX3_lacksPattern_5 (by decide) (fun c1 => ?_) (fun c1 => ?_)
  · replace c1 := (ti_eq rfl (by decide : (-1 : Int32).toInt = (-1 : Int))).mp c1
    refine lv_iconst (v := 0) hx hb dX3_lacksPattern_23 (by decide) ?_
    refine lv_topi (fun r2 er2 => ?_)
    have hr2 : r2.toInt = (0 : Int) := by rw [er2]; exact (by decide : (0 : Int32).toInt = (0 : Int))
    exact W.zret (ty := .boolean) (v := r2) hx hb hr (nar_b (by omega)) (fun t9 ht9 _ => ⟨r2, rfl, Or.inr ⟨by omega, fun z hz => by rw [oz_none (o := pn) (by omega)] at hz; cases hz⟩, ht9⟩) (fun _ h => absurd h List.not_mem_nil) dX3_lacksPattern_24
  · replace c1 := mt (ti_eq rfl (by decide : (-1 : Int32).toInt = (-1 : Int))).mpr c1
    refine lv_aload_n hx hb dX3_lacksPattern_8 rfl (lv_at hl 0 rfl) ?_
    refine lv_aload_n hx hb dX3_lacksPattern_9 rfl (lv_at hl 0 rfl) ?_
    refine va_get (D := (dC, dI)) (ci := 3) (v := .int pa) (C := RX3) (T := TX3) (N := 10) hx hb hts inX3 hown hK hP 0 rfl rfl 7 (by decide) (hts _ k297) (fun _ h9 => h9) rfl dX3_lacksPattern_10 ?_
    obtain ⟨q, hq1, hq2⟩ := oz_some (o := pn) (by omega)
    have h4q := hpn q hq1
    refine vp_callSi (va_Run.run (va_runV (As := [.int pa]) (rest := []) ⟨hx, hb, hml, hown, hts⟩ (mX3_isPattern l pa hM (t := q) (by omega) h4q) (cwV 1 hts (gA (m4 k373 k375 ksel13 k4) k376) rfl rfl rfl (by decide +kernel) ⟨Nat.le_of_ble_eq_true rfl, Nat.le_of_ble_eq_true rfl⟩) (prRV hP hK hNS rfl (show (w_md m0 a1 a2 a3 a4 a5 a6 cI wd ht ws bf mk nu tg so pa ru)[0]? = some (m0, .inr (3, [.ref a1, .ref a2, .ref a3, .ref a4, .ref a5, .int tg, .int so, .int pa, .int ru, .ref a6])) from rfl)) rfl rfl hl.1 rfl (lv_room (Nat.le_of_ble_eq_true rfl)) dX3_lacksPattern_13 ⟨Nat.le_of_ble_eq_true rfl, Nat.le_of_ble_eq_true rfl⟩)) (fun r3 hwr3 => ?_)
    try dsimp only at hwr3
    refine lv_if_ne (tgt := 23) hx hb dX3_lacksPattern_16 (by decide) (fun c4 => ?_) (fun c4 => ?_)
    · replace c4 := mt (ti_eq rfl (by decide : (0 : Int32).toInt = (0 : Int))).mpr c4
      refine lv_iconst (v := 0) hx hb dX3_lacksPattern_23 (by decide) ?_
      refine lv_topi (fun r5 er5 => ?_)
      have hr5 : r5.toInt = (0 : Int) := by rw [er5]; exact (by decide : (0 : Int32).toInt = (0 : Int))
      exact W.zret (ty := .boolean) (v := r5) hx hb hr (nar_b (by omega)) (fun t9 ht9 _ => ⟨r5, rfl, by first | exact Or.inl ⟨by omega, q, hq1, by omega⟩ | exact Or.inr ⟨by omega, fun z hz => by rw [hq1] at hz; cases hz; omega⟩, ht9⟩) (fun _ h => absurd h List.not_mem_nil) dX3_lacksPattern_24
    · replace c4 := (ti_eq rfl (by decide : (0 : Int32).toInt = (0 : Int))).mp c4
      refine lv_iconst (v := 1) hx hb dX3_lacksPattern_19 (by decide) ?_
      refine lv_goto (tgt := 24) hx hb dX3_lacksPattern_20 (by decide) ?_
      refine lv_topi (fun r6 er6 => ?_)
      have hr6 : r6.toInt = (1 : Int) := by rw [er6]; exact (by decide : (1 : Int32).toInt = (1 : Int))
      exact W.zret (ty := .boolean) (v := r6) hx hb hr (nar_b (by omega)) (fun t9 ht9 _ => ⟨r6, rfl, by first | exact Or.inl ⟨by omega, q, hq1, by omega⟩ | exact Or.inr ⟨by omega, fun z hz => by rw [hq1] at hz; cases hz; omega⟩, ht9⟩) (fun _ h => absurd h List.not_mem_nil) dX3_lacksPattern_24
