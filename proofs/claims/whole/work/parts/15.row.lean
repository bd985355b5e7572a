set_option maxHeartbeats 8000000 in
set_option maxRecDepth 100000 in
theorem mX2_findReach_0 (l : Launch) {dC : Nat → ClassId} {dI : Nat → Nat → Nat} {sz : Nat} {h0 qa qn qx qy : Nat} {cI cF : ClassId} {fa ar ln : Nat → Nat} {wd ht rw : Nat → Int32} {g : Nat → Nat → Int32} {nu : Nat → Int32} {X Y : Int32 × Int32 × Int32} {tg : Nat} {so pa : Option Nat} {ru : Int32} {wN hN : Nat → Nat} {nz : Nat → Int} (hR : CS wN hN nz tg so pa ru ln wd ht rw g nu) : Met l yX2_findReach (wM yX2_findReach cX2_findReach 3 none) ({ frames := 2, cells := 0, slots := 0, locals := 43 }) (va_Pc [.ref h0, .ref qx, .int (0 : Int32)] (wP (dC, dI) vwCl (tyB cI cF) (w_bc h0 qa qn qx qy cI cF fa ar ln wd ht rw g nu X Y tg so pa ru) sz)) (va_Qv (fun u : Int32 × Int32 × Int32 => u.1.toInt = stA nz 0 (so.map (fun s => (wN s : Int))) ∧ u.2.1.toInt = enA nz 0 (wN tg) (so.map (fun s => (wN s : Int))) ∧ u.2.2.toInt = nz 4 - nz 0) (wB (dC, dI) vwCl (va_A (w_bc h0 qa qn qx qy cI cF fa ar ln wd ht rw g nu X Y tg so pa ru) sz) (fun u : Int32 × Int32 × Int32 => (tyB cI cF)) (fun u : Int32 × Int32 × Int32 => (w_bc h0 qa qn qx qy cI cF fa ar ln wd ht rw g nu u Y tg so pa ru))) (va_A (w_bc h0 qa qn qx qy cI cF fa ar ln wd ht rw g nu X Y tg so pa ru) sz)) 0 0 (va_A (w_bc h0 qa qn qx qy cI cF fa ar ln wd ht rw g nu X Y tg so pa ru) sz) := by
  refine Met.ofW (cc := cX2_findReach) (maxL := 3) (ret := none) (by decide +kernel) rfl ?_
  intro p e s m args below meth c s₁ B hml hv
  obtain ⟨rfl, hsz, hP, hK, hD0, hNS⟩ := hv
  have hx := B.exec
  have hb := B.bytes
  have hr := B.returns
  have hts : ∀ w ∈ tblG, w.before _ s = true := fun w h => atoms_spec (ws := wM yX2_findReach cX2_findReach 3 none) B.pre w (List.mem_cons_of_mem _ h)
  have hown : s.vm.findClass RX2 = some m.cls := findClass_of_methodNamed B.named
  have hlocks := B.notSynchronized
  subst hsz
  have hD := hD0.self (sz := s.heap.size)
  generalize hAe : va_A (w_bc h0 qa qn qx qy cI cF fa ar ln wd ht rw g nu X Y tg so pa ru) s.heap.size = A at hD ⊢
  have hA : ∀ q : Nat, s.heap.size ≤ q → A q := fun q h => by rw [← hAe]; exact Or.inr h
  have hS : va_S A s.heap s.heap [] := va_S.rf
  have hP : va_P (dC, dI) vwCl (w_bc h0 qa qn qx qy cI cF fa ar ln wd ht rw g nu X Y tg so pa ru) s.heap := hP
  have hl := lv_entry ([.ref h0, .ref qx, .int (0 : Int32)]) (n := 3) (Nat.le_of_ble_eq_true rfl)
  rw [lg_entry_eq]
  generalize (lg_sl ([.ref h0, .ref qx, .int (0 : Int32)]) ++ List.replicate (3 - (lg_sl ([.ref h0, .ref qx, .int (0 : Int32)])).length) Slot.unset).toArray = ls at hl ⊢
  have hl : lv_has ls 3 [(0, .ref h0), (1, .ref qx), (2, .int (0 : Int32))] := hl
  obtain ⟨hF, hnu, htg, hso, hpa, hr1, hr2⟩ := id hR
  obtain ⟨fw_tg, fh_tg, fr_tg, f1_tg, f2_tg, f3_tg, f4_tg, f5_tg, f6_tg, f7_tg, fB_tg⟩ := hF tg htg
  have frd_tg : rN wN tg = (wN tg + 15) / 16 := rfl
  have n0 := hnu 0 (by decide)
  have n1 := hnu 2 (by decide)
  have n2 := hnu 4 (by decide)
  have n3 := hnu 6 (by decide)
  have n4 := hnu 8 (by decide)
  rcases so with _ | sv
  · have hsk : True := trivial
    refine lv_aload_n hx hb dX2_findReach_0 rfl (lv_at hl 1 rfl) ?_
    refine lv_aload_n hx hb dX2_findReach_1 rfl (lv_at hl 0 rfl) ?_
    refine va_get (D := (dC, dI)) (ci := 2) (v := .ref qn) (C := RX2) (T := TX2) (N := 8) hx hb hts inX2 hown hK hP 0 rfl rfl 1 (by decide) (hts _ k61) (fun _ h9 => h9) rfl dX2_findReach_2 ?_
    refine lv_iconst (v := 0) hx hb dX2_findReach_5 (by decide) ?_
    refine lv_iload_n hx hb dX2_findReach_6 rfl (lv_at hl 2 rfl) ?_
    refine lv_iadd hx hb dX2_findReach_7 ?_
    refine lv_topi (fun x1 ex1 => ?_)
    have hx1 : x1.toInt = (0 : Int) + (0 : Int) := by rw [ex1]; exact ti_add (by decide : (0 : Int32).toInt = (0 : Int)) (by decide : (0 : Int32).toInt = (0 : Int)) (by omega) (by omega)
    refine iaK hx hb hK hP 2 0 rfl rfl (0) (by omega) (by omega) dX2_findReach_8 ?_
    refine lv_topi (fun x2 ex2 => ?_)
    have hzx2 : x2.toInt = nz 0 := by rw [ex2]; exact (hnu 0 (by decide)).1
    refine lv_aload_n hx hb dX2_findReach_9 rfl (lv_at hl 0 rfl) ?_
    refine va_get (D := (dC, dI)) (ci := 2) (v := .ref qn) (C := RX2) (T := TX2) (N := 8) hx hb hts inX2 hown hK hP 0 rfl rfl 1 (by decide) (hts _ k61) (fun _ h9 => h9) rfl dX2_findReach_10 ?_
    refine lv_iconst (v := 2) hx hb dX2_findReach_13 (by decide) ?_
    refine lv_iload_n hx hb dX2_findReach_14 rfl (lv_at hl 2 rfl) ?_
    refine lv_iadd hx hb dX2_findReach_15 ?_
    refine lv_topi (fun x3 ex3 => ?_)
    have hx3 : x3.toInt = (2 : Int) + (0 : Int) := by rw [ex3]; exact ti_add (by decide : (2 : Int32).toInt = (2 : Int)) (by decide : (0 : Int32).toInt = (0 : Int)) (by omega) (by omega)
    refine iaK hx hb hK hP 2 0 rfl rfl (2) (by omega) (by omega) dX2_findReach_16 ?_
    refine lv_topi (fun x4 ex4 => ?_)
    have hzx4 : x4.toInt = nz 2 := by rw [ex4]; exact (hnu 2 (by decide)).1
    refine lv_aload_n hx hb dX2_findReach_17 rfl (lv_at hl 0 rfl) ?_
    refine va_get (D := (dC, dI)) (ci := 2) (v := .ref qn) (C := RX2) (T := TX2) (N := 8) hx hb hts inX2 hown hK hP 0 rfl rfl 1 (by decide) (hts _ k61) (fun _ h9 => h9) rfl dX2_findReach_18 ?_
    refine lv_iconst (v := 4) hx hb dX2_findReach_21 (by decide) ?_
    refine lv_iload_n hx hb dX2_findReach_22 rfl (lv_at hl 2 rfl) ?_
    refine lv_iadd hx hb dX2_findReach_23 ?_
    refine lv_topi (fun x5 ex5 => ?_)
    have hx5 : x5.toInt = (4 : Int) + (0 : Int) := by rw [ex5]; exact ti_add (by decide : (4 : Int32).toInt = (4 : Int)) (by decide : (0 : Int32).toInt = (0 : Int)) (by omega) (by omega)
    refine iaK hx hb hK hP 2 0 rfl rfl (4) (by omega) (by omega) dX2_findReach_24 ?_
    refine lv_topi (fun x6 ex6 => ?_)
    have hzx6 : x6.toInt = nz 4 := by rw [ex6]; exact (hnu 4 (by decide)).1
    refine cJ1_v (S := Int32 × Int32 × Int32) 3 (show (w_bc h0 qa qn qx qy cI cF fa ar ln wd ht rw g nu X Y tg none pa ru)[3]? = some (qx, .inr (1, [.int X.1, .int X.2.1, .int X.2.2])) from rfl) (va_runV (As := [.int x2, .int x4, .int x6]) (rest := []) ⟨hx, hb, hml, hown, hts⟩ (mX1_begin l (h0 := qx) x2 x4 x6 (by omega) (by omega) (by omega)) (cwV 3 hts (gA (m4 k217 k218 k219 k3) k220) rfl rfl rfl (by decide +kernel) ⟨Nat.le_of_ble_eq_true rfl, Nat.le_of_ble_eq_true rfl⟩) (prWV1 hP hK hNS hD rfl (show (w_bc h0 qa qn qx qy cI cF fa ar ln wd ht rw g nu X Y tg none pa ru)[3]? = some (qx, .inr (1, [.int X.1, .int X.2.1, .int X.2.2])) from rfl)) rfl rfl hl.1 rfl (lv_room (Nat.le_of_ble_eq_true rfl)) dX2_findReach_25 ⟨Nat.le_of_ble_eq_true rfl, Nat.le_of_ble_eq_true rfl⟩) hP hD hS hA (fun r7 H locs hwr7 hP hD hS => ?_)
    obtain ⟨u8, u9, u10⟩ := r7
    try dsimp only at hwr7
    have hP : va_P (dC, dI) vwCl (w_bc h0 qa qn qx qy cI cF fa ar ln wd ht rw g nu (u8, u9, u10) Y tg none pa ru) H := hP
    have hD : va_D A (w_bc h0 qa qn qx qy cI cF fa ar ln wd ht rw g nu (u8, u9, u10) Y tg none pa ru) := hD
    refine lv_aload_n hx hb dX2_findReach_28 rfl (lv_at hl 1 rfl) ?_
    refine lv_aload_n hx hb dX2_findReach_29 rfl (lv_at hl 0 rfl) ?_
    refine va_get (D := (dC, dI)) (ci := 2) (v := .ref qn) (C := RX2) (T := TX2) (N := 8) hx hb hts inX2 hown hK hP 0 rfl rfl 1 (by decide) (hts _ k61) (fun _ h9 => h9) rfl dX2_findReach_30 ?_
    refine lv_bipush (v := (6)) hx hb dX2_findReach_33 (by decide) ?_
    refine lv_iload_n hx hb dX2_findReach_35 rfl (lv_at hl 2 rfl) ?_
    refine lv_iadd hx hb dX2_findReach_36 ?_
    refine lv_topi (fun x11 ex11 => ?_)
    have hx11 : x11.toInt = (6 : Int) + (0 : Int) := by rw [ex11]; exact ti_add (by decide : (6 : Int32).toInt = (6 : Int)) (by decide : (0 : Int32).toInt = (0 : Int)) (by omega) (by omega)
    refine iaK hx hb hK hP 2 0 rfl rfl (6) (by omega) (by omega) dX2_findReach_37 ?_
    refine lv_topi (fun x12 ex12 => ?_)
    have hzx12 : x12.toInt = nz 6 := by rw [ex12]; exact (hnu 6 (by decide)).1
    refine lv_aload_n hx hb dX2_findReach_38 rfl (lv_at hl 0 rfl) ?_
    refine va_get (D := (dC, dI)) (ci := 2) (v := .ref qn) (C := RX2) (T := TX2) (N := 8) hx hb hts inX2 hown hK hP 0 rfl rfl 1 (by decide) (hts _ k61) (fun _ h9 => h9) rfl dX2_findReach_39 ?_
    refine lv_bipush (v := (8)) hx hb dX2_findReach_42 (by decide) ?_
    refine lv_iload_n hx hb dX2_findReach_44 rfl (lv_at hl 2 rfl) ?_
    refine lv_iadd hx hb dX2_findReach_45 ?_
    refine lv_topi (fun x13 ex13 => ?_)
    have hx13 : x13.toInt = (8 : Int) + (0 : Int) := by rw [ex13]; exact ti_add (by decide : (8 : Int32).toInt = (8 : Int)) (by decide : (0 : Int32).toInt = (0 : Int)) (by omega) (by omega)
    refine iaK hx hb hK hP 2 0 rfl rfl (8) (by omega) (by omega) dX2_findReach_46 ?_
    refine lv_topi (fun x14 ex14 => ?_)
    have hzx14 : x14.toInt = nz 8 := by rw [ex14]; exact (hnu 8 (by decide)).1
    refine cJ1_v (S := Int32 × Int32 × Int32) 3 (show (w_bc h0 qa qn qx qy cI cF fa ar ln wd ht rw g nu (u8, u9, u10) Y tg none pa ru)[3]? = some (qx, .inr (1, [.int u8, .int u9, .int u10])) from rfl) (va_runV (As := [.int x12, .int x14]) (rest := []) ⟨hx, hb, hml, hown, hts⟩ (mX1_narrow l (h0 := qx) x12 x14 (by omega) (by omega)) (cwV 2 hts (gA (m4 k221 k222 k223 k3) k224) rfl rfl rfl (by decide +kernel) ⟨Nat.le_of_ble_eq_true rfl, Nat.le_of_ble_eq_true rfl⟩) (prWV1 hP hK hNS hD rfl (show (w_bc h0 qa qn qx qy cI cF fa ar ln wd ht rw g nu (u8, u9, u10) Y tg none pa ru)[3]? = some (qx, .inr (1, [.int u8, .int u9, .int u10])) from rfl)) rfl rfl hl.1 rfl (lv_room (Nat.le_of_ble_eq_true rfl)) dX2_findReach_47 ⟨Nat.le_of_ble_eq_true rfl, Nat.le_of_ble_eq_true rfl⟩) hP hD hS hA (fun r15 H locs hwr15 hP hD hS => ?_)
    obtain ⟨u16, u17, u18⟩ := r15
    try dsimp only at hwr15
    have hP : va_P (dC, dI) vwCl (w_bc h0 qa qn qx qy cI cF fa ar ln wd ht rw g nu (u16, u17, u18) Y tg none pa ru) H := hP
    have hD : va_D A (w_bc h0 qa qn qx qy cI cF fa ar ln wd ht rw g nu (u16, u17, u18) Y tg none pa ru) := hD
    refine lv_aload_n hx hb dX2_findReach_50 rfl (lv_at hl 1 rfl) ?_
    refine lv_iconst (v := 0) hx hb dX2_findReach_51 (by decide) ?_
    refine lv_aload_n hx hb dX2_findReach_52 rfl (lv_at hl 0 rfl) ?_
    refine va_get (D := (dC, dI)) (ci := 2) (v := .ref (fa tg)) (C := RX2) (T := TX2) (N := 8) hx hb hts inX2 hown hK hP 0 rfl rfl 4 (by decide) (hts _ k64) (fun _ h9 => h9) rfl dX2_findReach_53 ?_
    refine lv_iload_n hx hb dX2_findReach_56 rfl (lv_at hl 2 rfl) ?_
    have hk_0 : (0 : Int32).toInt = (0 : Int) := by decide
    refine vp_callSi (va_Run.run (va_runV (As := [.int (0 : Int32)]) (rest := [.int (0 : Int32), .ref qx]) ⟨hx, hb, hml, hown, hts⟩ (mX0_lengthAlong l (0 : Int32) (wb_o htg)) (cwV 1 hts (gA (m4 k227 k228 k229 k2) k230) rfl rfl rfl (by decide +kernel) ⟨Nat.le_of_ble_eq_true rfl, Nat.le_of_ble_eq_true rfl⟩) (prRV hP hK hNS rfl (wb_o htg)) rfl rfl hl.1 rfl (lv_room (Nat.le_of_ble_eq_true rfl)) dX2_findReach_57 ⟨Nat.le_of_ble_eq_true rfl, Nat.le_of_ble_eq_true rfl⟩)) (fun r19 hwr19 => ?_)
    have hlr19 : r19 = wd tg := hwr19.1 (by decide)
    have htr19 : r19.toInt = (wN tg : Int) := by rw [hlr19]; exact fw_tg
    have hk_0 : (0 : Int32).toInt = (0 : Int) := by decide
    refine cJ1_v (S := Int32 × Int32 × Int32) 3 (show (w_bc h0 qa qn qx qy cI cF fa ar ln wd ht rw g nu (u16, u17, u18) Y tg none pa ru)[3]? = some (qx, .inr (1, [.int u16, .int u17, .int u18])) from rfl) (va_runV (As := [.int (0 : Int32), .int r19]) (rest := []) ⟨hx, hb, hml, hown, hts⟩ (mX1_narrow l (h0 := qx) (0 : Int32) r19 (by omega) (by omega)) (cwV 2 hts (gA (m4 k221 k222 k223 k3) k224) rfl rfl rfl (by decide +kernel) ⟨Nat.le_of_ble_eq_true rfl, Nat.le_of_ble_eq_true rfl⟩) (prWV1 hP hK hNS hD rfl (show (w_bc h0 qa qn qx qy cI cF fa ar ln wd ht rw g nu (u16, u17, u18) Y tg none pa ru)[3]? = some (qx, .inr (1, [.int u16, .int u17, .int u18])) from rfl)) rfl rfl hl.1 rfl (lv_room (Nat.le_of_ble_eq_true rfl)) dX2_findReach_60 ⟨Nat.le_of_ble_eq_true rfl, Nat.le_of_ble_eq_true rfl⟩) hP hD hS hA (fun r20 H locs hwr20 hP hD hS => ?_)
    obtain ⟨u21, u22, u23⟩ := r20
    try dsimp only at hwr20
    have hP : va_P (dC, dI) vwCl (w_bc h0 qa qn qx qy cI cF fa ar ln wd ht rw g nu (u21, u22, u23) Y tg none pa ru) H := hP
    have hD : va_D A (w_bc h0 qa qn qx qy cI cF fa ar ln wd ht rw g nu (u21, u22, u23) Y tg none pa ru) := hD
    refine lv_aload_n hx hb dX2_findReach_63 rfl (lv_at hl 0 rfl) ?_
    refine va_get (D := (dC, dI)) (ci := 2) (v := .null) (C := RX2) (T := TX2) (N := 8) hx hb hts inX2 hown hK hP 0 rfl rfl 5 (by decide) (hts _ k65) (fun _ h9 => h9) rfl dX2_findReach_64 ?_
    refine lv_ifnullN (tgt := 87) hx hb dX2_findReach_67 (by decide) ?_
    have hfr := fr_n (ax := 0) hzx2 hzx4 hzx12 hzx14 hk_0 htr19 hwr7.1 hwr7.2.1 hwr15.1 hwr15.2.1 hwr20.1 hwr20.2.1
    exact W.vret hx hb hr (fun t9 ht9 hW9 => ⟨⟨(u21, u22, u23), rfl, ⟨hfr.1, hfr.2, by dsimp only; have z1 := hwr7.2.2; have z2 := hwr15.2.2; have z3 := hwr20.2.2; omega⟩, by rw [ht9]; exact hP, va_K.moved hW9.alike hK, hD⟩, hS.F ht9⟩) hS.2.2 dX2_findReach_87
  · have h4s := hso sv rfl
    obtain ⟨fw_sv, fh_sv, fr_sv, f1_sv, f2_sv, f3_sv, f4_sv, f5_sv, f6_sv, f7_sv, fB_sv⟩ := hF sv h4s
    have frd_sv : rN wN sv = (wN sv + 15) / 16 := rfl
    refine lv_aload_n hx hb dX2_findReach_0 rfl (lv_at hl 1 rfl) ?_
    refine lv_aload_n hx hb dX2_findReach_1 rfl (lv_at hl 0 rfl) ?_
    refine va_get (D := (dC, dI)) (ci := 2) (v := .ref qn) (C := RX2) (T := TX2) (N := 8) hx hb hts inX2 hown hK hP 0 rfl rfl 1 (by decide) (hts _ k61) (fun _ h9 => h9) rfl dX2_findReach_2 ?_
    refine lv_iconst (v := 0) hx hb dX2_findReach_5 (by decide) ?_
    refine lv_iload_n hx hb dX2_findReach_6 rfl (lv_at hl 2 rfl) ?_
    refine lv_iadd hx hb dX2_findReach_7 ?_
    refine lv_topi (fun x24 ex24 => ?_)
    have hx24 : x24.toInt = (0 : Int) + (0 : Int) := by rw [ex24]; exact ti_add (by decide : (0 : Int32).toInt = (0 : Int)) (by decide : (0 : Int32).toInt = (0 : Int)) (by omega) (by omega)
    refine iaK hx hb hK hP 2 0 rfl rfl (0) (by omega) (by omega) dX2_findReach_8 ?_
    refine lv_topi (fun x25 ex25 => ?_)
    have hzx25 : x25.toInt = nz 0 := by rw [ex25]; exact (hnu 0 (by decide)).1
    refine lv_aload_n hx hb dX2_findReach_9 rfl (lv_at hl 0 rfl) ?_
    refine va_get (D := (dC, dI)) (ci := 2) (v := .ref qn) (C := RX2) (T := TX2) (N := 8) hx hb hts inX2 hown hK hP 0 rfl rfl 1 (by decide) (hts _ k61) (fun _ h9 => h9) rfl dX2_findReach_10 ?_
    refine lv_iconst (v := 2) hx hb dX2_findReach_13 (by decide) ?_
    refine lv_iload_n hx hb dX2_findReach_14 rfl (lv_at hl 2 rfl) ?_
    refine lv_iadd hx hb dX2_findReach_15 ?_
    refine lv_topi (fun x26 ex26 => ?_)
    have hx26 : x26.toInt = (2 : Int) + (0 : Int) := by rw [ex26]; exact ti_add (by decide : (2 : Int32).toInt = (2 : Int)) (by decide : (0 : Int32).toInt = (0 : Int)) (by omega) (by omega)
    refine iaK hx hb hK hP 2 0 rfl rfl (2) (by omega) (by omega) dX2_findReach_16 ?_
    refine lv_topi (fun x27 ex27 => ?_)
    have hzx27 : x27.toInt = nz 2 := by rw [ex27]; exact (hnu 2 (by decide)).1
    refine lv_aload_n hx hb dX2_findReach_17 rfl (lv_at hl 0 rfl) ?_
    refine va_get (D := (dC, dI)) (ci := 2) (v := .ref qn) (C := RX2) (T := TX2) (N := 8) hx hb hts inX2 hown hK hP 0 rfl rfl 1 (by decide) (hts _ k61) (fun _ h9 => h9) rfl dX2_findReach_18 ?_
    refine lv_iconst (v := 4) hx hb dX2_findReach_21 (by decide) ?_
    refine lv_iload_n hx hb dX2_findReach_22 rfl (lv_at hl 2 rfl) ?_
    refine lv_iadd hx hb dX2_findReach_23 ?_
    refine lv_topi (fun x28 ex28 => ?_)
    have hx28 : x28.toInt = (4 : Int) + (0 : Int) := by rw [ex28]; exact ti_add (by decide : (4 : Int32).toInt = (4 : Int)) (by decide : (0 : Int32).toInt = (0 : Int)) (by omega) (by omega)
    refine iaK hx hb hK hP 2 0 rfl rfl (4) (by omega) (by omega) dX2_findReach_24 ?_
    refine lv_topi (fun x29 ex29 => ?_)
    have hzx29 : x29.toInt = nz 4 := by rw [ex29]; exact (hnu 4 (by decide)).1
    refine cJ1_v (S := Int32 × Int32 × Int32) 3 (show (w_bc h0 qa qn qx qy cI cF fa ar ln wd ht rw g nu X Y tg (some sv) pa ru)[3]? = some (qx, .inr (1, [.int X.1, .int X.2.1, .int X.2.2])) from rfl) (va_runV (As := [.int x25, .int x27, .int x29]) (rest := []) ⟨hx, hb, hml, hown, hts⟩ (mX1_begin l (h0 := qx) x25 x27 x29 (by omega) (by omega) (by omega)) (cwV 3 hts (gA (m4 k217 k218 k219 k3) k220) rfl rfl rfl (by decide +kernel) ⟨Nat.le_of_ble_eq_true rfl, Nat.le_of_ble_eq_true rfl⟩) (prWV1 hP hK hNS hD rfl (show (w_bc h0 qa qn qx qy cI cF fa ar ln wd ht rw g nu X Y tg (some sv) pa ru)[3]? = some (qx, .inr (1, [.int X.1, .int X.2.1, .int X.2.2])) from rfl)) rfl rfl hl.1 rfl (lv_room (Nat.le_of_ble_eq_true rfl)) dX2_findReach_25 ⟨Nat.le_of_ble_eq_true rfl, Nat.le_of_ble_eq_true rfl⟩) hP hD hS hA (fun r30 H locs hwr30 hP hD hS => ?_)
    obtain ⟨u31, u32, u33⟩ := r30
    try dsimp only at hwr30
    have hP : va_P (dC, dI) vwCl (w_bc h0 qa qn qx qy cI cF fa ar ln wd ht rw g nu (u31, u32, u33) Y tg (some sv) pa ru) H := hP
    have hD : va_D A (w_bc h0 qa qn qx qy cI cF fa ar ln wd ht rw g nu (u31, u32, u33) Y tg (some sv) pa ru) := hD
    refine lv_aload_n hx hb dX2_findReach_28 rfl (lv_at hl 1 rfl) ?_
    refine lv_aload_n hx hb dX2_findReach_29 rfl (lv_at hl 0 rfl) ?_
    refine va_get (D := (dC, dI)) (ci := 2) (v := .ref qn) (C := RX2) (T := TX2) (N := 8) hx hb hts inX2 hown hK hP 0 rfl rfl 1 (by decide) (hts _ k61) (fun _ h9 => h9) rfl dX2_findReach_30 ?_
    refine lv_bipush (v := (6)) hx hb dX2_findReach_33 (by decide) ?_
    refine lv_iload_n hx hb dX2_findReach_35 rfl (lv_at hl 2 rfl) ?_
    refine lv_iadd hx hb dX2_findReach_36 ?_
    refine lv_topi (fun x34 ex34 => ?_)
    have hx34 : x34.toInt = (6 : Int) + (0 : Int) := by rw [ex34]; exact ti_add (by decide : (6 : Int32).toInt = (6 : Int)) (by decide : (0 : Int32).toInt = (0 : Int)) (by omega) (by omega)
    refine iaK hx hb hK hP 2 0 rfl rfl (6) (by omega) (by omega) dX2_findReach_37 ?_
    refine lv_topi (fun x35 ex35 => ?_)
    have hzx35 : x35.toInt = nz 6 := by rw [ex35]; exact (hnu 6 (by decide)).1
    refine lv_aload_n hx hb dX2_findReach_38 rfl (lv_at hl 0 rfl) ?_
    refine va_get (D := (dC, dI)) (ci := 2) (v := .ref qn) (C := RX2) (T := TX2) (N := 8) hx hb hts inX2 hown hK hP 0 rfl rfl 1 (by decide) (hts _ k61) (fun _ h9 => h9) rfl dX2_findReach_39 ?_
    refine lv_bipush (v := (8)) hx hb dX2_findReach_42 (by decide) ?_
    refine lv_iload_n hx hb dX2_findReach_44 rfl (lv_at hl 2 rfl) ?_
    refine lv_iadd hx hb dX2_findReach_45 ?_
    refine lv_topi (fun x36 ex36 => ?_)
    have hx36 : x36.toInt = (8 : Int) + (0 : Int) := by rw [ex36]; exact ti_add (by decide : (8 : Int32).toInt = (8 : Int)) (by decide : (0 : Int32).toInt = (0 : Int)) (by omega) (by omega)
    refine iaK hx hb hK hP 2 0 rfl rfl (8) (by omega) (by omega) dX2_findReach_46 ?_
    refine lv_topi (fun x37 ex37 => ?_)
    have hzx37 : x37.toInt = nz 8 := by rw [ex37]; exact (hnu 8 (by decide)).1
    refine cJ1_v (S := Int32 × Int32 × Int32) 3 (show (w_bc h0 qa qn qx qy cI cF fa ar ln wd ht rw g nu (u31, u32, u33) Y tg (some sv) pa ru)[3]? = some (qx, .inr (1, [.int u31, .int u32, .int u33])) from rfl) (va_runV (As := [.int x35, .int x37]) (rest := []) ⟨hx, hb, hml, hown, hts⟩ (mX1_narrow l (h0 := qx) x35 x37 (by omega) (by omega)) (cwV 2 hts (gA (m4 k221 k222 k223 k3) k224) rfl rfl rfl (by decide +kernel) ⟨Nat.le_of_ble_eq_true rfl, Nat.le_of_ble_eq_true rfl⟩) (prWV1 hP hK hNS hD rfl (show (w_bc h0 qa qn qx qy cI cF fa ar ln wd ht rw g nu (u31, u32, u33) Y tg (some sv) pa ru)[3]? = some (qx, .inr (1, [.int u31, .int u32, .int u33])) from rfl)) rfl rfl hl.1 rfl (lv_room (Nat.le_of_ble_eq_true rfl)) dX2_findReach_47 ⟨Nat.le_of_ble_eq_true rfl, Nat.le_of_ble_eq_true rfl⟩) hP hD hS hA (fun r38 H locs hwr38 hP hD hS => ?_)
    obtain ⟨u39, u40, u41⟩ := r38
    try dsimp only at hwr38
    have hP : va_P (dC, dI) vwCl (w_bc h0 qa qn qx qy cI cF fa ar ln wd ht rw g nu (u39, u40, u41) Y tg (some sv) pa ru) H := hP
    have hD : va_D A (w_bc h0 qa qn qx qy cI cF fa ar ln wd ht rw g nu (u39, u40, u41) Y tg (some sv) pa ru) := hD
    refine lv_aload_n hx hb dX2_findReach_50 rfl (lv_at hl 1 rfl) ?_
    refine lv_iconst (v := 0) hx hb dX2_findReach_51 (by decide) ?_
    refine lv_aload_n hx hb dX2_findReach_52 rfl (lv_at hl 0 rfl) ?_
    refine va_get (D := (dC, dI)) (ci := 2) (v := .ref (fa tg)) (C := RX2) (T := TX2) (N := 8) hx hb hts inX2 hown hK hP 0 rfl rfl 4 (by decide) (hts _ k64) (fun _ h9 => h9) rfl dX2_findReach_53 ?_
    refine lv_iload_n hx hb dX2_findReach_56 rfl (lv_at hl 2 rfl) ?_
    have hk_0 : (0 : Int32).toInt = (0 : Int) := by decide
    refine vp_callSi (va_Run.run (va_runV (As := [.int (0 : Int32)]) (rest := [.int (0 : Int32), .ref qx]) ⟨hx, hb, hml, hown, hts⟩ (mX0_lengthAlong l (0 : Int32) (wb_o htg)) (cwV 1 hts (gA (m4 k227 k228 k229 k2) k230) rfl rfl rfl (by decide +kernel) ⟨Nat.le_of_ble_eq_true rfl, Nat.le_of_ble_eq_true rfl⟩) (prRV hP hK hNS rfl (wb_o htg)) rfl rfl hl.1 rfl (lv_room (Nat.le_of_ble_eq_true rfl)) dX2_findReach_57 ⟨Nat.le_of_ble_eq_true rfl, Nat.le_of_ble_eq_true rfl⟩)) (fun r42 hwr42 => ?_)
    have hlr42 : r42 = wd tg := hwr42.1 (by decide)
    have htr42 : r42.toInt = (wN tg : Int) := by rw [hlr42]; exact fw_tg
    have hk_0 : (0 : Int32).toInt = (0 : Int) := by decide
    refine cJ1_v (S := Int32 × Int32 × Int32) 3 (show (w_bc h0 qa qn qx qy cI cF fa ar ln wd ht rw g nu (u39, u40, u41) Y tg (some sv) pa ru)[3]? = some (qx, .inr (1, [.int u39, .int u40, .int u41])) from rfl) (va_runV (As := [.int (0 : Int32), .int r42]) (rest := []) ⟨hx, hb, hml, hown, hts⟩ (mX1_narrow l (h0 := qx) (0 : Int32) r42 (by omega) (by omega)) (cwV 2 hts (gA (m4 k221 k222 k223 k3) k224) rfl rfl rfl (by decide +kernel) ⟨Nat.le_of_ble_eq_true rfl, Nat.le_of_ble_eq_true rfl⟩) (prWV1 hP hK hNS hD rfl (show (w_bc h0 qa qn qx qy cI cF fa ar ln wd ht rw g nu (u39, u40, u41) Y tg (some sv) pa ru)[3]? = some (qx, .inr (1, [.int u39, .int u40, .int u41])) from rfl)) rfl rfl hl.1 rfl (lv_room (Nat.le_of_ble_eq_true rfl)) dX2_findReach_60 ⟨Nat.le_of_ble_eq_true rfl, Nat.le_of_ble_eq_true rfl⟩) hP hD hS hA (fun r43 H locs hwr43 hP hD hS => ?_)
    obtain ⟨u44, u45, u46⟩ := r43
    try dsimp only at hwr43
    have hP : va_P (dC, dI) vwCl (w_bc h0 qa qn qx qy cI cF fa ar ln wd ht rw g nu (u44, u45, u46) Y tg (some sv) pa ru) H := hP
    have hD : va_D A (w_bc h0 qa qn qx qy cI cF fa ar ln wd ht rw g nu (u44, u45, u46) Y tg (some sv) pa ru) := hD
    refine lv_aload_n hx hb dX2_findReach_63 rfl (lv_at hl 0 rfl) ?_
    refine va_get (D := (dC, dI)) (ci := 2) (v := .ref (fa sv)) (C := RX2) (T := TX2) (N := 8) hx hb hts inX2 hown hK hP 0 rfl rfl 5 (by decide) (hts _ k65) (fun _ h9 => h9) rfl dX2_findReach_64 ?_
    refine lv_ifnull hx hb dX2_findReach_67 ?_
    refine lv_aload_n hx hb dX2_findReach_70 rfl (lv_at hl 1 rfl) ?_
    refine lv_aload_n hx hb dX2_findReach_71 rfl (lv_at hl 1 rfl) ?_
    refine va_getN (D := (dC, dI)) (ci := 1) (v := .int u46) (C := RX1) (T := TX1) (N := 3) hx hb hts inX1 hown hK hP 3 rfl rfl 2 (by decide) (va_Nw.use rfl (hNS.2.2.2.2.2.2.2.1)) (fun _ h9 => h9) rfl dX2_findReach_72 ?_
    refine lv_ineg hx hb dX2_findReach_75 ?_
    refine lv_topi (fun x47 ex47 => ?_)
    have hx47 : x47.toInt = -u46.toInt := by rw [ex47]; exact ti_neg rfl (by omega)
    refine lv_aload_n hx hb dX2_findReach_76 rfl (lv_at hl 0 rfl) ?_
    refine va_get (D := (dC, dI)) (ci := 2) (v := .ref (fa sv)) (C := RX2) (T := TX2) (N := 8) hx hb hts inX2 hown hK hP 0 rfl rfl 5 (by decide) (hts _ k65) (fun _ h9 => h9) rfl dX2_findReach_77 ?_
    refine lv_iload_n hx hb dX2_findReach_80 rfl (lv_at hl 2 rfl) ?_
    have hk_0 : (0 : Int32).toInt = (0 : Int) := by decide
    refine vp_callSi (va_Run.run (va_runV (As := [.int (0 : Int32)]) (rest := [.int x47, .ref qx]) ⟨hx, hb, hml, hown, hts⟩ (mX0_lengthAlong l (0 : Int32) (wb_o h4s)) (cwV 1 hts (gA (m4 k227 k228 k229 k2) k230) rfl rfl rfl (by decide +kernel) ⟨Nat.le_of_ble_eq_true rfl, Nat.le_of_ble_eq_true rfl⟩) (prRV hP hK hNS rfl (wb_o h4s)) rfl rfl hl.1 rfl (lv_room (Nat.le_of_ble_eq_true rfl)) dX2_findReach_81 ⟨Nat.le_of_ble_eq_true rfl, Nat.le_of_ble_eq_true rfl⟩)) (fun r48 hwr48 => ?_)
    have hlr48 : r48 = wd sv := hwr48.1 (by decide)
    have htr48 : r48.toInt = (wN sv : Int) := by rw [hlr48]; exact fw_sv
    refine cJ1_v (S := Int32 × Int32 × Int32) 3 (show (w_bc h0 qa qn qx qy cI cF fa ar ln wd ht rw g nu (u44, u45, u46) Y tg (some sv) pa ru)[3]? = some (qx, .inr (1, [.int u44, .int u45, .int u46])) from rfl) (va_runV (As := [.int x47, .int r48]) (rest := []) ⟨hx, hb, hml, hown, hts⟩ (mX1_narrow l (h0 := qx) x47 r48 (by omega) (by omega)) (cwV 2 hts (gA (m4 k221 k222 k223 k3) k224) rfl rfl rfl (by decide +kernel) ⟨Nat.le_of_ble_eq_true rfl, Nat.le_of_ble_eq_true rfl⟩) (prWV1 hP hK hNS hD rfl (show (w_bc h0 qa qn qx qy cI cF fa ar ln wd ht rw g nu (u44, u45, u46) Y tg (some sv) pa ru)[3]? = some (qx, .inr (1, [.int u44, .int u45, .int u46])) from rfl)) rfl rfl hl.1 rfl (lv_room (Nat.le_of_ble_eq_true rfl)) dX2_findReach_84 ⟨Nat.le_of_ble_eq_true rfl, Nat.le_of_ble_eq_true rfl⟩) hP hD hS hA (fun r49 H locs hwr49 hP hD hS => ?_)
    obtain ⟨u50, u51, u52⟩ := r49
    try dsimp only at hwr49
    have hP : va_P (dC, dI) vwCl (w_bc h0 qa qn qx qy cI cF fa ar ln wd ht rw g nu (u50, u51, u52) Y tg (some sv) pa ru) H := hP
    have hD : va_D A (w_bc h0 qa qn qx qy cI cF fa ar ln wd ht rw g nu (u50, u51, u52) Y tg (some sv) pa ru) := hD
    have hfr := fr_s (ax := 0) hzx25 hzx27 hzx29 hzx35 hzx37 hk_0 htr42 htr48 hwr30.1 hwr30.2.1 hwr30.2.2 hwr38.1 hwr38.2.1 hwr43.1 hwr43.2.1 (hx47.trans (by rw [hwr43.2.2, hwr38.2.2])) hwr49.1 hwr49.2.1
    exact W.vret hx hb hr (fun t9 ht9 hW9 => ⟨⟨(u50, u51, u52), rfl, ⟨hfr.1, hfr.2, by dsimp only; have z1 := hwr30.2.2; have z2 := hwr38.2.2; have z3 := hwr43.2.2; have z4 := hwr49.2.2; omega⟩, by rw [ht9]; exact hP, va_K.moved hW9.alike hK, hD⟩, hS.F ht9⟩) hS.2.2 dX2_findReach_87
set_option maxHeartbeats 8000000 in
set_option maxRecDepth 100000 in
theorem mX2_findReach_1 (l : Launch) {dC : Nat → ClassId} {dI : Nat → Nat → Nat} {sz : Nat} {h0 qa qn qx qy : Nat} {cI cF : ClassId} {fa ar ln : Nat → Nat} {wd ht rw : Nat → Int32} {g : Nat → Nat → Int32} {nu : Nat → Int32} {X Y : Int32 × Int32 × Int32} {tg : Nat} {so pa : Option Nat} {ru : Int32} {wN hN : Nat → Nat} {nz : Nat → Int} (hR : CS wN hN nz tg so pa ru ln wd ht rw g nu) : Met l yX2_findReach (wM yX2_findReach cX2_findReach 3 none) ({ frames := 2, cells := 0, slots := 0, locals := 43 }) (va_Pc [.ref h0, .ref qy, .int (1 : Int32)] (wP (dC, dI) vwCl (tyB cI cF) (w_bc h0 qa qn qx qy cI cF fa ar ln wd ht rw g nu X Y tg so pa ru) sz)) (va_Qv (fun u : Int32 × Int32 × Int32 => u.1.toInt = stA nz 1 (so.map (fun s => (hN s : Int))) ∧ u.2.1.toInt = enA nz 1 (hN tg) (so.map (fun s => (hN s : Int))) ∧ u.2.2.toInt = nz 5 - nz 1) (wB (dC, dI) vwCl (va_A (w_bc h0 qa qn qx qy cI cF fa ar ln wd ht rw g nu X Y tg so pa ru) sz) (fun u : Int32 × Int32 × Int32 => (tyB cI cF)) (fun u : Int32 × Int32 × Int32 => (w_bc h0 qa qn qx qy cI cF fa ar ln wd ht rw g nu X u tg so pa ru))) (va_A (w_bc h0 qa qn qx qy cI cF fa ar ln wd ht rw g nu X Y tg so pa ru) sz)) 0 0 (va_A (w_bc h0 qa qn qx qy cI cF fa ar ln wd ht rw g nu X Y tg so pa ru) sz) := by
  refine Met.ofW (cc := cX2_findReach) (maxL := 3) (ret := none) (by decide +kernel) rfl ?_
  intro p e s m args below meth c s₁ B hml hv
  obtain ⟨rfl, hsz, hP, hK, hD0, hNS⟩ := hv
  have hx := B.exec
  have hb := B.bytes
  have hr := B.returns
  have hts : ∀ w ∈ tblG, w.before _ s = true := fun w h => atoms_spec (ws := wM yX2_findReach cX2_findReach 3 none) B.pre w (List.mem_cons_of_mem _ h)
  have hown : s.vm.findClass RX2 = some m.cls := findClass_of_methodNamed B.named
  have hlocks := B.notSynchronized
  subst hsz
  have hD := hD0.self (sz := s.heap.size)
  generalize hAe : va_A (w_bc h0 qa qn qx qy cI cF fa ar ln wd ht rw g nu X Y tg so pa ru) s.heap.size = A at hD ⊢
  have hA : ∀ q : Nat, s.heap.size ≤ q → A q := fun q h => by rw [← hAe]; exact Or.inr h
  have hS : va_S A s.heap s.heap [] := va_S.rf
  have hP : va_P (dC, dI) vwCl (w_bc h0 qa qn qx qy cI cF fa ar ln wd ht rw g nu X Y tg so pa ru) s.heap := hP
  have hl := lv_entry ([.ref h0, .ref qy, .int (1 : Int32)]) (n := 3) (Nat.le_of_ble_eq_true rfl)
  rw [lg_entry_eq]
  generalize (lg_sl ([.ref h0, .ref qy, .int (1 : Int32)]) ++ List.replicate (3 - (lg_sl ([.ref h0, .ref qy, .int (1 : Int32)])).length) Slot.unset).toArray = ls at hl ⊢
  have hl : lv_has ls 3 [(0, .ref h0), (1, .ref qy), (2, .int (1 : Int32))] := hl
  obtain ⟨hF, hnu, htg, hso, hpa, hr1, hr2⟩ := id hR
  obtain ⟨fw_tg, fh_tg, fr_tg, f1_tg, f2_tg, f3_tg, f4_tg, f5_tg, f6_tg, f7_tg, fB_tg⟩ := hF tg htg
  have frd_tg : rN wN tg = (wN tg + 15) / 16 := rfl
  have n0 := hnu 1 (by decide)
  have n1 := hnu 3 (by decide)
  have n2 := hnu 5 (by decide)
  have n3 := hnu 7 (by decide)
  have n4 := hnu 9 (by decide)
  rcases so with _ | sv
  · have hsk : True := trivial
    refine lv_aload_n hx hb dX2_findReach_0 rfl (lv_at hl 1 rfl) ?_
    refine lv_aload_n hx hb dX2_findReach_1 rfl (lv_at hl 0 rfl) ?_
    refine va_get (D := (dC, dI)) (ci := 2) (v := .ref qn) (C := RX2) (T := TX2) (N := 8) hx hb hts inX2 hown hK hP 0 rfl rfl 1 (by decide) (hts _ k61) (fun _ h9 => h9) rfl dX2_findReach_2 ?_
    refine lv_iconst (v := 0) hx hb dX2_findReach_5 (by decide) ?_
    refine lv_iload_n hx hb dX2_findReach_6 rfl (lv_at hl 2 rfl) ?_
    refine lv_iadd hx hb dX2_findReach_7 ?_
    refine lv_topi (fun x1 ex1 => ?_)
    have hx1 : x1.toInt = (0 : Int) + (1 : Int) := by rw [ex1]; exact ti_add (by decide : (0 : Int32).toInt = (0 : Int)) (by decide : (1 : Int32).toInt = (1 : Int)) (by omega) (by omega)
    refine iaK hx hb hK hP 2 0 rfl rfl (1) (by omega) (by omega) dX2_findReach_8 ?_
    refine lv_topi (fun x2 ex2 => ?_)
    have hzx2 : x2.toInt = nz 1 := by rw [ex2]; exact (hnu 1 (by decide)).1
    refine lv_aload_n hx hb dX2_findReach_9 rfl (lv_at hl 0 rfl) ?_
    refine va_get (D := (dC, dI)) (ci := 2) (v := .ref qn) (C := RX2) (T := TX2) (N := 8) hx hb hts inX2 hown hK hP 0 rfl rfl 1 (by decide) (hts _ k61) (fun _ h9 => h9) rfl dX2_findReach_10 ?_
    refine lv_iconst (v := 2) hx hb dX2_findReach_13 (by decide) ?_
    refine lv_iload_n hx hb dX2_findReach_14 rfl (lv_at hl 2 rfl) ?_
    refine lv_iadd hx hb dX2_findReach_15 ?_
    refine lv_topi (fun x3 ex3 => ?_)
    have hx3 : x3.toInt = (2 : Int) + (1 : Int) := by rw [ex3]; exact ti_add (by decide : (2 : Int32).toInt = (2 : Int)) (by decide : (1 : Int32).toInt = (1 : Int)) (by omega) (by omega)
    refine iaK hx hb hK hP 2 0 rfl rfl (3) (by omega) (by omega) dX2_findReach_16 ?_
    refine lv_topi (fun x4 ex4 => ?_)
    have hzx4 : x4.toInt = nz 3 := by rw [ex4]; exact (hnu 3 (by decide)).1
    refine lv_aload_n hx hb dX2_findReach_17 rfl (lv_at hl 0 rfl) ?_
    refine va_get (D := (dC, dI)) (ci := 2) (v := .ref qn) (C := RX2) (T := TX2) (N := 8) hx hb hts inX2 hown hK hP 0 rfl rfl 1 (by decide) (hts _ k61) (fun _ h9 => h9) rfl dX2_findReach_18 ?_
    refine lv_iconst (v := 4) hx hb dX2_findReach_21 (by decide) ?_
    refine lv_iload_n hx hb dX2_findReach_22 rfl (lv_at hl 2 rfl) ?_
    refine lv_iadd hx hb dX2_findReach_23 ?_
    refine lv_topi (fun x5 ex5 => ?_)
    have hx5 : x5.toInt = (4 : Int) + (1 : Int) := by rw [ex5]; exact ti_add (by decide : (4 : Int32).toInt = (4 : Int)) (by decide : (1 : Int32).toInt = (1 : Int)) (by omega) (by omega)
    refine iaK hx hb hK hP 2 0 rfl rfl (5) (by omega) (by omega) dX2_findReach_24 ?_
    refine lv_topi (fun x6 ex6 => ?_)
    have hzx6 : x6.toInt = nz 5 := by rw [ex6]; exact (hnu 5 (by decide)).1
    refine cJ1_v (S := Int32 × Int32 × Int32) 4 (show (w_bc h0 qa qn qx qy cI cF fa ar ln wd ht rw g nu X Y tg none pa ru)[4]? = some (qy, .inr (1, [.int Y.1, .int Y.2.1, .int Y.2.2])) from rfl) (va_runV (As := [.int x2, .int x4, .int x6]) (rest := []) ⟨hx, hb, hml, hown, hts⟩ (mX1_begin l (h0 := qy) x2 x4 x6 (by omega) (by omega) (by omega)) (cwV 3 hts (gA (m4 k217 k218 k219 k3) k220) rfl rfl rfl (by decide +kernel) ⟨Nat.le_of_ble_eq_true rfl, Nat.le_of_ble_eq_true rfl⟩) (prWV1 hP hK hNS hD rfl (show (w_bc h0 qa qn qx qy cI cF fa ar ln wd ht rw g nu X Y tg none pa ru)[4]? = some (qy, .inr (1, [.int Y.1, .int Y.2.1, .int Y.2.2])) from rfl)) rfl rfl hl.1 rfl (lv_room (Nat.le_of_ble_eq_true rfl)) dX2_findReach_25 ⟨Nat.le_of_ble_eq_true rfl, Nat.le_of_ble_eq_true rfl⟩) hP hD hS hA (fun r7 H locs hwr7 hP hD hS => ?_)
    obtain ⟨u8, u9, u10⟩ := r7
    try dsimp only at hwr7
    have hP : va_P (dC, dI) vwCl (w_bc h0 qa qn qx qy cI cF fa ar ln wd ht rw g nu X (u8, u9, u10) tg none pa ru) H := hP
    have hD : va_D A (w_bc h0 qa qn qx qy cI cF fa ar ln wd ht rw g nu X (u8, u9, u10) tg none pa ru) := hD
    refine lv_aload_n hx hb dX2_findReach_28 rfl (lv_at hl 1 rfl) ?_
    refine lv_aload_n hx hb dX2_findReach_29 rfl (lv_at hl 0 rfl) ?_
    refine va_get (D := (dC, dI)) (ci := 2) (v := .ref qn) (C := RX2) (T := TX2) (N := 8) hx hb hts inX2 hown hK hP 0 rfl rfl 1 (by decide) (hts _ k61) (fun _ h9 => h9) rfl dX2_findReach_30 ?_
    refine lv_bipush (v := (6)) hx hb dX2_findReach_33 (by decide) ?_
    refine lv_iload_n hx hb dX2_findReach_35 rfl (lv_at hl 2 rfl) ?_
    refine lv_iadd hx hb dX2_findReach_36 ?_
    refine lv_topi (fun x11 ex11 => ?_)
    have hx11 : x11.toInt = (6 : Int) + (1 : Int) := by rw [ex11]; exact ti_add (by decide : (6 : Int32).toInt = (6 : Int)) (by decide : (1 : Int32).toInt = (1 : Int)) (by omega) (by omega)
    refine iaK hx hb hK hP 2 0 rfl rfl (7) (by omega) (by omega) dX2_findReach_37 ?_
    refine lv_topi (fun x12 ex12 => ?_)
    have hzx12 : x12.toInt = nz 7 := by rw [ex12]; exact (hnu 7 (by decide)).1
    refine lv_aload_n hx hb dX2_findReach_38 rfl (lv_at hl 0 rfl) ?_
    refine va_get (D := (dC, dI)) (ci := 2) (v := .ref qn) (C := RX2) (T := TX2) (N := 8) hx hb hts inX2 hown hK hP 0 rfl rfl 1 (by decide) (hts _ k61) (fun _ h9 => h9) rfl dX2_findReach_39 ?_
    refine lv_bipush (v := (8)) hx hb dX2_findReach_42 (by decide) ?_
    refine lv_iload_n hx hb dX2_findReach_44 rfl (lv_at hl 2 rfl) ?_
    refine lv_iadd hx hb dX2_findReach_45 ?_
    refine lv_topi (fun x13 ex13 => ?_)
    have hx13 : x13.toInt = (8 : Int) + (1 : Int) := by rw [ex13]; exact ti_add (by decide : (8 : Int32).toInt = (8 : Int)) (by decide : (1 : Int32).toInt = (1 : Int)) (by omega) (by omega)
    refine iaK hx hb hK hP 2 0 rfl rfl (9) (by omega) (by omega) dX2_findReach_46 ?_
    refine lv_topi (fun x14 ex14 => ?_)
    have hzx14 : x14.toInt = nz 9 := by rw [ex14]; exact (hnu 9 (by decide)).1
    refine cJ1_v (S := Int32 × Int32 × Int32) 4 (show (w_bc h0 qa qn qx qy cI cF fa ar ln wd ht rw g nu X (u8, u9, u10) tg none pa ru)[4]? = some (qy, .inr (1, [.int u8, .int u9, .int u10])) from rfl) (va_runV (As := [.int x12, .int x14]) (rest := []) ⟨hx, hb, hml, hown, hts⟩ (mX1_narrow l (h0 := qy) x12 x14 (by omega) (by omega)) (cwV 2 hts (gA (m4 k221 k222 k223 k3) k224) rfl rfl rfl (by decide +kernel) ⟨Nat.le_of_ble_eq_true rfl, Nat.le_of_ble_eq_true rfl⟩) (prWV1 hP hK hNS hD rfl (show (w_bc h0 qa qn qx qy cI cF fa ar ln wd ht rw g nu X (u8, u9, u10) tg none pa ru)[4]? = some (qy, .inr (1, [.int u8, .int u9, .int u10])) from rfl)) rfl rfl hl.1 rfl (lv_room (Nat.le_of_ble_eq_true rfl)) dX2_findReach_47 ⟨Nat.le_of_ble_eq_true rfl, Nat.le_of_ble_eq_true rfl⟩) hP hD hS hA (fun r15 H locs hwr15 hP hD hS => ?_)
    obtain ⟨u16, u17, u18⟩ := r15
    try dsimp only at hwr15
    have hP : va_P (dC, dI) vwCl (w_bc h0 qa qn qx qy cI cF fa ar ln wd ht rw g nu X (u16, u17, u18) tg none pa ru) H := hP
    have hD : va_D A (w_bc h0 qa qn qx qy cI cF fa ar ln wd ht rw g nu X (u16, u17, u18) tg none pa ru) := hD
    refine lv_aload_n hx hb dX2_findReach_50 rfl (lv_at hl 1 rfl) ?_
    refine lv_iconst (v := 0) hx hb dX2_findReach_51 (by decide) ?_
    refine lv_aload_n hx hb dX2_findReach_52 rfl (lv_at hl 0 rfl) ?_
    refine va_get (D := (dC, dI)) (ci := 2) (v := .ref (fa tg)) (C := RX2) (T := TX2) (N := 8) hx hb hts inX2 hown hK hP 0 rfl rfl 4 (by decide) (hts _ k64) (fun _ h9 => h9) rfl dX2_findReach_53 ?_
    refine lv_iload_n hx hb dX2_findReach_56 rfl (lv_at hl 2 rfl) ?_
    have hk_1 : (1 : Int32).toInt = (1 : Int) := by decide
    refine vp_callSi (va_Run.run (va_runV (As := [.int (1 : Int32)]) (rest := [.int (0 : Int32), .ref qy]) ⟨hx, hb, hml, hown, hts⟩ (mX0_lengthAlong l (1 : Int32) (wb_o htg)) (cwV 1 hts (gA (m4 k227 k228 k229 k2) k230) rfl rfl rfl (by decide +kernel) ⟨Nat.le_of_ble_eq_true rfl, Nat.le_of_ble_eq_true rfl⟩) (prRV hP hK hNS rfl (wb_o htg)) rfl rfl hl.1 rfl (lv_room (Nat.le_of_ble_eq_true rfl)) dX2_findReach_57 ⟨Nat.le_of_ble_eq_true rfl, Nat.le_of_ble_eq_true rfl⟩)) (fun r19 hwr19 => ?_)
    have hlr19 : r19 = ht tg := hwr19.2 (by decide)
    have htr19 : r19.toInt = (hN tg : Int) := by rw [hlr19]; exact fh_tg
    have hk_0 : (0 : Int32).toInt = (0 : Int) := by decide
    refine cJ1_v (S := Int32 × Int32 × Int32) 4 (show (w_bc h0 qa qn qx qy cI cF fa ar ln wd ht rw g nu X (u16, u17, u18) tg none pa ru)[4]? = some (qy, .inr (1, [.int u16, .int u17, .int u18])) from rfl) (va_runV (As := [.int (0 : Int32), .int r19]) (rest := []) ⟨hx, hb, hml, hown, hts⟩ (mX1_narrow l (h0 := qy) (0 : Int32) r19 (by omega) (by omega)) (cwV 2 hts (gA (m4 k221 k222 k223 k3) k224) rfl rfl rfl (by decide +kernel) ⟨Nat.le_of_ble_eq_true rfl, Nat.le_of_ble_eq_true rfl⟩) (prWV1 hP hK hNS hD rfl (show (w_bc h0 qa qn qx qy cI cF fa ar ln wd ht rw g nu X (u16, u17, u18) tg none pa ru)[4]? = some (qy, .inr (1, [.int u16, .int u17, .int u18])) from rfl)) rfl rfl hl.1 rfl (lv_room (Nat.le_of_ble_eq_true rfl)) dX2_findReach_60 ⟨Nat.le_of_ble_eq_true rfl, Nat.le_of_ble_eq_true rfl⟩) hP hD hS hA (fun r20 H locs hwr20 hP hD hS => ?_)
    obtain ⟨u21, u22, u23⟩ := r20
    try dsimp only at hwr20
    have hP : va_P (dC, dI) vwCl (w_bc h0 qa qn qx qy cI cF fa ar ln wd ht rw g nu X (u21, u22, u23) tg none pa ru) H := hP
    have hD : va_D A (w_bc h0 qa qn qx qy cI cF fa ar ln wd ht rw g nu X (u21, u22, u23) tg none pa ru) := hD
    refine lv_aload_n hx hb dX2_findReach_63 rfl (lv_at hl 0 rfl) ?_
    refine va_get (D := (dC, dI)) (ci := 2) (v := .null) (C := RX2) (T := TX2) (N := 8) hx hb hts inX2 hown hK hP 0 rfl rfl 5 (by decide) (hts _ k65) (fun _ h9 => h9) rfl dX2_findReach_64 ?_
    refine lv_ifnullN (tgt := 87) hx hb dX2_findReach_67 (by decide) ?_
    have hfr := fr_n (ax := 1) hzx2 hzx4 hzx12 hzx14 hk_0 htr19 hwr7.1 hwr7.2.1 hwr15.1 hwr15.2.1 hwr20.1 hwr20.2.1
    exact W.vret hx hb hr (fun t9 ht9 hW9 => ⟨⟨(u21, u22, u23), rfl, ⟨hfr.1, hfr.2, by dsimp only; have z1 := hwr7.2.2; have z2 := hwr15.2.2; have z3 := hwr20.2.2; omega⟩, by rw [ht9]; exact hP, va_K.moved hW9.alike hK, hD⟩, hS.F ht9⟩) hS.2.2 dX2_findReach_87
  · have h4s := hso sv rfl
    obtain ⟨fw_sv, fh_sv, fr_sv, f1_sv, f2_sv, f3_sv, f4_sv, f5_sv, f6_sv, f7_sv, fB_sv⟩ := hF sv h4s
    have frd_sv : rN wN sv = (wN sv + 15) / 16 := rfl
    refine lv_aload_n hx hb dX2_findReach_0 rfl (lv_at hl 1 rfl) ?_
    refine lv_aload_n hx hb dX2_findReach_1 rfl (lv_at hl 0 rfl) ?_
    refine va_get (D := (dC, dI)) (ci := 2) (v := .ref qn) (C := RX2) (T := TX2) (N := 8) hx hb hts inX2 hown hK hP 0 rfl rfl 1 (by decide) (hts _ k61) (fun _ h9 => h9) rfl dX2_findReach_2 ?_
    refine lv_iconst (v := 0) hx hb dX2_findReach_5 (by decide) ?_
    refine lv_iload_n hx hb dX2_findReach_6 rfl (lv_at hl 2 rfl) ?_
    refine lv_iadd hx hb dX2_findReach_7 ?_
    refine lv_topi (fun x24 ex24 => ?_)
    have hx24 : x24.toInt = (0 : Int) + (1 : Int) := by rw [ex24]; exact ti_add (by decide : (0 : Int32).toInt = (0 : Int)) (by decide : (1 : Int32).toInt = (1 : Int)) (by omega) (by omega)
    refine iaK hx hb hK hP 2 0 rfl rfl (1) (by omega) (by omega) dX2_findReach_8 ?_
    refine lv_topi (fun x25 ex25 => ?_)
    have hzx25 : x25.toInt = nz 1 := by rw [ex25]; exact (hnu 1 (by decide)).1
    refine lv_aload_n hx hb dX2_findReach_9 rfl (lv_at hl 0 rfl) ?_
    refine va_get (D := (dC, dI)) (ci := 2) (v := .ref qn) (C := RX2) (T := TX2) (N := 8) hx hb hts inX2 hown hK hP 0 rfl rfl 1 (by decide) (hts _ k61) (fun _ h9 => h9) rfl dX2_findReach_10 ?_
    refine lv_iconst (v := 2) hx hb dX2_findReach_13 (by decide) ?_
    refine lv_iload_n hx hb dX2_findReach_14 rfl (lv_at hl 2 rfl) ?_
    refine lv_iadd hx hb dX2_findReach_15 ?_
    refine lv_topi (fun x26 ex26 => ?_)
    have hx26 : x26.toInt = (2 : Int) + (1 : Int) := by rw [ex26]; exact ti_add (by decide : (2 : Int32).toInt = (2 : Int)) (by decide : (1 : Int32).toInt = (1 : Int)) (by omega) (by omega)
    refine iaK hx hb hK hP 2 0 rfl rfl (3) (by omega) (by omega) dX2_findReach_16 ?_
    refine lv_topi (fun x27 ex27 => ?_)
    have hzx27 : x27.toInt = nz 3 := by rw [ex27]; exact (hnu 3 (by decide)).1
    refine lv_aload_n hx hb dX2_findReach_17 rfl (lv_at hl 0 rfl) ?_
    refine va_get (D := (dC, dI)) (ci := 2) (v := .ref qn) (C := RX2) (T := TX2) (N := 8) hx hb hts inX2 hown hK hP 0 rfl rfl 1 (by decide) (hts _ k61) (fun _ h9 => h9) rfl dX2_findReach_18 ?_
    refine lv_iconst (v := 4) hx hb dX2_findReach_21 (by decide) ?_
    refine lv_iload_n hx hb dX2_findReach_22 rfl (lv_at hl 2 rfl) ?_
    refine lv_iadd hx hb dX2_findReach_23 ?_
    refine lv_topi (fun x28 ex28 => ?_)
    have hx28 : x28.toInt = (4 : Int) + (1 : Int) := by rw [ex28]; exact ti_add (by decide : (4 : Int32).toInt = (4 : Int)) (by decide : (1 : Int32).toInt = (1 : Int)) (by omega) (by omega)
    refine iaK hx hb hK hP 2 0 rfl rfl (5) (by omega) (by omega) dX2_findReach_24 ?_
    refine lv_topi (fun x29 ex29 => ?_)
    have hzx29 : x29.toInt = nz 5 := by rw [ex29]; exact (hnu 5 (by decide)).1
    refine cJ1_v (S := Int32 × Int32 × Int32) 4 (show (w_bc h0 qa qn qx qy cI cF fa ar ln wd ht rw g nu X Y tg (some sv) pa ru)[4]? = some (qy, .inr (1, [.int Y.1, .int Y.2.1, .int Y.2.2])) from rfl) (va_runV (As := [.int x25, .int x27, .int x29]) (rest := []) ⟨hx, hb, hml, hown, hts⟩ (mX1_begin l (h0 := qy) x25 x27 x29 (by omega) (by omega) (by omega)) (cwV 3 hts (gA (m4 k217 k218 k219 k3) k220) rfl rfl rfl (by decide +kernel) ⟨Nat.le_of_ble_eq_true rfl, Nat.le_of_ble_eq_true rfl⟩) (prWV1 hP hK hNS hD rfl (show (w_bc h0 qa qn qx qy cI cF fa ar ln wd ht rw g nu X Y tg (some sv) pa ru)[4]? = some (qy, .inr (1, [.int Y.1, .int Y.2.1, .int Y.2.2])) from rfl)) rfl rfl hl.1 rfl (lv_room (Nat.le_of_ble_eq_true rfl)) dX2_findReach_25 ⟨Nat.le_of_ble_eq_true rfl, Nat.le_of_ble_eq_true rfl⟩) hP hD hS hA (fun r30 H locs hwr30 hP hD hS => ?_)
    obtain ⟨u31, u32, u33⟩ := r30
    try dsimp only at hwr30
    have hP : va_P (dC, dI) vwCl (w_bc h0 qa qn qx qy cI cF fa ar ln wd ht rw g nu X (u31, u32, u33) tg (some sv) pa ru) H := hP
    have hD : va_D A (w_bc h0 qa qn qx qy cI cF fa ar ln wd ht rw g nu X (u31, u32, u33) tg (some sv) pa ru) := hD
    refine lv_aload_n hx hb dX2_findReach_28 rfl (lv_at hl 1 rfl) ?_
    refine lv_aload_n hx hb dX2_findReach_29 rfl (lv_at hl 0 rfl) ?_
    refine va_get (D := (dC, dI)) (ci := 2) (v := .ref qn) (C := RX2) (T := TX2) (N := 8) hx hb hts inX2 hown hK hP 0 rfl rfl 1 (by decide) (hts _ k61) (fun _ h9 => h9) rfl dX2_findReach_30 ?_
    refine lv_bipush (v := (6)) hx hb dX2_findReach_33 (by decide) ?_
    refine lv_iload_n hx hb dX2_findReach_35 rfl (lv_at hl 2 rfl) ?_
    refine lv_iadd hx hb dX2_findReach_36 ?_
    refine lv_topi (fun x34 ex34 => ?_)
    have hx34 : x34.toInt = (6 : Int) + (1 : Int) := by rw [ex34]; exact ti_add (by decide : (6 : Int32).toInt = (6 : Int)) (by decide : (1 : Int32).toInt = (1 : Int)) (by omega) (by omega)
    refine iaK hx hb hK hP 2 0 rfl rfl (7) (by omega) (by omega) dX2_findReach_37 ?_
    refine lv_topi (fun x35 ex35 => ?_)
    have hzx35 : x35.toInt = nz 7 := by rw [ex35]; exact (hnu 7 (by decide)).1
    refine lv_aload_n hx hb dX2_findReach_38 rfl (lv_at hl 0 rfl) ?_
    refine va_get (D := (dC, dI)) (ci := 2) (v := .ref qn) (C := RX2) (T := TX2) (N := 8) hx hb hts inX2 hown hK hP 0 rfl rfl 1 (by decide) (hts _ k61) (fun _ h9 => h9) rfl dX2_findReach_39 ?_
    refine lv_bipush (v := (8)) hx hb dX2_findReach_42 (by decide) ?_
    refine lv_iload_n hx hb dX2_findReach_44 rfl (lv_at hl 2 rfl) ?_
    refine lv_iadd hx hb dX2_findReach_45 ?_
    refine lv_topi (fun x36 ex36 => ?_)
    have hx36 : x36.toInt = (8 : Int) + (1 : Int) := by rw [ex36]; exact ti_add (by decide : (8 : Int32).toInt = (8 : Int)) (by decide : (1 : Int32).toInt = (1 : Int)) (by omega) (by omega)
    refine iaK hx hb hK hP 2 0 rfl rfl (9) (by omega) (by omega) dX2_findReach_46 ?_
    refine lv_topi (fun x37 ex37 => ?_)
    have hzx37 : x37.toInt = nz 9 := by rw [ex37]; exact (hnu 9 (by decide)).1
    refine cJ1_v (S := Int32 × Int32 × Int32) 4 (show (w_bc h0 qa qn qx qy cI cF fa ar ln wd ht rw g nu X (u31, u32, u33) tg (some sv) pa ru)[4]? = some (qy, .inr (1, [.int u31, .int u32, .int u33])) from rfl) (va_runV (As := [.int x35, .int x37]) (rest := []) ⟨hx, hb, hml, hown, hts⟩ (mX1_narrow l (h0 := qy) x35 x37 (by omega) (by omega)) (cwV 2 hts (gA (m4 k221 k222 k223 k3) k224) rfl rfl rfl (by decide +kernel) ⟨Nat.le_of_ble_eq_true rfl, Nat.le_of_ble_eq_true rfl⟩) (prWV1 hP hK hNS hD rfl (show (w_bc h0 qa qn qx qy cI cF fa ar ln wd ht rw g nu X (u31, u32, u33) tg (some sv) pa ru)[4]? = some (qy, .inr (1, [.int u31, .int u32, .int u33])) from rfl)) rfl rfl hl.1 rfl (lv_room (Nat.le_of_ble_eq_true rfl)) dX2_findReach_47 ⟨Nat.le_of_ble_eq_true rfl, Nat.le_of_ble_eq_true rfl⟩) hP hD hS hA (fun r38 H locs hwr38 hP hD hS => ?_)
    obtain ⟨u39, u40, u41⟩ := r38
    try dsimp only at hwr38
    have hP : va_P (dC, dI) vwCl (w_bc h0 qa qn qx qy cI cF fa ar ln wd ht rw g nu X (u39, u40, u41) tg (some sv) pa ru) H := hP
    have hD : va_D A (w_bc h0 qa qn qx qy cI cF fa ar ln wd ht rw g nu X (u39, u40, u41) tg (some sv) pa ru) := hD
    refine lv_aload_n hx hb dX2_findReach_50 rfl (lv_at hl 1 rfl) ?_
    refine lv_iconst (v := 0) hx hb dX2_findReach_51 (by decide) ?_
    refine lv_aload_n hx hb dX2_findReach_52 rfl (lv_at hl 0 rfl) ?_
    refine va_get (D := (dC, dI)) (ci := 2) (v := .ref (fa tg)) (C := RX2) (T := TX2) (N := 8) hx hb hts inX2 hown hK hP 0 rfl rfl 4 (by decide) (hts _ k64) (fun _ h9 => h9) rfl dX2_findReach_53 ?_
    refine lv_iload_n hx hb dX2_findReach_56 rfl (lv_at hl 2 rfl) ?_
    have hk_1 : (1 : Int32).toInt = (1 : Int) := by decide
    refine vp_callSi (va_Run.run (va_runV (As := [.int (1 : Int32)]) (rest := [.int (0 : Int32), .ref qy]) ⟨hx, hb, hml, hown, hts⟩ (mX0_lengthAlong l (1 : Int32) (wb_o htg)) (cwV 1 hts (gA (m4 k227 k228 k229 k2) k230) rfl rfl rfl (by decide +kernel) ⟨Nat.le_of_ble_eq_true rfl, Nat.le_of_ble_eq_true rfl⟩) (prRV hP hK hNS rfl (wb_o htg)) rfl rfl hl.1 rfl (lv_room (Nat.le_of_ble_eq_true rfl)) dX2_findReach_57 ⟨Nat.le_of_ble_eq_true rfl, Nat.le_of_ble_eq_true rfl⟩)) (fun r42 hwr42 => ?_)
    have hlr42 : r42 = ht tg := hwr42.2 (by decide)
    have htr42 : r42.toInt = (hN tg : Int) := by rw [hlr42]; exact fh_tg
    have hk_0 : (0 : Int32).toInt = (0 : Int) := by decide
    refine cJ1_v (S := Int32 × Int32 × Int32) 4 (show (w_bc h0 qa qn qx qy cI cF fa ar ln wd ht rw g nu X (u39, u40, u41) tg (some sv) pa ru)[4]? = some (qy, .inr (1, [.int u39, .int u40, .int u41])) from rfl) (va_runV (As := [.int (0 : Int32), .int r42]) (rest := []) ⟨hx, hb, hml, hown, hts⟩ (mX1_narrow l (h0 := qy) (0 : Int32) r42 (by omega) (by omega)) (cwV 2 hts (gA (m4 k221 k222 k223 k3) k224) rfl rfl rfl (by decide +kernel) ⟨Nat.le_of_ble_eq_true rfl, Nat.le_of_ble_eq_true rfl⟩) (prWV1 hP hK hNS hD rfl (show (w_bc h0 qa qn qx qy cI cF fa ar ln wd ht rw g nu X (u39, u40, u41) tg (some sv) pa ru)[4]? = some (qy, .inr (1, [.int u39, .int u40, .int u41])) from rfl)) rfl rfl hl.1 rfl (lv_room (Nat.le_of_ble_eq_true rfl)) dX2_findReach_60 ⟨Nat.le_of_ble_eq_true rfl, Nat.le_of_ble_eq_true rfl⟩) hP hD hS hA (fun r43 H locs hwr43 hP hD hS => ?_)
    obtain ⟨u44, u45, u46⟩ := r43
    try dsimp only at hwr43
    have hP : va_P (dC, dI) vwCl (w_bc h0 qa qn qx qy cI cF fa ar ln wd ht rw g nu X (u44, u45, u46) tg (some sv) pa ru) H := hP
    have hD : va_D A (w_bc h0 qa qn qx qy cI cF fa ar ln wd ht rw g nu X (u44, u45, u46) tg (some sv) pa ru) := hD
    refine lv_aload_n hx hb dX2_findReach_63 rfl (lv_at hl 0 rfl) ?_
    refine va_get (D := (dC, dI)) (ci := 2) (v := .ref (fa sv)) (C := RX2) (T := TX2) (N := 8) hx hb hts inX2 hown hK hP 0 rfl rfl 5 (by decide) (hts _ k65) (fun _ h9 => h9) rfl dX2_findReach_64 ?_
    refine lv_ifnull hx hb dX2_findReach_67 ?_
    refine lv_aload_n hx hb dX2_findReach_70 rfl (lv_at hl 1 rfl) ?_
    refine lv_aload_n hx hb dX2_findReach_71 rfl (lv_at hl 1 rfl) ?_
    refine va_getN (D := (dC, dI)) (ci := 1) (v := .int u46) (C := RX1) (T := TX1) (N := 3) hx hb hts inX1 hown hK hP 4 rfl rfl 2 (by decide) (va_Nw.use rfl (hNS.2.2.2.2.2.2.2.1)) (fun _ h9 => h9) rfl dX2_findReach_72 ?_
    refine lv_ineg hx hb dX2_findReach_75 ?_
    refine lv_topi (fun x47 ex47 => ?_)
    have hx47 : x47.toInt = -u46.toInt := by rw [ex47]; exact ti_neg rfl (by omega)
    refine lv_aload_n hx hb dX2_findReach_76 rfl (lv_at hl 0 rfl) ?_
    refine va_get (D := (dC, dI)) (ci := 2) (v := .ref (fa sv)) (C := RX2) (T := TX2) (N := 8) hx hb hts inX2 hown hK hP 0 rfl rfl 5 (by decide) (hts _ k65) (fun _ h9 => h9) rfl dX2_findReach_77 ?_
    refine lv_iload_n hx hb dX2_findReach_80 rfl (lv_at hl 2 rfl) ?_
    have hk_1 : (1 : Int32).toInt = (1 : Int) := by decide
    refine vp_callSi (va_Run.run (va_runV (As := [.int (1 : Int32)]) (rest := [.int x47, .ref qy]) ⟨hx, hb, hml, hown, hts⟩ (mX0_lengthAlong l (1 : Int32) (wb_o h4s)) (cwV 1 hts (gA (m4 k227 k228 k229 k2) k230) rfl rfl rfl (by decide +kernel) ⟨Nat.le_of_ble_eq_true rfl, Nat.le_of_ble_eq_true rfl⟩) (prRV hP hK hNS rfl (wb_o h4s)) rfl rfl hl.1 rfl (lv_room (Nat.le_of_ble_eq_true rfl)) dX2_findReach_81 ⟨Nat.le_of_ble_eq_true rfl, Nat.le_of_ble_eq_true rfl⟩)) (fun r48 hwr48 => ?_)
    have hlr48 : r48 = ht sv := hwr48.2 (by decide)
    have htr48 : r48.toInt = (hN sv : Int) := by rw [hlr48]; exact fh_sv
    refine cJ1_v (S := Int32 × Int32 × Int32) 4 (show (w_bc h0 qa qn qx qy cI cF fa ar ln wd ht rw g nu X (u44, u45, u46) tg (some sv) pa ru)[4]? = some (qy, .inr (1, [.int u44, .int u45, .int u46])) from rfl) (va_runV (As := [.int x47, .int r48]) (rest := []) ⟨hx, hb, hml, hown, hts⟩ (mX1_narrow l (h0 := qy) x47 r48 (by omega) (by omega)) (cwV 2 hts (gA (m4 k221 k222 k223 k3) k224) rfl rfl rfl (by decide +kernel) ⟨Nat.le_of_ble_eq_true rfl, Nat.le_of_ble_eq_true rfl⟩) (prWV1 hP hK hNS hD rfl (show (w_bc h0 qa qn qx qy cI cF fa ar ln wd ht rw g nu X (u44, u45, u46) tg (some sv) pa ru)[4]? = some (qy, .inr (1, [.int u44, .int u45, .int u46])) from rfl)) rfl rfl hl.1 rfl (lv_room (Nat.le_of_ble_eq_true rfl)) dX2_findReach_84 ⟨Nat.le_of_ble_eq_true rfl, Nat.le_of_ble_eq_true rfl⟩) hP hD hS hA (fun r49 H locs hwr49 hP hD hS => ?_)
    obtain ⟨u50, u51, u52⟩ := r49
    try dsimp only at hwr49
    have hP : va_P (dC, dI) vwCl (w_bc h0 qa qn qx qy cI cF fa ar ln wd ht rw g nu X (u50, u51, u52) tg (some sv) pa ru) H := hP
    have hD : va_D A (w_bc h0 qa qn qx qy cI cF fa ar ln wd ht rw g nu X (u50, u51, u52) tg (some sv) pa ru) := hD
    have hfr := fr_s (ax := 1) hzx25 hzx27 hzx29 hzx35 hzx37 hk_0 htr42 htr48 hwr30.1 hwr30.2.1 hwr30.2.2 hwr38.1 hwr38.2.1 hwr43.1 hwr43.2.1 (hx47.trans (by rw [hwr43.2.2, hwr38.2.2])) hwr49.1 hwr49.2.1
    exact W.vret hx hb hr (fun t9 ht9 hW9 => ⟨⟨(u50, u51, u52), rfl, ⟨hfr.1, hfr.2, by dsimp only; have z1 := hwr30.2.2; have z2 := hwr38.2.2; have z3 := hwr43.2.2; have z4 := hwr49.2.2; omega⟩, by rw [ht9]; exact hP, va_K.moved hW9.alike hK, hD⟩, hS.F ht9⟩) hS.2.2 dX2_findReach_87
set_option maxHeartbeats 8000000 in
set_option maxRecDepth 100000 in
theorem mX2_copyRow (l : Launch) {dC : Nat → ClassId} {dI : Nat → Nat → Nat} {sz : Nat} {h0 qa qn qx qy : Nat} {cI cF : ClassId} {fa ar ln : Nat → Nat} {wd ht rw : Nat → Int32} {g : Nat → Nat → Int32} {nu : Nat → Int32} {X Y : Int32 × Int32 × Int32} {tg : Nat} {so pa : Option Nat} {ru : Int32} {wN hN : Nat → Nat} {nz : Nat → Int} (y : Int32) (hR : CS wN hN nz tg so pa ru ln wd ht rw g nu) {st en yn : Nat} (hst : X.1.toInt = (st : Int)) (hen : X.2.1.toInt = (en : Int)) (hse : st < en) (hew : en ≤ wN tg) (hy : y.toInt = (yn : Int)) (hyh : yn < hN tg) (hxb : -100000 ≤ X.2.2.toInt ∧ X.2.2.toInt ≤ 100000) (hyb2 : -100000 ≤ Y.2.2.toInt ∧ Y.2.2.toInt ≤ 100000) (hpp : ∀ q, pa = some q → wN q = 16 ∧ hN q = 16) : Met l yX2_copyRow (wM yX2_copyRow cX2_copyRow 10 none) ({ frames := 3, cells := 0, slots := 0, locals := 69 }) (va_Pc [.ref h0, .int y] (wP (dC, dI) vwCl (tyB cI cF) (w_bc h0 qa qn qx qy cI cF fa ar ln wd ht rw g nu X Y tg so pa ru) sz)) (va_Qv (fun u : Nat → Nat → Int32 => RI g u tg (rN wN) hN so pa X.2.2.toInt Y.2.2.toInt ru st en yn (prn X.2.2 st en ((en - 1) / 16 - st / 16 + 1)) ∧ ∀ f, f < 4 → ∀ i j, 16 ≤ j → bt (u f i) j = false) (wB (dC, dI) vwCl (va_A (w_bc h0 qa qn qx qy cI cF fa ar ln wd ht rw g nu X Y tg so pa ru) sz) (fun u : Nat → Nat → Int32 => (tyB cI cF)) (fun u : Nat → Nat → Int32 => (w_bc h0 qa qn qx qy cI cF fa ar ln wd ht rw u nu X Y tg so pa ru))) (va_A (w_bc h0 qa qn qx qy cI cF fa ar ln wd ht rw g nu X Y tg so pa ru) sz)) 0 0 (va_A (w_bc h0 qa qn qx qy cI cF fa ar ln wd ht rw g nu X Y tg so pa ru) sz) := by
  refine Met.ofW (cc := cX2_copyRow) (maxL := 10) (ret := none) (by decide +kernel) rfl ?_
  intro p e s m args below meth c s₁ B hml hv
  obtain ⟨rfl, hsz, hP, hK, hD0, hNS⟩ := hv
  have hx := B.exec
  have hb := B.bytes
  have hr := B.returns
  have hts : ∀ w ∈ tblG, w.before _ s = true := fun w h => atoms_spec (ws := wM yX2_copyRow cX2_copyRow 10 none) B.pre w (List.mem_cons_of_mem _ h)
  have hown : s.vm.findClass RX2 = some m.cls := findClass_of_methodNamed B.named
  have hlocks := B.notSynchronized
  subst hsz
  have hD := hD0.self (sz := s.heap.size)
  generalize hAe : va_A (w_bc h0 qa qn qx qy cI cF fa ar ln wd ht rw g nu X Y tg so pa ru) s.heap.size = A at hD ⊢
  have hA : ∀ q : Nat, s.heap.size ≤ q → A q := fun q h => by rw [← hAe]; exact Or.inr h
  have hS : va_S A s.heap s.heap [] := va_S.rf
  have hP : va_P (dC, dI) vwCl (w_bc h0 qa qn qx qy cI cF fa ar ln wd ht rw g nu X Y tg so pa ru) s.heap := hP
  have hl := lv_entry ([.ref h0, .int y]) (n := 10) (Nat.le_of_ble_eq_true rfl)
  rw [lg_entry_eq]
  generalize (lg_sl ([.ref h0, .int y]) ++ List.replicate (10 - (lg_sl ([.ref h0, .int y])).length) Slot.unset).toArray = ls at hl ⊢
  have hl : lv_has ls 10 [(0, .ref h0), (1, .int y)] := hl
  obtain ⟨hF, hnu, htg, hso, hpa, hr1, hr2⟩ := id hR
  obtain ⟨fw_tg, fh_tg, fr_tg, f1_tg, f2_tg, f3_tg, f4_tg, f5_tg, f6_tg, f7_tg, fB_tg⟩ := hF tg htg
  have frd_tg : rN wN tg = (wN tg + 15) / 16 := rfl
  obtain ⟨xa, xb, xc⟩ := X
  obtain ⟨ya, yb, yc⟩ := Y
  dsimp only at hst hen hxb hyb2
  have hpt : pa = some tg → rN wN tg = 1 ∧ hN tg = 16 := fun q => by obtain ⟨q1, q2⟩ := hpp tg q; unfold rN; omega
  have hP : va_P (dC, dI) vwCl (w_bc h0 qa qn qx qy cI cF fa ar ln wd ht rw g nu (xa, xb, xc) (ya, yb, yc) tg so pa ru) s.heap := hP
  have hD : va_D A (w_bc h0 qa qn qx qy cI cF fa ar ln wd ht rw g nu (xa, xb, xc) (ya, yb, yc) tg so pa ru) := hD
  refine mrg (fun lw : Int32 => (lw.toInt = 1 ∧ xc.toInt < 0) ∨ (lw.toInt = 0 ∧ 0 ≤ xc.toInt)) (fun lw => F0 m 15 ls [.int lw]) (fun lw hlw => ?_) (fun tl => ?_)
  · refine lv_istore_n (lv' := [(2, .int lw), (0, .ref h0), (1, .int y)]) hx hb dX2_copyRow_15 rfl hl (by decide) rfl (fun ls hl => ?_)
    refine lv_aload_n hx hb dX2_copyRow_16 rfl (lv_at hl 1 rfl) ?_
    refine va_get (D := (dC, dI)) (ci := 2) (v := .ref qx) (C := RX2) (T := TX2) (N := 8) hx hb hts inX2 hown hK hP 0 rfl rfl 2 (by decide) (hts _ k62) (fun _ h9 => h9) rfl dX2_copyRow_17 ?_
    refine va_getN (D := (dC, dI)) (ci := 1) (v := .int xa) (C := RX1) (T := TX1) (N := 3) hx hb hts inX1 hown hK hP 3 rfl rfl 0 (by decide) (va_Nw.use rfl (hNS.2.2.2.2.2.1)) (fun _ h9 => h9) rfl dX2_copyRow_20 ?_
    refine lv_bipush (v := (16)) hx hb dX2_copyRow_23 (by decide) ?_
    refine lv_idiv hx hb dX2_copyRow_25 (by decide) ?_
    refine lv_topi (fun x1 ex1 => ?_)
    have hx1 : x1.toInt = xa.toInt / (16 : Int) := by rw [ex1]; exact ti_div rfl (by decide : (16 : Int32).toInt = (16 : Int)) (by omega) (by omega)
    refine lv_istore_n (lv' := [(3, .int x1), (2, .int lw), (0, .ref h0), (1, .int y)]) hx hb dX2_copyRow_26 rfl hl (by decide) rfl (fun ls hl => ?_)
    refine lv_aload_n hx hb dX2_copyRow_27 rfl (lv_at hl 2 rfl) ?_
    refine va_get (D := (dC, dI)) (ci := 2) (v := .ref qx) (C := RX2) (T := TX2) (N := 8) hx hb hts inX2 hown hK hP 0 rfl rfl 2 (by decide) (hts _ k62) (fun _ h9 => h9) rfl dX2_copyRow_28 ?_
    refine va_getN (D := (dC, dI)) (ci := 1) (v := .int xb) (C := RX1) (T := TX1) (N := 3) hx hb hts inX1 hown hK hP 3 rfl rfl 1 (by decide) (va_Nw.use rfl (hNS.2.2.2.2.2.2.1)) (fun _ h9 => h9) rfl dX2_copyRow_31 ?_
    refine lv_iconst (v := 1) hx hb dX2_copyRow_34 (by decide) ?_
    refine lv_isub hx hb dX2_copyRow_35 ?_
    refine lv_topi (fun x2 ex2 => ?_)
    have hx2 : x2.toInt = xb.toInt - (1 : Int) := by rw [ex2]; exact ti_sub rfl (by decide : (1 : Int32).toInt = (1 : Int)) (by omega) (by omega)
    refine lv_bipush (v := (16)) hx hb dX2_copyRow_36 (by decide) ?_
    refine lv_idiv hx hb dX2_copyRow_38 (by decide) ?_
    refine lv_topi (fun x3 ex3 => ?_)
    have hx3 : x3.toInt = x2.toInt / (16 : Int) := by rw [ex3]; exact ti_div rfl (by decide : (16 : Int32).toInt = (16 : Int)) (by omega) (by omega)
    refine lv_istore (lv' := [(4, .int x3), (3, .int x1), (2, .int lw), (0, .ref h0), (1, .int y)]) hx hb dX2_copyRow_39 hl (by decide) rfl (fun ls hl => ?_)
    refine lv_iconst (v := 0) hx hb dX2_copyRow_41 (by decide) ?_
    refine lv_istore (lv' := [(5, .int (0 : Int32)), (4, .int x3), (3, .int x1), (2, .int lw), (0, .ref h0), (1, .int y)]) hx hb dX2_copyRow_42 hl (by decide) rfl (fun ls hl => ?_)
    have hfl : x1.toInt = ((st / 16 : Nat) : Int) := by omega
    have hll : x3.toInt = (((en - 1) / 16 : Nat) : Int) := by omega
    refine lpW (σ := Heap × List Loc × Array Slot × Int32 × Nat × (Nat → Nat → Int32)) (fun u => match u with | (H, locs, ls, i0, n0, gn) => lv_has ls 10 [(0, .ref h0), (1, .int y), (2, .int lw), (3, .int x1), (4, .int x3), (5, .int i0)] ∧ va_P (dC, dI) vwCl (w_bc h0 qa qn qx qy cI cF fa ar ln wd ht rw gn nu (xa, xb, xc) (ya, yb, yc) tg so pa ru) H ∧ va_D A (w_bc h0 qa qn qx qy cI cF fa ar ln wd ht rw gn nu (xa, xb, xc) (ya, yb, yc) tg so pa ru) ∧ va_S A s.heap H locs ∧ (i0.toInt = (n0 : Int)) ∧ (n0 ≤ (en - 1) / 16 - st / 16 + 1) ∧ (RI g gn tg (rN wN) hN so pa xc.toInt yc.toInt ru st en yn (prn xc st en n0)) ∧ (∀ f, f < 4 → ∀ i j, 16 ≤ j → bt (gn f i) j = false)) (fun u => match u with | (H, locs, ls, i0, n0, gn) => (en - 1) / 16 - st / 16 + 1 - n0) (fun u : Heap × List Loc × Array Slot × Int32 × Nat × (Nat → Nat → Int32) => u.1) (fun u : Heap × List Loc × Array Slot × Int32 × Nat × (Nat → Nat → Int32) => u.2.1) (fun u => F0 m 44 u.2.2.1 []) (fun u hu ih44 => ?_) (s.heap, [], ls, 0, 0, g) ⟨lv_sub hl [4, 5, 3, 2, 1, 0] rfl, hP, hD, hS, rfl, Nat.zero_le _, RI_0 (fun q hq => by unfold prn at hq; omega), fun f hf => (hF f hf).2.2.2.2.2.2.2.2.2.2⟩
    obtain ⟨H, locs, ls, i0, n0, gn⟩ := u
    obtain ⟨hl, hP, hD, hS, hi0, hn0, hRI, hHi⟩ := hu
    dsimp only
    refine lv_iload hx hb dX2_copyRow_44 (lv_at hl 5 rfl) ?_
    refine lv_iload hx hb dX2_copyRow_46 (lv_at hl 4 rfl) ?_
    refine lv_iload_n hx hb dX2_copyRow_48 rfl (lv_at hl 3 rfl) ?_
    refine lv_isub hx hb dX2_copyRow_49 ?_
    refine lv_topi (fun x4 ex4 => ?_)
    have hx4 : x4.toInt = x3.toInt - x1.toInt := by rw [ex4]; exact ti_sub rfl rfl (by omega) (by omega)
    refine lv_icmp_gt (tgt := 158) hx hb dX2_copyRow_50 (by decide) (fun c5 => ?_) (fun c5 => ?_)
    · replace c5 := (ti_lt rfl rfl).mp c5
      exact W.vret hx hb hr (fun t9 ht9 hW9 => ⟨⟨gn, rfl, ⟨by rw [show (en - 1) / 16 - st / 16 + 1 = n0 by omega]; exact hRI, hHi⟩, by rw [ht9]; exact hP, va_K.moved hW9.alike hK, hD⟩, hS.F ht9⟩) hS.2.2 dX2_copyRow_158
    · replace c5 := mt (ti_lt rfl rfl).mpr c5
      refine mrg (fun k : Int32 => (xc.toInt < 0 → k.toInt = (((en - 1) / 16 : Nat) : Int) - n0) ∧ (0 ≤ xc.toInt → k.toInt = ((st / 16 : Nat) : Int) + n0)) (fun k => F0 m 69 ls [.int k]) (fun k hKk => ?_) (fun tk => ?_)
      · obtain ⟨kn, hkn⟩ : ∃ kn : Nat, k.toInt = (kn : Int) := ⟨k.toInt.toNat, by omega⟩
        have hkr : kn < rN wN tg := by unfold rN; omega
        refine lv_istore (lv' := [(6, .int k), (0, .ref h0), (1, .int y), (2, .int lw), (3, .int x1), (4, .int x3), (5, .int i0)]) hx hb dX2_copyRow_69 hl (by decide) rfl (fun ls hl => ?_)
        refine lv_iload_n hx hb dX2_copyRow_71 rfl (lv_at hl 2 rfl) ?_
        refine lv_aload_n hx hb dX2_copyRow_72 rfl (lv_at hl 1 rfl) ?_
        refine va_get (D := (dC, dI)) (ci := 2) (v := .ref (fa tg)) (C := RX2) (T := TX2) (N := 8) hx hb hts inX2 hown hK hP 0 rfl rfl 4 (by decide) (hts _ k64) (fun _ h9 => h9) rfl dX2_copyRow_73 ?_
        refine va_getN (D := (dC, dI)) (ci := 0) (v := .int (rw tg)) (C := RX0) (T := TX0) (N := 4) hx hb hts inX0 hown hK hP (5 + tg) (wb_o htg) rfl 2 (by decide) (va_Nw.use rfl (hNS.2.2.1)) (fun _ h9 => h9) rfl dX2_copyRow_76 ?_
        have hmb := mul_bd (a := y.toInt) (b := (rw tg).toInt) (A := 4000) (B := 4000) (by omega) (by omega) (by omega) (by omega)
        refine lv_imul hx hb dX2_copyRow_79 ?_
        refine lv_topi (fun x6 ex6 => ?_)
        have hx6 : x6.toInt = y.toInt * (rw tg).toInt := by rw [ex6]; exact ti_mul rfl rfl (by omega) (by omega)
        refine lv_iload hx hb dX2_copyRow_80 (lv_at hl 0 rfl) ?_
        refine lv_iadd hx hb dX2_copyRow_82 ?_
        refine lv_topi (fun x7 ex7 => ?_)
        have hx7 : x7.toInt = x6.toInt + k.toInt := by rw [ex7]; exact ti_add rfl rfl (by omega) (by omega)
        refine lv_istore (lv' := [(7, .int x7), (6, .int k), (0, .ref h0), (1, .int y), (2, .int lw), (3, .int x1), (4, .int x3), (5, .int i0)]) hx hb dX2_copyRow_83 hl (by decide) rfl (fun ls hl => ?_)
        refine lv_aload_n hx hb dX2_copyRow_85 rfl (lv_at hl 2 rfl) ?_
        refine va_get (D := (dC, dI)) (ci := 2) (v := .ref (fa tg)) (C := RX2) (T := TX2) (N := 8) hx hb hts inX2 hown hK hP 0 rfl rfl 4 (by decide) (hts _ k64) (fun _ h9 => h9) rfl dX2_copyRow_86 ?_
        refine va_getN (D := (dC, dI)) (ci := 0) (v := .ref (ar tg)) (C := RX0) (T := TX0) (N := 4) hx hb hts inX0 hown hK hP (5 + tg) (wb_o htg) rfl 3 (by decide) (va_Nw.use rfl (hNS.2.2.2.1)) (fun _ h9 => h9) rfl dX2_copyRow_89 ?_
        refine lv_iload hx hb dX2_copyRow_92 (lv_at hl 0 rfl) ?_
        have hix : x7.toInt = ((yn * rN wN tg + kn : Nat) : Int) := by rw [hx7, hx6, hy, fr_tg, hkn, Int.natCast_add, Int.natCast_mul]
        have hixb : yn * rN wN tg + kn < ln tg := Nat.lt_of_lt_of_le (rc_lt hkr hyh) f3_tg
        refine iaK hx hb hK hP (9 + tg) 0 (wb_a htg) rfl (yn * rN wN tg + kn) (hix) (by omega) dX2_copyRow_94 ?_
        refine lv_topi (fun x8 ex8 => ?_)
        refine lv_istore (lv' := [(8, .int x8), (7, .int x7), (6, .int k), (0, .ref h0), (1, .int y), (2, .int lw), (3, .int x1), (4, .int x3), (5, .int i0)]) hx hb dX2_copyRow_95 hl (by decide) rfl (fun ls hl => ?_)
        refine lv_iload hx hb dX2_copyRow_97 (lv_at hl 2 rfl) ?_
        refine lv_aload_n hx hb dX2_copyRow_99 rfl (lv_at hl 3 rfl) ?_
        refine va_get (D := (dC, dI)) (ci := 2) (v := .ref qx) (C := RX2) (T := TX2) (N := 8) hx hb hts inX2 hown hK hP 0 rfl rfl 2 (by decide) (hts _ k62) (fun _ h9 => h9) rfl dX2_copyRow_100 ?_
        refine va_getN (D := (dC, dI)) (ci := 1) (v := .int xa) (C := RX1) (T := TX1) (N := 3) hx hb hts inX1 hown hK hP 3 rfl rfl 0 (by decide) (va_Nw.use rfl (hNS.2.2.2.2.2.1)) (fun _ h9 => h9) rfl dX2_copyRow_103 ?_
        refine lv_aload_n hx hb dX2_copyRow_106 rfl (lv_at hl 3 rfl) ?_
        refine va_get (D := (dC, dI)) (ci := 2) (v := .ref qx) (C := RX2) (T := TX2) (N := 8) hx hb hts inX2 hown hK hP 0 rfl rfl 2 (by decide) (hts _ k62) (fun _ h9 => h9) rfl dX2_copyRow_107 ?_
        refine va_getN (D := (dC, dI)) (ci := 1) (v := .int xb) (C := RX1) (T := TX1) (N := 3) hx hb hts inX1 hown hK hP 3 rfl rfl 1 (by decide) (va_Nw.use rfl (hNS.2.2.2.2.2.2.1)) (fun _ h9 => h9) rfl dX2_copyRow_110 ?_
        refine vp_callSi (va_Run.run (va_runS (As := [.int k, .int xa, .int xb]) (rest := []) ⟨hx, hb, hml, hown, hts⟩ (mX2_spanMask l k xa xb (by omega) (by omega) (by omega) (by omega) (by omega)) (va_cwS 3 hts (gA (m3 k239 k130 k1) k131) rfl rfl rfl (by decide +kernel) ⟨Nat.le_of_ble_eq_true rfl, Nat.le_of_ble_eq_true rfl⟩) (prT) rfl rfl hl.1 rfl (lv_room (Nat.le_of_ble_eq_true rfl)) dX2_copyRow_113 ⟨Nat.le_of_ble_eq_true rfl, Nat.le_of_ble_eq_true rfl⟩)) (fun r9 hwr9 => ?_)
        try dsimp only at hwr9
        refine lv_istore (lv' := [(9, .int r9), (8, .int x8), (7, .int x7), (6, .int k), (0, .ref h0), (1, .int y), (2, .int lw), (3, .int x1), (4, .int x3), (5, .int i0)]) hx hb dX2_copyRow_116 hl (by decide) rfl (fun ls hl => ?_)
        refine lv_aload_n hx hb dX2_copyRow_118 rfl (lv_at hl 4 rfl) ?_
        refine va_get (D := (dC, dI)) (ci := 2) (v := .ref (fa tg)) (C := RX2) (T := TX2) (N := 8) hx hb hts inX2 hown hK hP 0 rfl rfl 4 (by decide) (hts _ k64) (fun _ h9 => h9) rfl dX2_copyRow_119 ?_
        refine va_getN (D := (dC, dI)) (ci := 0) (v := .ref (ar tg)) (C := RX0) (T := TX0) (N := 4) hx hb hts inX0 hown hK hP (5 + tg) (wb_o htg) rfl 3 (by decide) (va_Nw.use rfl (hNS.2.2.2.1)) (fun _ h9 => h9) rfl dX2_copyRow_122 ?_
        refine lv_iload hx hb dX2_copyRow_125 (lv_at hl 2 rfl) ?_
        refine lv_iload hx hb dX2_copyRow_127 (lv_at hl 1 rfl) ?_
        refine lv_iload hx hb dX2_copyRow_129 (lv_at hl 0 rfl) ?_
        refine lv_iconst (v := (-1)) hx hb dX2_copyRow_131 (by decide) ?_
        refine lv_ixor hx hb dX2_copyRow_132 ?_
        refine lv_topi (fun x10 ex10 => ?_)
        refine lv_iand hx hb dX2_copyRow_133 ?_
        refine lv_topi (fun x11 ex11 => ?_)
        refine lv_aload_n hx hb dX2_copyRow_134 rfl (lv_at hl 4 rfl) ?_
        refine lv_aload_n hx hb dX2_copyRow_135 rfl (lv_at hl 4 rfl) ?_
        refine lv_iload hx hb dX2_copyRow_136 (lv_at hl 3 rfl) ?_
        refine lv_iload_n hx hb dX2_copyRow_138 rfl (lv_at hl 5 rfl) ?_
        refine vp_callSi (va_Run.run (va_runV (As := [.int k, .int y]) (rest := [.ref h0, .int x11, .int x7, .ref (ar tg)]) ⟨hx, hb, hml, hown, hts⟩ (mX2_incoming l k y (hR.words hHi) hkn hy (by omega) (by omega) hxb hyb2 hpp) (cwV 2 hts (gA (m4 k240 k242 ksel4 k1) k243) rfl rfl rfl (by decide +kernel) ⟨Nat.le_of_ble_eq_true rfl, Nat.le_of_ble_eq_true rfl⟩) (prRV hP hK hNS rfl (show (w_bc h0 qa qn qx qy cI cF fa ar ln wd ht rw gn nu (xa, xb, xc) (ya, yb, yc) tg so pa ru)[0]? = some (h0, .inr (2, [.ref qa, .ref qn, .ref qx, .ref qy, .ref (fa tg), va_rf (so.map fa), va_rf (pa.map fa), .int ru])) from rfl)) rfl rfl hl.1 rfl (lv_room (Nat.le_of_ble_eq_true rfl)) dX2_copyRow_139 ⟨Nat.le_of_ble_eq_true rfl, Nat.le_of_ble_eq_true rfl⟩)) (fun r12 hwr12 => ?_)
        try dsimp only at hwr12
        refine lv_iload hx hb dX2_copyRow_142 (lv_at hl 1 rfl) ?_
        refine vp_callSi (va_Run.run (va_runV (As := [.int r12, .int x8]) (rest := [.int x11, .int x7, .ref (ar tg)]) ⟨hx, hb, hml, hown, hts⟩ (mX2_byRule l r12 x8 (hR.words hHi)) (cwV 2 hts (gA (m4 k259 k261 ksel6 k1) k262) rfl rfl rfl (by decide +kernel) ⟨Nat.le_of_ble_eq_true rfl, Nat.le_of_ble_eq_true rfl⟩) (prRV hP hK hNS rfl (show (w_bc h0 qa qn qx qy cI cF fa ar ln wd ht rw gn nu (xa, xb, xc) (ya, yb, yc) tg so pa ru)[0]? = some (h0, .inr (2, [.ref qa, .ref qn, .ref qx, .ref qy, .ref (fa tg), va_rf (so.map fa), va_rf (pa.map fa), .int ru])) from rfl)) rfl rfl hl.1 rfl (lv_room (Nat.le_of_ble_eq_true rfl)) dX2_copyRow_144 ⟨Nat.le_of_ble_eq_true rfl, Nat.le_of_ble_eq_true rfl⟩)) (fun r13 hwr13 => ?_)
        try dsimp only at hwr13
        refine lv_iload hx hb dX2_copyRow_147 (lv_at hl 0 rfl) ?_
        refine lv_iand hx hb dX2_copyRow_149 ?_
        refine lv_topi (fun x14 ex14 => ?_)
        refine lv_ior hx hb dX2_copyRow_150 ?_
        refine lv_topi (fun x15 ex15 => ?_)
        obtain ⟨hRI2, hHi2⟩ := row_step (y := y) hRI hHi hkr hyh hkn hst hen hse ⟨fun q => by have := hKk.1 q; omega, fun q => by have := hKk.2 q; omega⟩ (by omega) ex8 hwr9 ex10 ex11 hwr12 hwr13 ex14 ex15 hpt
        refine isK hx hb hK hP hD hS (9 + tg) 0 (wb_a htg) rfl (yn * rN wN tg + kn) (hix) (by omega) dX2_copyRow_151 (fun H locs hP hD hS => ?_)
        rw [wb_set htg] at hP hD
        have hP : va_P (dC, dI) vwCl (w_bc h0 qa qn qx qy cI cF fa ar ln wd ht rw (va_up gn tg (upd (gn tg) (yn * rN wN tg + kn) x15)) nu (xa, xb, xc) (ya, yb, yc) tg so pa ru) H := hP
        have hD : va_D A (w_bc h0 qa qn qx qy cI cF fa ar ln wd ht rw (va_up gn tg (upd (gn tg) (yn * rN wN tg + kn) x15)) nu (xa, xb, xc) (ya, yb, yc) tg so pa ru) := hD
        obtain ⟨x16, ex16⟩ : ∃ y : Int32, y = i0 + 1 := ⟨_, rfl⟩
        have hx16 : x16.toInt = i0.toInt + 1 := by rw [ex16]; exact ti_add rfl (by decide) (by omega) (by omega)
        refine lv_iinc (v := x16) (lv' := [(5, .int x16), (9, .int r9), (8, .int x8), (7, .int x7), (6, .int k), (0, .ref h0), (1, .int y), (2, .int lw), (3, .int x1), (4, .int x3)]) hx hb dX2_copyRow_152 hl (k := 9) rfl (by rw [ex16]; rfl) (by decide) rfl (fun ls hl => ?_)
        refine lv_goto (tgt := 44) hx hb dX2_copyRow_155 (by decide) ?_
        exact ih44 (H, locs, ls, x16, n0 + 1, (va_up gn tg (upd (gn tg) (yn * rN wN tg + kn) x15))) ⟨lv_sub hl [5, 6, 7, 8, 9, 0] rfl, hP, hD, hS, by omega, by omega, hRI2, hHi2⟩ (by dsimp only; omega)
      · refine lv_iload_n hx hb dX2_copyRow_53 rfl (lv_at hl 2 rfl) ?_
        refine lv_if_eq (tgt := 65) hx hb dX2_copyRow_54 (by decide) (fun c17 => ?_) (fun c17 => ?_)
        · replace c17 := (ti_eq rfl (by decide : (0 : Int32).toInt = (0 : Int))).mp c17
          refine lv_iload_n hx hb dX2_copyRow_65 rfl (lv_at hl 3 rfl) ?_
          refine lv_iload hx hb dX2_copyRow_66 (lv_at hl 5 rfl) ?_
          refine lv_iadd hx hb dX2_copyRow_68 ?_
          refine lv_topi (fun x18 ex18 => ?_)
          have hx18 : x18.toInt = x1.toInt + i0.toInt := by rw [ex18]; exact ti_add rfl rfl (by omega) (by omega)
          exact tk _ ⟨fun q => by omega, fun q => by omega⟩
        · replace c17 := mt (ti_eq rfl (by decide : (0 : Int32).toInt = (0 : Int))).mpr c17
          refine lv_iload hx hb dX2_copyRow_57 (lv_at hl 4 rfl) ?_
          refine lv_iload hx hb dX2_copyRow_59 (lv_at hl 5 rfl) ?_
          refine lv_isub hx hb dX2_copyRow_61 ?_
          refine lv_topi (fun x19 ex19 => ?_)
          have hx19 : x19.toInt = x3.toInt - i0.toInt := by rw [ex19]; exact ti_sub rfl rfl (by omega) (by omega)
          refine lv_goto (tgt := 69) hx hb dX2_copyRow_62 (by decide) ?_
          exact tk _ ⟨fun q => by omega, fun q => by omega⟩
  · refine lv_aload_n hx hb dX2_copyRow_0 rfl (lv_at hl 0 rfl) ?_
    refine va_get (D := (dC, dI)) (ci := 2) (v := .ref qx) (C := RX2) (T := TX2) (N := 8) hx hb hts inX2 hown hK hP 0 rfl rfl 2 (by decide) (hts _ k62) (fun _ h9 => h9) rfl dX2_copyRow_1 ?_
    refine va_getN (D := (dC, dI)) (ci := 1) (v := .int xc) (C := RX1) (T := TX1) (N := 3) hx hb hts inX1 hown hK hP 3 rfl rfl 2 (by decide) (va_Nw.use rfl (hNS.2.2.2.2.2.2.2.1)) (fun _ h9 => h9) rfl dX2_copyRow_4 ?_
    refine lv_if_ge (tgt := 14) hx hb dX2_copyRow_7 (by decide) (fun c20 => ?_) (fun c20 => ?_)
    · replace c20 := (ti_le (by decide : (0 : Int32).toInt = (0 : Int)) rfl).mp c20
      refine lv_iconst (v := 0) hx hb dX2_copyRow_14 (by decide) ?_
      exact tl _ (Or.inr ⟨by decide, by omega⟩)
    · replace c20 := mt (ti_le (by decide : (0 : Int32).toInt = (0 : Int)) rfl).mpr c20
      refine lv_iconst (v := 1) hx hb dX2_copyRow_10 (by decide) ?_
      refine lv_goto (tgt := 15) hx hb dX2_copyRow_11 (by decide) ?_
      exact tl _ (Or.inl ⟨by decide, by omega⟩)
