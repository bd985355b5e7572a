set_option maxHeartbeats 8000000 in
set_option maxRecDepth 100000 in
theorem mX2_moveTo (l : Launch) {dC : Nat → ClassId} {dI : Nat → Nat → Nat} {sz : Nat} {h0 qa qn qx qy : Nat} {cI cF : ClassId} {fa ar ln : Nat → Nat} {wd ht rw : Nat → Int32} {g : Nat → Nat → Int32} {nu : Nat → Int32} {X Y : Int32 × Int32 × Int32} {tg : Nat} {so pa : Option Nat} {ru : Int32} {wN hN : Nat → Nat} {Bt : Nat → Nat → Nat → Bool} {nz : Nat → Int} (ax by1 : Int32) (hR : RC wN hN Bt nz tg so pa ru ln wd ht rw g nu) {an : Nat} (han : ax.toInt = (an : Int)) (han2 : an < 2) (hby : -1 ≤ by1.toInt ∧ by1.toInt ≤ 1) : Met l yX2_moveTo (wM yX2_moveTo cX2_moveTo 4 (some .boolean)) ({ frames := 1, cells := 0, slots := 0, locals := 20 }) (va_Pc [.ref h0, .int ax, .int by1] (wP (dC, dI) vwCl (tyB cI cF) (w_bc h0 qa qn qx qy cI cF fa ar ln wd ht rw g nu X Y tg so pa ru) sz)) (va_Qi (fun (r : Int32) (u : Nat → Int32) => (r.toInt = 1 ∧ -32768 ≤ nz an + by1.toInt ∧ nz an + by1.toInt ≤ 32767 ∧ RC wN hN Bt (va_up nz an (nz an + by1.toInt)) tg so pa ru ln wd ht rw g u) ∨ (r.toInt = 0 ∧ ¬ (-32768 ≤ nz an + by1.toInt ∧ nz an + by1.toInt ≤ 32767) ∧ u = nu)) (wB (dC, dI) vwCl (va_A (w_bc h0 qa qn qx qy cI cF fa ar ln wd ht rw g nu X Y tg so pa ru) sz) (fun u : Nat → Int32 => (tyB cI cF)) (fun u : Nat → Int32 => (w_bc h0 qa qn qx qy cI cF fa ar ln wd ht rw g u X Y tg so pa ru))) (va_A (w_bc h0 qa qn qx qy cI cF fa ar ln wd ht rw g nu X Y tg so pa ru) sz)) 0 0 (va_A (w_bc h0 qa qn qx qy cI cF fa ar ln wd ht rw g nu X Y tg so pa ru) sz) := by
  refine Met.ofW (cc := cX2_moveTo) (maxL := 4) (ret := (some .boolean)) (by decide +kernel) rfl ?_
  intro p e s m args below meth c s₁ B hml hv
  obtain ⟨rfl, hsz, hP, hK, hD0, hNS⟩ := hv
  have hx := B.exec
  have hb := B.bytes
  have hr := B.returns
  have hts : ∀ w ∈ tblG, w.before _ s = true := fun w h => atoms_spec (ws := wM yX2_moveTo cX2_moveTo 4 (some .boolean)) B.pre w (List.mem_cons_of_mem _ h)
  have hown : s.vm.findClass RX2 = some m.cls := findClass_of_methodNamed B.named
  have hlocks := B.notSynchronized
  subst hsz
  have hD := hD0.self (sz := s.heap.size)
  generalize hAe : va_A (w_bc h0 qa qn qx qy cI cF fa ar ln wd ht rw g nu X Y tg so pa ru) s.heap.size = A at hD ⊢
  have hA : ∀ q : Nat, s.heap.size ≤ q → A q := fun q h => by rw [← hAe]; exact Or.inr h
  have hS : va_S A s.heap s.heap [] := va_S.rf
  have hP : va_P (dC, dI) vwCl (w_bc h0 qa qn qx qy cI cF fa ar ln wd ht rw g nu X Y tg so pa ru) s.heap := hP
  have hl := lv_entry ([.ref h0, .int ax, .int by1]) (n := 4) (Nat.le_of_ble_eq_true rfl)
  rw [lg_entry_eq]
  generalize (lg_sl ([.ref h0, .int ax, .int by1]) ++ List.replicate (4 - (lg_sl ([.ref h0, .int ax, .int by1])).length) Slot.unset).toArray = ls at hl ⊢
  have hl : lv_has ls 4 [(0, .ref h0), (1, .int ax), (2, .int by1)] := hl
  obtain ⟨hF, hnu, htg, hso, hpa, hr1, hr2⟩ := id hR
  have hnk := hnu an (by omega)
  refine lv_aload_n hx hb dX2_moveTo_0 rfl (lv_at hl 0 rfl) ?_
  refine va_get (D := (dC, dI)) (ci := 2) (v := .ref qn) (C := RX2) (T := TX2) (N := 8) hx hb hts inX2 hown hK hP 0 rfl rfl 1 (by decide) (hts _ k61) (fun _ h9 => h9) rfl dX2_moveTo_1 ?_
  refine lv_iconst (v := 0) hx hb dX2_moveTo_4 (by decide) ?_
  refine lv_iload_n hx hb dX2_moveTo_5 rfl (lv_at hl 1 rfl) ?_
  refine lv_iadd hx hb dX2_moveTo_6 ?_
  refine lv_topi (fun x1 ex1 => ?_)
  have hx1 : x1.toInt = (0 : Int) + ax.toInt := by rw [ex1]; exact ti_add (by decide : (0 : Int32).toInt = (0 : Int)) rfl (by omega) (by omega)
  refine iaK hx hb hK hP 2 0 rfl rfl (an) (by omega) (by omega) dX2_moveTo_7 ?_
  refine lv_topi (fun x2 ex2 => ?_)
  have hzx : x2.toInt = nz an := by rw [ex2]; exact hnk.1
  refine lv_iload_n hx hb dX2_moveTo_8 rfl (lv_at hl 2 rfl) ?_
  refine lv_iadd hx hb dX2_moveTo_9 ?_
  refine lv_topi (fun x3 ex3 => ?_)
  have hx3 : x3.toInt = x2.toInt + by1.toInt := by rw [ex3]; exact ti_add rfl rfl (by omega) (by omega)
  refine lv_istore_n (lv' := [(3, .int x3), (0, .ref h0), (1, .int ax), (2, .int by1)]) hx hb dX2_moveTo_10 rfl hl (by decide) rfl (fun ls hl => ?_)
  refine lv_iload_n hx hb dX2_moveTo_11 rfl (lv_at hl 0 rfl) ?_
  refine vp_callSi (va_Run.run (va_runS (As := [.int x3]) (rest := []) ⟨hx, hb, hml, hown, hts⟩ (mX2_isNumber l x3) (va_cwS 1 hts (gA (m3 k198 k199 k1) k200) rfl rfl rfl (by decide +kernel) ⟨Nat.le_of_ble_eq_true rfl, Nat.le_of_ble_eq_true rfl⟩) (prT) rfl rfl hl.1 rfl (lv_room (Nat.le_of_ble_eq_true rfl)) dX2_moveTo_12 ⟨Nat.le_of_ble_eq_true rfl, Nat.le_of_ble_eq_true rfl⟩)) (fun r4 hwr4 => ?_)
  try dsimp only at hwr4
  refine lv_if_ne (tgt := 20) hx hb dX2_moveTo_15 (by decide) (fun c5 => ?_) (fun c5 => ?_)
  · replace c5 := mt (ti_eq rfl (by decide : (0 : Int32).toInt = (0 : Int))).mpr c5
    refine lv_aload_n hx hb dX2_moveTo_20 rfl (lv_at hl 1 rfl) ?_
    refine va_get (D := (dC, dI)) (ci := 2) (v := .ref qn) (C := RX2) (T := TX2) (N := 8) hx hb hts inX2 hown hK hP 0 rfl rfl 1 (by decide) (hts _ k61) (fun _ h9 => h9) rfl dX2_moveTo_21 ?_
    refine lv_iconst (v := 0) hx hb dX2_moveTo_24 (by decide) ?_
    refine lv_iload_n hx hb dX2_moveTo_25 rfl (lv_at hl 2 rfl) ?_
    refine lv_iadd hx hb dX2_moveTo_26 ?_
    refine lv_topi (fun x6 ex6 => ?_)
    have hx6 : x6.toInt = (0 : Int) + ax.toInt := by rw [ex6]; exact ti_add (by decide : (0 : Int32).toInt = (0 : Int)) rfl (by omega) (by omega)
    refine lv_iload_n hx hb dX2_moveTo_27 rfl (lv_at hl 0 rfl) ?_
    refine isK hx hb hK hP hD hS 2 0 rfl rfl (an) (by omega) (by omega) dX2_moveTo_28 (fun H locs hP hD hS => ?_)
    have hP : va_P (dC, dI) vwCl (w_bc h0 qa qn qx qy cI cF fa ar ln wd ht rw g (upd nu an x3) X Y tg so pa ru) H := hP
    have hD : va_D A (w_bc h0 qa qn qx qy cI cF fa ar ln wd ht rw g (upd nu an x3) X Y tg so pa ru) := hD
    refine lv_iconst (v := 1) hx hb dX2_moveTo_29 (by decide) ?_
    refine lv_topi (fun r7 er7 => ?_)
    have hr7 : r7.toInt = (1 : Int) := by rw [er7]; exact (by decide : (1 : Int32).toInt = (1 : Int))
    exact W.zret (ty := .boolean) (v := r7) hx hb hr (nar_b (by omega)) (fun t9 ht9 hW9 => ⟨⟨r7, (upd nu an x3), rfl, Or.inl ⟨by omega, by omega, by omega, hR.num (by omega) ⟨by omega, by omega⟩⟩, by rw [ht9]; exact hP, va_K.moved hW9.alike hK, hD⟩, hS.F ht9⟩) hS.2.2 dX2_moveTo_30
  · replace c5 := (ti_eq rfl (by decide : (0 : Int32).toInt = (0 : Int))).mp c5
    refine lv_iconst (v := 0) hx hb dX2_moveTo_18 (by decide) ?_
    refine lv_topi (fun r8 er8 => ?_)
    have hr8 : r8.toInt = (0 : Int) := by rw [er8]; exact (by decide : (0 : Int32).toInt = (0 : Int))
    exact W.zret (ty := .boolean) (v := r8) hx hb hr (nar_b (by omega)) (fun t9 ht9 hW9 => ⟨⟨r8, nu, rfl, Or.inr ⟨by omega, by omega, rfl⟩, by rw [ht9]; exact hP, va_K.moved hW9.alike hK, hD⟩, hS.F ht9⟩) hS.2.2 dX2_moveTo_19
set_option maxHeartbeats 8000000 in
set_option maxRecDepth 100000 in
theorem mX2_drawAlong (l : Launch) {dC : Nat → ClassId} {dI : Nat → Nat → Nat} {sz : Nat} {h0 qa qn qx qy : Nat} {cI cF : ClassId} {fa ar ln : Nat → Nat} {wd ht rw : Nat → Int32} {g : Nat → Nat → Int32} {nu : Nat → Int32} {X Y : Int32 × Int32 × Int32} {tg : Nat} {so pa : Option Nat} {ru : Int32} {wN hN : Nat → Nat} {Bt : Nat → Nat → Nat → Bool} {nz : Nat → Int} (ax way side : Int32) (hR : RC wN hN Bt nz tg so pa ru ln wd ht rw g nu) (hpp : ∀ q, pa = some q → wN q = 16 ∧ hN q = 16) {an : Nat} (han : ax.toInt = (an : Int)) (han2 : an < 2) (hway : -2000 ≤ way.toInt ∧ way.toInt ≤ 2000) (hside : -2000 ≤ side.toInt ∧ side.toInt ≤ 2000) (hws : max side.toInt (-side.toInt) ≤ max way.toInt (-way.toInt)) : Met l yX2_drawAlong (wM yX2_drawAlong cX2_drawAlong 8 (some .int)) ({ frames := 5, cells := 0, slots := 0, locals := 122 }) (va_Pc [.ref h0, .int ax, .int way, .int side] (wP (dC, dI) vwCl (tyB cI cF) (w_bc h0 qa qn qx qy cI cF fa ar ln wd ht rw g nu X Y tg so pa ru) sz)) (va_Qi (fun (r : Int32) (u : (Nat → Int32) × (Int32 × Int32 × Int32) × (Int32 × Int32 × Int32) × (Nat → Nat → Int32)) => r = (lnA wN hN tg so pa ru an way.toInt side.toInt nz Bt).2.2 ∧ RC wN hN (lnA wN hN tg so pa ru an way.toInt side.toInt nz Bt).2.1 (lnA wN hN tg so pa ru an way.toInt side.toInt nz Bt).1 tg so pa ru ln wd ht rw u.2.2.2 u.1) (wB (dC, dI) vwCl (va_A (w_bc h0 qa qn qx qy cI cF fa ar ln wd ht rw g nu X Y tg so pa ru) sz) (fun u : (Nat → Int32) × (Int32 × Int32 × Int32) × (Int32 × Int32 × Int32) × (Nat → Nat → Int32) => (tyB cI cF)) (fun u : (Nat → Int32) × (Int32 × Int32 × Int32) × (Int32 × Int32 × Int32) × (Nat → Nat → Int32) => (w_bc h0 qa qn qx qy cI cF fa ar ln wd ht rw u.2.2.2 u.1 u.2.1 u.2.2.1 tg so pa ru))) (va_A (w_bc h0 qa qn qx qy cI cF fa ar ln wd ht rw g nu X Y tg so pa ru) sz)) 0 0 (va_A (w_bc h0 qa qn qx qy cI cF fa ar ln wd ht rw g nu X Y tg so pa ru) sz) := by
  refine Met.ofW (cc := cX2_drawAlong) (maxL := 8) (ret := (some .int)) (by decide +kernel) rfl ?_
  intro p e s m args below meth c s₁ B hml hv
  obtain ⟨rfl, hsz, hP, hK, hD0, hNS⟩ := hv
  have hx := B.exec
  have hb := B.bytes
  have hr := B.returns
  have hts : ∀ w ∈ tblG, w.before _ s = true := fun w h => atoms_spec (ws := wM yX2_drawAlong cX2_drawAlong 8 (some .int)) B.pre w (List.mem_cons_of_mem _ h)
  have hown : s.vm.findClass RX2 = some m.cls := findClass_of_methodNamed B.named
  have hlocks := B.notSynchronized
  subst hsz
  have hD := hD0.self (sz := s.heap.size)
  generalize hAe : va_A (w_bc h0 qa qn qx qy cI cF fa ar ln wd ht rw g nu X Y tg so pa ru) s.heap.size = A at hD ⊢
  have hA : ∀ q : Nat, s.heap.size ≤ q → A q := fun q h => by rw [← hAe]; exact Or.inr h
  have hS : va_S A s.heap s.heap [] := va_S.rf
  have hP : va_P (dC, dI) vwCl (w_bc h0 qa qn qx qy cI cF fa ar ln wd ht rw g nu X Y tg so pa ru) s.heap := hP
  have hl := lv_entry ([.ref h0, .int ax, .int way, .int side]) (n := 8) (Nat.le_of_ble_eq_true rfl)
  rw [lg_entry_eq]
  generalize (lg_sl ([.ref h0, .int ax, .int way, .int side]) ++ List.replicate (8 - (lg_sl ([.ref h0, .int ax, .int way, .int side])).length) Slot.unset).toArray = ls at hl ⊢
  have hl : lv_has ls 8 [(0, .ref h0), (1, .int ax), (2, .int way), (3, .int side)] := hl
  obtain ⟨hF, hnu, htg, hso, hpa, hr1, hr2⟩ := id hR
  refine lv_iload_n hx hb dX2_drawAlong_0 rfl (lv_at hl 2 rfl) ?_
  refine va_mabs hx hb (hml.trans hl.1.symm) hown (hts _ k270) (hts _ k271) (hts _ k5) (hts _ k272) (Nat.le_of_ble_eq_true rfl) (Nat.le_of_ble_eq_true rfl) (Nat.le_of_ble_eq_true rfl) (Nat.le_of_ble_eq_true rfl) dX2_drawAlong_1 ?_
  refine lv_topi (fun x1 ex1 => ?_)
  have hx1 : x1.toInt = max (way.toInt) (-(way.toInt)) := by rw [ex1]; exact ti_abs rfl (by omega)
  refine lv_istore (lv' := [(4, .int x1), (0, .ref h0), (1, .int ax), (2, .int way), (3, .int side)]) hx hb dX2_drawAlong_4 hl (by decide) rfl (fun ls hl => ?_)
  refine lv_iload hx hb dX2_drawAlong_6 (lv_at hl 0 rfl) ?_
  refine lv_iconst (v := 2) hx hb dX2_drawAlong_8 (by decide) ?_
  refine lv_idiv hx hb dX2_drawAlong_9 (by decide) ?_
  refine lv_topi (fun x2 ex2 => ?_)
  have hx2 : x2.toInt = x1.toInt / (2 : Int) := by rw [ex2]; exact ti_div rfl (by decide : (2 : Int32).toInt = (2 : Int)) (by omega) (by omega)
  refine lv_istore (lv' := [(5, .int x2), (4, .int x1), (0, .ref h0), (1, .int ax), (2, .int way), (3, .int side)]) hx hb dX2_drawAlong_10 hl (by decide) rfl (fun ls hl => ?_)
  refine lv_aload_n hx hb dX2_drawAlong_12 rfl (lv_at hl 2 rfl) ?_
  refine cW_i (S := (Int32 × Int32 × Int32) × (Int32 × Int32 × Int32) × (Nat → Nat → Int32)) (va_runV (As := []) (rest := []) ⟨hx, hb, hml, hown, hts⟩ (mX2_copyBits l hR hpp) (cwV 0 hts (gA (m4 k209 k211 ksel1 k1) k212) rfl rfl rfl (by decide +kernel) ⟨Nat.le_of_ble_eq_true rfl, Nat.le_of_ble_eq_true rfl⟩) (prWV hP hK hNS hD rfl (show (w_bc h0 qa qn qx qy cI cF fa ar ln wd ht rw g nu X Y tg so pa ru)[0]? = some (h0, .inr (2, [.ref qa, .ref qn, .ref qx, .ref qy, .ref (fa tg), va_rf (so.map fa), va_rf (pa.map fa), .int ru])) from rfl)) rfl rfl hl.1 rfl (lv_room (Nat.le_of_ble_eq_true rfl)) dX2_drawAlong_13 ⟨Nat.le_of_ble_eq_true rfl, Nat.le_of_ble_eq_true rfl⟩) hD hS hA (fun r3 ur3 H locs hwr3 hP hK hD hS => ?_)
  obtain ⟨r3X, r3Y, r3G⟩ := ur3
  dsimp only at hwr3
  have hP : va_P (dC, dI) vwCl (w_bc h0 qa qn qx qy cI cF fa ar ln wd ht rw r3G nu r3X r3Y tg so pa ru) H := hP
  have hD : va_D A (w_bc h0 qa qn qx qy cI cF fa ar ln wd ht rw r3G nu r3X r3Y tg so pa ru) := hD
  refine lv_istore (lv' := [(6, .int r3), (5, .int x2), (4, .int x1), (0, .ref h0), (1, .int ax), (2, .int way), (3, .int side)]) hx hb dX2_drawAlong_16 hl (by decide) rfl (fun ls hl => ?_)
  refine lv_iconst (v := 1) hx hb dX2_drawAlong_18 (by decide) ?_
  refine lv_istore (lv' := [(7, .int (1 : Int32)), (6, .int r3), (5, .int x2), (4, .int x1), (0, .ref h0), (1, .int ax), (2, .int way), (3, .int side)]) hx hb dX2_drawAlong_19 hl (by decide) rfl (fun ls hl => ?_)
  have hc0 := ofI_of hwr3.1
  obtain ⟨sn, hsn⟩ : ∃ z : Nat, x1.toInt = (z : Int) := ⟨x1.toInt.toNat, by omega⟩
  have hF0 : lnA wN hN tg so pa ru an way.toInt side.toInt nz Bt = lnR wN hN tg so pa ru an way.toInt side.toInt sn (x2.toInt) nz (cpA wN hN nz tg so pa ru Bt) r3 := by unfold lnA; rw [← hc0, show (max way.toInt (-way.toInt)).toNat = sn by omega, show max way.toInt (-way.toInt) / 2 = x2.toInt by omega]
  refine lpW (σ := Heap × List Loc × Array Slot × Int32 × Int32 × Int32 × Nat × (Nat → Int) × (Nat → Nat → Nat → Bool) × (Nat → Int32) × (Nat → Nat → Int32) × (Int32 × Int32 × Int32) × (Int32 × Int32 × Int32)) (fun u => match u with | (H, locs, ls, rs, ct, sp, n0, nz1, B1, nu1, g1, X1, Y1) => lv_has ls 8 [(0, .ref h0), (1, .int ax), (2, .int way), (3, .int side), (4, .int x1), (5, .int rs), (6, .int ct), (7, .int sp)] ∧ va_P (dC, dI) vwCl (w_bc h0 qa qn qx qy cI cF fa ar ln wd ht rw g1 nu1 X1 Y1 tg so pa ru) H ∧ va_D A (w_bc h0 qa qn qx qy cI cF fa ar ln wd ht rw g1 nu1 X1 Y1 tg so pa ru) ∧ va_S A s.heap H locs ∧ (RC wN hN B1 nz1 tg so pa ru ln wd ht rw g1 nu1) ∧ (sp.toInt + (n0 : Int) = (sn : Int) + 1) ∧ (1 ≤ sp.toInt) ∧ (-2000 ≤ rs.toInt ∧ rs.toInt ≤ 2000) ∧ (lnR wN hN tg so pa ru an way.toInt side.toInt n0 rs.toInt nz1 B1 ct = lnA wN hN tg so pa ru an way.toInt side.toInt nz Bt)) (fun u => match u with | (H, locs, ls, rs, ct, sp, n0, nz1, B1, nu1, g1, X1, Y1) => n0) (fun u : Heap × List Loc × Array Slot × Int32 × Int32 × Int32 × Nat × (Nat → Int) × (Nat → Nat → Nat → Bool) × (Nat → Int32) × (Nat → Nat → Int32) × (Int32 × Int32 × Int32) × (Int32 × Int32 × Int32) => u.1) (fun u : Heap × List Loc × Array Slot × Int32 × Int32 × Int32 × Nat × (Nat → Int) × (Nat → Nat → Nat → Bool) × (Nat → Int32) × (Nat → Nat → Int32) × (Int32 × Int32 × Int32) × (Int32 × Int32 × Int32) => u.2.1) (fun u => F0 m 21 u.2.2.1 []) (fun u hu ih21 => ?_) (H, locs, ls, x2, r3, 1, sn, nz, (cpA wN hN nz tg so pa ru Bt), nu, r3G, r3X, r3Y) ⟨lv_sub hl [4, 5, 6, 7, 3, 2, 1, 0] rfl, hP, hD, hS, hwr3.2, by have := (by decide : (1 : Int32).toInt = 1); omega, by decide, by omega, hF0.symm⟩
  obtain ⟨H, locs, ls, rs, ct, sp, n0, nz1, B1, nu1, g1, X1, Y1⟩ := u
  obtain ⟨hl, hP, hD, hS, hR1, hsp, hsp1, hrs, hfin⟩ := hu
  dsimp only
  refine lv_iload hx hb dX2_drawAlong_21 (lv_at hl 7 rfl) ?_
  refine lv_iload hx hb dX2_drawAlong_23 (lv_at hl 4 rfl) ?_
  refine lv_icmp_gt (tgt := 103) hx hb dX2_drawAlong_25 (by decide) (fun c4 => ?_) (fun c4 => ?_)
  · replace c4 := (ti_lt rfl rfl).mp c4
    refine lv_iload hx hb dX2_drawAlong_103 (lv_at hl 6 rfl) ?_
    have hn0 : n0 = 0 := by omega
    have hfin2 : (nz1, B1, ct) = lnA wN hN tg so pa ru an way.toInt side.toInt nz Bt := by rw [← hfin, hn0]; rfl
    exact W.iret (v := ct) hx hb hr (fun t9 ht9 hW9 => ⟨⟨ct, (nu1, X1, Y1, g1), rfl, ⟨by rw [← hfin2], by rw [← hfin2]; exact hR1⟩, by rw [ht9]; exact hP, va_K.moved hW9.alike hK, hD⟩, hS.F ht9⟩) hS.2.2 dX2_drawAlong_105
  · replace c4 := mt (ti_lt rfl rfl).mpr c4
    obtain ⟨n1, rfl⟩ : ∃ z, n0 = z + 1 := ⟨n0 - 1, by omega⟩
    have hnz1 := hR1.2.1
    refine lv_aload_n hx hb dX2_drawAlong_28 rfl (lv_at hl 0 rfl) ?_
    refine lv_iload_n hx hb dX2_drawAlong_29 rfl (lv_at hl 1 rfl) ?_
    refine lv_iload_n hx hb dX2_drawAlong_30 rfl (lv_at hl 2 rfl) ?_
    refine vp_callSi (va_Run.run (va_runS (As := [.int way]) (rest := [.int ax, .ref h0]) ⟨hx, hb, hml, hown, hts⟩ (mX2_signOf l way) (va_cwS 1 hts (gA (m3 k277 k278 k1) k279) rfl rfl rfl (by decide +kernel) ⟨Nat.le_of_ble_eq_true rfl, Nat.le_of_ble_eq_true rfl⟩) (prT) rfl rfl hl.1 rfl (lv_room (Nat.le_of_ble_eq_true rfl)) dX2_drawAlong_31 ⟨Nat.le_of_ble_eq_true rfl, Nat.le_of_ble_eq_true rfl⟩)) (fun r5 hwr5 => ?_)
    try dsimp only at hwr5
    have hsg1 := sgn_of hwr5
    refine cW_i (S := Nat → Int32) (va_runV (As := [.int ax, .int r5]) (rest := []) ⟨hx, hb, hml, hown, hts⟩ (mX2_moveTo l ax r5 hR1 (an := an) (by omega) (by omega) (by omega)) (cwV 2 hts (gA (m4 k280 k282 ksel8 k1) k283) rfl rfl rfl (by decide +kernel) ⟨Nat.le_of_ble_eq_true rfl, Nat.le_of_ble_eq_true rfl⟩) (prWV hP hK hNS hD rfl (show (w_bc h0 qa qn qx qy cI cF fa ar ln wd ht rw g1 nu1 X1 Y1 tg so pa ru)[0]? = some (h0, .inr (2, [.ref qa, .ref qn, .ref qx, .ref qy, .ref (fa tg), va_rf (so.map fa), va_rf (pa.map fa), .int ru])) from rfl)) rfl rfl hl.1 rfl (lv_room (Nat.le_of_ble_eq_true rfl)) dX2_drawAlong_34 ⟨Nat.le_of_ble_eq_true rfl, Nat.le_of_ble_eq_true rfl⟩) hD hS hA (fun r6 nr6 H locs hwr6 hP hK hD hS => ?_)
    have h01r6 := or01m hwr6
    have hP : va_P (dC, dI) vwCl (w_bc h0 qa qn qx qy cI cF fa ar ln wd ht rw g1 nr6 X1 Y1 tg so pa ru) H := hP
    have hD : va_D A (w_bc h0 qa qn qx qy cI cF fa ar ln wd ht rw g1 nr6 X1 Y1 tg so pa ru) := hD
    refine lv_if_ne (tgt := 43) hx hb dX2_drawAlong_37 (by decide) (fun c7 => ?_) (fun c7 => ?_)
    · replace c7 := mt (ti_eq rfl (by decide : (0 : Int32).toInt = (0 : Int))).mpr c7
      have hA1 := or_l hwr6 (by omega)
      rw [hsg1] at hA1
      have hin1 : -32768 ≤ nz1 an + sgn way.toInt ∧ nz1 an + sgn way.toInt ≤ 32767 := ⟨hA1.1, hA1.2.1⟩
      refine lv_iload hx hb dX2_drawAlong_43 (lv_at hl 5 rfl) ?_
      refine lv_iload_n hx hb dX2_drawAlong_45 rfl (lv_at hl 3 rfl) ?_
      refine va_mabs hx hb (hml.trans hl.1.symm) hown (hts _ k270) (hts _ k271) (hts _ k5) (hts _ k272) (Nat.le_of_ble_eq_true rfl) (Nat.le_of_ble_eq_true rfl) (Nat.le_of_ble_eq_true rfl) (Nat.le_of_ble_eq_true rfl) dX2_drawAlong_46 ?_
      refine lv_topi (fun x8 ex8 => ?_)
      have hx8 : x8.toInt = max (side.toInt) (-(side.toInt)) := by rw [ex8]; exact ti_abs rfl (by omega)
      refine lv_isub hx hb dX2_drawAlong_49 ?_
      refine lv_topi (fun x9 ex9 => ?_)
      have hx9 : x9.toInt = rs.toInt - x8.toInt := by rw [ex9]; exact ti_sub rfl rfl (by omega) (by omega)
      refine lv_istore (lv' := [(5, .int x9), (0, .ref h0), (1, .int ax), (2, .int way), (3, .int side), (4, .int x1), (6, .int ct), (7, .int sp)]) hx hb dX2_drawAlong_50 hl (by decide) rfl (fun ls hl => ?_)
      refine lv_iload hx hb dX2_drawAlong_52 (lv_at hl 0 rfl) ?_
      refine lv_if_ge (tgt := 81) hx hb dX2_drawAlong_54 (by decide) (fun c10 => ?_) (fun c10 => ?_)
      · replace c10 := (ti_le (by decide : (0 : Int32).toInt = (0 : Int)) rfl).mp c10
        refine lv_iload hx hb dX2_drawAlong_81 (lv_at hl 7 rfl) ?_
        refine lv_iload hx hb dX2_drawAlong_83 (lv_at hl 5 rfl) ?_
        refine lv_icmp_ge (tgt := 97) hx hb dX2_drawAlong_85 (by decide) (fun c11 => ?_) (fun c11 => ?_)
        · replace c11 := (ti_le rfl rfl).mp c11
          have hn1 : n1 = 0 := by omega
          have hfin2 := hfin; rw [lnR_flat hin1 (by omega), if_pos hn1] at hfin2
          obtain ⟨x12, ex12⟩ : ∃ y : Int32, y = sp + 1 := ⟨_, rfl⟩
          have hx12 : x12.toInt = sp.toInt + 1 := by rw [ex12]; exact ti_add rfl (by decide) (by omega) (by omega)
          refine lv_iinc (v := x12) (lv' := [(7, .int x12), (5, .int x9), (0, .ref h0), (1, .int ax), (2, .int way), (3, .int side), (4, .int x1), (6, .int ct)]) hx hb dX2_drawAlong_97 hl (k := 7) rfl (by rw [ex12]; rfl) (by decide) rfl (fun ls hl => ?_)
          refine lv_goto (tgt := 21) hx hb dX2_drawAlong_100 (by decide) ?_
          exact ih21 (H, locs, ls, x9, ct, x12, n1, (va_up nz1 an (nz1 an + sgn way.toInt)), B1, nr6, g1, X1, Y1) ⟨lv_sub hl [2, 3, 4, 5, 6, 1, 7, 0] rfl, hP, hD, hS, hA1.2.2, by omega, by omega, by omega, by rw [hn1]; exact hfin2⟩ (by dsimp only; omega)
        · replace c11 := mt (ti_le rfl rfl).mpr c11
          refine lv_iload hx hb dX2_drawAlong_88 (lv_at hl 6 rfl) ?_
          refine lv_aload_n hx hb dX2_drawAlong_90 rfl (lv_at hl 1 rfl) ?_
          refine cW_i (S := (Int32 × Int32 × Int32) × (Int32 × Int32 × Int32) × (Nat → Nat → Int32)) (va_runV (As := []) (rest := [.int ct]) ⟨hx, hb, hml, hown, hts⟩ (mX2_copyBits l hA1.2.2 hpp) (cwV 0 hts (gA (m4 k209 k211 ksel1 k1) k212) rfl rfl rfl (by decide +kernel) ⟨Nat.le_of_ble_eq_true rfl, Nat.le_of_ble_eq_true rfl⟩) (prWV hP hK hNS hD rfl (show (w_bc h0 qa qn qx qy cI cF fa ar ln wd ht rw g1 nr6 X1 Y1 tg so pa ru)[0]? = some (h0, .inr (2, [.ref qa, .ref qn, .ref qx, .ref qy, .ref (fa tg), va_rf (so.map fa), va_rf (pa.map fa), .int ru])) from rfl)) rfl rfl hl.1 rfl (lv_room (Nat.le_of_ble_eq_true rfl)) dX2_drawAlong_91 ⟨Nat.le_of_ble_eq_true rfl, Nat.le_of_ble_eq_true rfl⟩) hD hS hA (fun r13 ur13 H locs hwr13 hP hK hD hS => ?_)
          obtain ⟨r13X, r13Y, r13G⟩ := ur13
          dsimp only at hwr13
          have hP : va_P (dC, dI) vwCl (w_bc h0 qa qn qx qy cI cF fa ar ln wd ht rw r13G nr6 r13X r13Y tg so pa ru) H := hP
          have hD : va_D A (w_bc h0 qa qn qx qy cI cF fa ar ln wd ht rw r13G nr6 r13X r13Y tg so pa ru) := hD
          refine lv_iadd hx hb dX2_drawAlong_94 ?_
          refine lv_topi (fun x14 ex14 => ?_)
          refine lv_istore (lv' := [(6, .int x14), (5, .int x9), (0, .ref h0), (1, .int ax), (2, .int way), (3, .int side), (4, .int x1), (7, .int sp)]) hx hb dX2_drawAlong_95 hl (by decide) rfl (fun ls hl => ?_)
          have hfin2 := hfin; rw [lnR_flat hin1 (by omega), if_neg (by omega)] at hfin2
          rw [← ofI_of hwr13.1, ← ex14] at hfin2
          rw [show rs.toInt - max side.toInt (-side.toInt) = x9.toInt by omega] at hfin2
          obtain ⟨x15, ex15⟩ : ∃ y : Int32, y = sp + 1 := ⟨_, rfl⟩
          have hx15 : x15.toInt = sp.toInt + 1 := by rw [ex15]; exact ti_add rfl (by decide) (by omega) (by omega)
          refine lv_iinc (v := x15) (lv' := [(7, .int x15), (6, .int x14), (5, .int x9), (0, .ref h0), (1, .int ax), (2, .int way), (3, .int side), (4, .int x1)]) hx hb dX2_drawAlong_97 hl (k := 7) rfl (by rw [ex15]; rfl) (by decide) rfl (fun ls hl => ?_)
          refine lv_goto (tgt := 21) hx hb dX2_drawAlong_100 (by decide) ?_
          exact ih21 (H, locs, ls, x9, x14, x15, n1, (va_up nz1 an (nz1 an + sgn way.toInt)), (cpA wN hN (va_up nz1 an (nz1 an + sgn way.toInt)) tg so pa ru B1), nr6, r13G, r13X, r13Y) ⟨lv_sub hl [3, 4, 5, 6, 7, 2, 1, 0] rfl, hP, hD, hS, hwr13.2, by omega, by omega, by omega, hfin2⟩ (by dsimp only; omega)
      · replace c10 := mt (ti_le (by decide : (0 : Int32).toInt = (0 : Int)) rfl).mpr c10
        refine lv_aload_n hx hb dX2_drawAlong_57 rfl (lv_at hl 1 rfl) ?_
        refine lv_iconst (v := 1) hx hb dX2_drawAlong_58 (by decide) ?_
        refine lv_iload_n hx hb dX2_drawAlong_59 rfl (lv_at hl 2 rfl) ?_
        refine lv_isub hx hb dX2_drawAlong_60 ?_
        refine lv_topi (fun x16 ex16 => ?_)
        have hx16 : x16.toInt = (1 : Int) - ax.toInt := by rw [ex16]; exact ti_sub (by decide : (1 : Int32).toInt = (1 : Int)) rfl (by omega) (by omega)
        refine lv_iload_n hx hb dX2_drawAlong_61 rfl (lv_at hl 4 rfl) ?_
        refine vp_callSi (va_Run.run (va_runS (As := [.int side]) (rest := [.int x16, .ref h0]) ⟨hx, hb, hml, hown, hts⟩ (mX2_signOf l side) (va_cwS 1 hts (gA (m3 k277 k278 k1) k279) rfl rfl rfl (by decide +kernel) ⟨Nat.le_of_ble_eq_true rfl, Nat.le_of_ble_eq_true rfl⟩) (prT) rfl rfl hl.1 rfl (lv_room (Nat.le_of_ble_eq_true rfl)) dX2_drawAlong_62 ⟨Nat.le_of_ble_eq_true rfl, Nat.le_of_ble_eq_true rfl⟩)) (fun r17 hwr17 => ?_)
        try dsimp only at hwr17
        have hsg2 := sgn_of hwr17
        refine cW_i (S := Nat → Int32) (va_runV (As := [.int x16, .int r17]) (rest := []) ⟨hx, hb, hml, hown, hts⟩ (mX2_moveTo l x16 r17 hA1.2.2 (an := 1 - an) (by omega) (by omega) (by omega)) (cwV 2 hts (gA (m4 k280 k282 ksel8 k1) k283) rfl rfl rfl (by decide +kernel) ⟨Nat.le_of_ble_eq_true rfl, Nat.le_of_ble_eq_true rfl⟩) (prWV hP hK hNS hD rfl (show (w_bc h0 qa qn qx qy cI cF fa ar ln wd ht rw g1 nr6 X1 Y1 tg so pa ru)[0]? = some (h0, .inr (2, [.ref qa, .ref qn, .ref qx, .ref qy, .ref (fa tg), va_rf (so.map fa), va_rf (pa.map fa), .int ru])) from rfl)) rfl rfl hl.1 rfl (lv_room (Nat.le_of_ble_eq_true rfl)) dX2_drawAlong_65 ⟨Nat.le_of_ble_eq_true rfl, Nat.le_of_ble_eq_true rfl⟩) hD hS hA (fun r18 nr18 H locs hwr18 hP hK hD hS => ?_)
        have h01r18 := or01m hwr18
        have hP : va_P (dC, dI) vwCl (w_bc h0 qa qn qx qy cI cF fa ar ln wd ht rw g1 nr18 X1 Y1 tg so pa ru) H := hP
        have hD : va_D A (w_bc h0 qa qn qx qy cI cF fa ar ln wd ht rw g1 nr18 X1 Y1 tg so pa ru) := hD
        refine lv_if_ne (tgt := 74) hx hb dX2_drawAlong_68 (by decide) (fun c19 => ?_) (fun c19 => ?_)
        · replace c19 := mt (ti_eq rfl (by decide : (0 : Int32).toInt = (0 : Int))).mpr c19
          have hA2 := or_l hwr18 (by omega)
          rw [hsg2] at hA2
          have hin2 : -32768 ≤ va_up nz1 an (nz1 an + sgn way.toInt) (1 - an) + sgn side.toInt ∧ va_up nz1 an (nz1 an + sgn way.toInt) (1 - an) + sgn side.toInt ≤ 32767 := ⟨hA2.1, hA2.2.1⟩
          refine lv_iload hx hb dX2_drawAlong_74 (lv_at hl 0 rfl) ?_
          refine lv_iload hx hb dX2_drawAlong_76 (lv_at hl 5 rfl) ?_
          refine lv_iadd hx hb dX2_drawAlong_78 ?_
          refine lv_topi (fun x20 ex20 => ?_)
          have hx20 : x20.toInt = x9.toInt + x1.toInt := by rw [ex20]; exact ti_add rfl rfl (by omega) (by omega)
          refine lv_istore (lv' := [(5, .int x20), (0, .ref h0), (1, .int ax), (2, .int way), (3, .int side), (4, .int x1), (6, .int ct), (7, .int sp)]) hx hb dX2_drawAlong_79 hl (by decide) rfl (fun ls hl => ?_)
          refine lv_iload hx hb dX2_drawAlong_81 (lv_at hl 7 rfl) ?_
          refine lv_iload hx hb dX2_drawAlong_83 (lv_at hl 5 rfl) ?_
          refine lv_icmp_ge (tgt := 97) hx hb dX2_drawAlong_85 (by decide) (fun c21 => ?_) (fun c21 => ?_)
          · replace c21 := (ti_le rfl rfl).mp c21
            have hn1 : n1 = 0 := by omega
            have hfin2 := hfin; rw [lnR_aside hin1 (by omega) hin2, if_pos hn1] at hfin2
            obtain ⟨x22, ex22⟩ : ∃ y : Int32, y = sp + 1 := ⟨_, rfl⟩
            have hx22 : x22.toInt = sp.toInt + 1 := by rw [ex22]; exact ti_add rfl (by decide) (by omega) (by omega)
            refine lv_iinc (v := x22) (lv' := [(7, .int x22), (5, .int x20), (0, .ref h0), (1, .int ax), (2, .int way), (3, .int side), (4, .int x1), (6, .int ct)]) hx hb dX2_drawAlong_97 hl (k := 7) rfl (by rw [ex22]; rfl) (by decide) rfl (fun ls hl => ?_)
            refine lv_goto (tgt := 21) hx hb dX2_drawAlong_100 (by decide) ?_
            exact ih21 (H, locs, ls, x20, ct, x22, n1, (va_up (va_up nz1 an (nz1 an + sgn way.toInt)) (1 - an) (va_up nz1 an (nz1 an + sgn way.toInt) (1 - an) + sgn side.toInt)), B1, nr18, g1, X1, Y1) ⟨lv_sub hl [2, 3, 4, 5, 6, 1, 7, 0] rfl, hP, hD, hS, hA2.2.2, by omega, by omega, by omega, by rw [hn1]; exact hfin2⟩ (by dsimp only; omega)
          · replace c21 := mt (ti_le rfl rfl).mpr c21
            refine lv_iload hx hb dX2_drawAlong_88 (lv_at hl 6 rfl) ?_
            refine lv_aload_n hx hb dX2_drawAlong_90 rfl (lv_at hl 1 rfl) ?_
            refine cW_i (S := (Int32 × Int32 × Int32) × (Int32 × Int32 × Int32) × (Nat → Nat → Int32)) (va_runV (As := []) (rest := [.int ct]) ⟨hx, hb, hml, hown, hts⟩ (mX2_copyBits l hA2.2.2 hpp) (cwV 0 hts (gA (m4 k209 k211 ksel1 k1) k212) rfl rfl rfl (by decide +kernel) ⟨Nat.le_of_ble_eq_true rfl, Nat.le_of_ble_eq_true rfl⟩) (prWV hP hK hNS hD rfl (show (w_bc h0 qa qn qx qy cI cF fa ar ln wd ht rw g1 nr18 X1 Y1 tg so pa ru)[0]? = some (h0, .inr (2, [.ref qa, .ref qn, .ref qx, .ref qy, .ref (fa tg), va_rf (so.map fa), va_rf (pa.map fa), .int ru])) from rfl)) rfl rfl hl.1 rfl (lv_room (Nat.le_of_ble_eq_true rfl)) dX2_drawAlong_91 ⟨Nat.le_of_ble_eq_true rfl, Nat.le_of_ble_eq_true rfl⟩) hD hS hA (fun r23 ur23 H locs hwr23 hP hK hD hS => ?_)
            obtain ⟨r23X, r23Y, r23G⟩ := ur23
            dsimp only at hwr23
            have hP : va_P (dC, dI) vwCl (w_bc h0 qa qn qx qy cI cF fa ar ln wd ht rw r23G nr18 r23X r23Y tg so pa ru) H := hP
            have hD : va_D A (w_bc h0 qa qn qx qy cI cF fa ar ln wd ht rw r23G nr18 r23X r23Y tg so pa ru) := hD
            refine lv_iadd hx hb dX2_drawAlong_94 ?_
            refine lv_topi (fun x24 ex24 => ?_)
            refine lv_istore (lv' := [(6, .int x24), (5, .int x20), (0, .ref h0), (1, .int ax), (2, .int way), (3, .int side), (4, .int x1), (7, .int sp)]) hx hb dX2_drawAlong_95 hl (by decide) rfl (fun ls hl => ?_)
            have hfin2 := hfin; rw [lnR_aside hin1 (by omega) hin2, if_neg (by omega)] at hfin2
            rw [← ofI_of hwr23.1, ← ex24] at hfin2
            rw [show rs.toInt - max side.toInt (-side.toInt) + max way.toInt (-way.toInt) = x20.toInt by omega] at hfin2
            obtain ⟨x25, ex25⟩ : ∃ y : Int32, y = sp + 1 := ⟨_, rfl⟩
            have hx25 : x25.toInt = sp.toInt + 1 := by rw [ex25]; exact ti_add rfl (by decide) (by omega) (by omega)
            refine lv_iinc (v := x25) (lv' := [(7, .int x25), (6, .int x24), (5, .int x20), (0, .ref h0), (1, .int ax), (2, .int way), (3, .int side), (4, .int x1)]) hx hb dX2_drawAlong_97 hl (k := 7) rfl (by rw [ex25]; rfl) (by decide) rfl (fun ls hl => ?_)
            refine lv_goto (tgt := 21) hx hb dX2_drawAlong_100 (by decide) ?_
            exact ih21 (H, locs, ls, x20, x24, x25, n1, (va_up (va_up nz1 an (nz1 an + sgn way.toInt)) (1 - an) (va_up nz1 an (nz1 an + sgn way.toInt) (1 - an) + sgn side.toInt)), (cpA wN hN (va_up (va_up nz1 an (nz1 an + sgn way.toInt)) (1 - an) (va_up nz1 an (nz1 an + sgn way.toInt) (1 - an) + sgn side.toInt)) tg so pa ru B1), nr18, r23G, r23X, r23Y) ⟨lv_sub hl [3, 4, 5, 6, 7, 2, 1, 0] rfl, hP, hD, hS, hwr23.2, by omega, by omega, by omega, hfin2⟩ (by dsimp only; omega)
        · replace c19 := (ti_eq rfl (by decide : (0 : Int32).toInt = (0 : Int))).mp c19
          refine lv_iload hx hb dX2_drawAlong_71 (lv_at hl 6 rfl) ?_
          have hB1 := or_r hwr18 (by omega)
          have hfin2 := hfin; rw [lnR_aside_out hin1 (by omega) (by rw [← hsg2]; exact hB1.1)] at hfin2
          exact W.iret (v := ct) hx hb hr (fun t9 ht9 hW9 => ⟨⟨ct, (nr18, X1, Y1, g1), rfl, ⟨by rw [← hfin2], by rw [← hfin2, hB1.2]; exact hA1.2.2⟩, by rw [ht9]; exact hP, va_K.moved hW9.alike hK, hD⟩, hS.F ht9⟩) hS.2.2 dX2_drawAlong_73
    · replace c7 := (ti_eq rfl (by decide : (0 : Int32).toInt = (0 : Int))).mp c7
      refine lv_iload hx hb dX2_drawAlong_40 (lv_at hl 6 rfl) ?_
      have hB1 := or_r hwr6 (by omega)
      have hfin2 := hfin; rw [lnR_out (by rw [← hsg1]; exact hB1.1)] at hfin2
      exact W.iret (v := ct) hx hb hr (fun t9 ht9 hW9 => ⟨⟨ct, (nr6, X1, Y1, g1), rfl, ⟨by rw [← hfin2], by rw [← hfin2, hB1.2]; exact hR1⟩, by rw [ht9]; exact hP, va_K.moved hW9.alike hK, hD⟩, hS.F ht9⟩) hS.2.2 dX2_drawAlong_42
