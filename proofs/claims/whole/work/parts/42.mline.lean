set_option maxHeartbeats 8000000 in
set_option maxRecDepth 100000 in
theorem mX3_copy (l : Launch) {dC : Nat → ClassId} {dI : Nat → Nat → Nat} {sz : Nat} {m0 a1 a2 a3 a4 a5 a6 : Nat} {cI : ClassId} {wd ht ws bf mk nu : Nat → Int32} {tg so pa ru : Int32} {wN hN : Nat → Nat} {Bt : Nat → Nat → Nat → Bool} {nz : Nat → Int} {tn : Nat} {sn pn : Option Nat} {rA : Int32} (hM : RM wN hN Bt nz tn sn pn rA wd ht ws nu tg so pa ru) (hmk0 : ∀ i j, 16 ≤ j → bt (mk i) j = false) (hbf0 : ∀ i j, 16 ≤ j → bt (bf i) j = false) : Met l yX3_copy (wM yX3_copy cX3_copy 1 (some .int)) ({ frames := 4, cells := 0, slots := 0, locals := 101 }) (va_Pc [.ref m0] (wP (dC, dI) vwCl (tyM cI) (w_md m0 a1 a2 a3 a4 a5 a6 cI wd ht ws bf mk nu tg so pa ru) sz)) (va_Qi (fun (r : Int32) (u : (Nat → Int32) × (Nat → Int32) × (Nat → Int32)) => (r.toInt = -1 ∧ u = (ws, bf, mk) ∧ ∃ q, pn = some q ∧ ¬ (wN q = 16 ∧ hN q = 16)) ∨ ((∀ q, pn = some q → wN q = 16 ∧ hN q = 16) ∧ r.toInt = cnA wN hN nz tn sn ∧ RM wN hN (cpA wN hN nz tn sn pn rA Bt) nz tn sn pn rA wd ht u.1 nu tg so pa ru ∧ (∀ i j, 16 ≤ j → bt (u.2.1 i) j = false) ∧ (∀ i j, 16 ≤ j → bt (u.2.2 i) j = false))) (wB (dC, dI) vwCl (va_A (w_md m0 a1 a2 a3 a4 a5 a6 cI wd ht ws bf mk nu tg so pa ru) sz) (fun u : (Nat → Int32) × (Nat → Int32) × (Nat → Int32) => (tyM cI)) (fun u : (Nat → Int32) × (Nat → Int32) × (Nat → Int32) => (w_md m0 a1 a2 a3 a4 a5 a6 cI wd ht u.1 u.2.1 u.2.2 nu tg so pa ru))) (va_A (w_md m0 a1 a2 a3 a4 a5 a6 cI wd ht ws bf mk nu tg so pa ru) sz)) 0 0 (va_A (w_md m0 a1 a2 a3 a4 a5 a6 cI wd ht ws bf mk nu tg so pa ru) sz) := by
  refine Met.ofW (cc := cX3_copy) (maxL := 1) (ret := (some .int)) (by decide +kernel) rfl ?_
  intro p e s m args below meth c s₁ B hml hv
  obtain ⟨rfl, hsz, hP, hK, hD0, hNS⟩ := hv
  have hx := B.exec
  have hb := B.bytes
  have hr := B.returns
  have hts : ∀ w ∈ tblG, w.before _ s = true := fun w h => atoms_spec (ws := wM yX3_copy cX3_copy 1 (some .int)) B.pre w (List.mem_cons_of_mem _ h)
  have hown : s.vm.findClass RX3 = some m.cls := findClass_of_methodNamed B.named
  have hlocks := B.notSynchronized
  subst hsz
  have hD := hD0.self (sz := s.heap.size)
  generalize hAe : va_A (w_md m0 a1 a2 a3 a4 a5 a6 cI wd ht ws bf mk nu tg so pa ru) s.heap.size = A at hD ⊢
  have hA : ∀ q : Nat, s.heap.size ≤ q → A q := fun q h => by rw [← hAe]; exact Or.inr h
  have hS : va_S A s.heap s.heap [] := va_S.rf
  have hP : va_P (dC, dI) vwCl (w_md m0 a1 a2 a3 a4 a5 a6 cI wd ht ws bf mk nu tg so pa ru) s.heap := hP
  have hl := lv_entry ([.ref m0]) (n := 1) (Nat.le_of_ble_eq_true rfl)
  rw [lg_entry_eq]
  generalize (lg_sl ([.ref m0]) ++ List.replicate (1 - (lg_sl ([.ref m0])).length) Slot.unset).toArray = ls at hl ⊢
  have hl : lv_has ls 1 [(0, .ref m0)] := hl
  obtain ⟨hF, hnu, htg, htn, hso, hsn, hpa, hpn, hru, hr1, hr2⟩ := id hM
  have hso4 := oz_lo hsn
  have hpa4 := oz_lo hpn
  refine lv_aload_n hx hb dX3_copy_0 rfl (lv_at hl 0 rfl) ?_
  refine vp_callSi (va_Run.run (va_runV (As := []) (rest := []) ⟨hx, hb, hml, hown, hts⟩ (mX3_lacksPattern l  hM) (cwV 0 hts (gA (m4 k396 k398 ksel14 k4) k399) rfl rfl rfl (by decide +kernel) ⟨Nat.le_of_ble_eq_true rfl, Nat.le_of_ble_eq_true rfl⟩) (prRV hP hK hNS rfl (show (w_md m0 a1 a2 a3 a4 a5 a6 cI wd ht ws bf mk nu tg so pa ru)[0]? = some (m0, .inr (3, [.ref a1, .ref a2, .ref a3, .ref a4, .ref a5, .int tg, .int so, .int pa, .int ru, .ref a6])) from rfl)) rfl rfl hl.1 rfl (lv_room (Nat.le_of_ble_eq_true rfl)) dX3_copy_1 ⟨Nat.le_of_ble_eq_true rfl, Nat.le_of_ble_eq_true rfl⟩)) (fun r1 hwr1 => ?_)
  have h01r1 := or01 hwr1
  refine lv_if_eq (tgt := 11) hx hb dX3_copy_4 (by decide) (fun c2 => ?_) (fun c2 => ?_)
  · replace c2 := (ti_eq rfl (by decide : (0 : Int32).toInt = (0 : Int))).mp c2
    refine lv_aload_n hx hb dX3_copy_11 rfl (lv_at hl 0 rfl) ?_
    have hpp := or_r hwr1 (by omega)
    refine cW_i (S := (Nat → Int32) × (Nat → Int32) × (Nat → Int32)) (va_runV (As := []) (rest := []) ⟨hx, hb, hml, hown, hts⟩ (mX3_copyAll l hM hmk0 hbf0 hpp) (cwV 0 hts (gA (m4 k400 k402 ksel15 k4) k403) rfl rfl rfl (by decide +kernel) ⟨Nat.le_of_ble_eq_true rfl, Nat.le_of_ble_eq_true rfl⟩) (prWV hP hK hNS hD rfl (show (w_md m0 a1 a2 a3 a4 a5 a6 cI wd ht ws bf mk nu tg so pa ru)[0]? = some (m0, .inr (3, [.ref a1, .ref a2, .ref a3, .ref a4, .ref a5, .int tg, .int so, .int pa, .int ru, .ref a6])) from rfl)) rfl rfl hl.1 rfl (lv_room (Nat.le_of_ble_eq_true rfl)) dX3_copy_12 ⟨Nat.le_of_ble_eq_true rfl, Nat.le_of_ble_eq_true rfl⟩) hD hS hA (fun r3 ur3 H locs hwr3 hP hK hD hS => ?_)
    obtain ⟨r3W, r3F, r3K⟩ := ur3
    dsimp only at hwr3
    have hP : va_P (dC, dI) vwCl (w_md m0 a1 a2 a3 a4 a5 a6 cI wd ht r3W r3F r3K nu tg so pa ru) H := hP
    have hD : va_D A (w_md m0 a1 a2 a3 a4 a5 a6 cI wd ht r3W r3F r3K nu tg so pa ru) := hD
    exact W.iret (v := r3) hx hb hr (fun t9 ht9 hW9 => ⟨⟨r3, (r3W, r3F, r3K), rfl, Or.inr ⟨hpp, hwr3⟩, by rw [ht9]; exact hP, va_K.moved hW9.alike hK, hD⟩, hS.F ht9⟩) hS.2.2 dX3_copy_15
  · replace c2 := mt (ti_eq rfl (by decide : (0 : Int32).toInt = (0 : Int))).mpr c2
    refine lv_iconst (v := (-1)) hx hb dX3_copy_7 (by decide) ?_
    refine lv_goto (tgt := 15) hx hb dX3_copy_8 (by decide) ?_
    refine lv_topi (fun r4 er4 => ?_)
    have hr4 : r4.toInt = (-1 : Int) := by rw [er4]; exact (by decide : (-1 : Int32).toInt = (-1 : Int))
    exact W.iret (v := r4) hx hb hr (fun t9 ht9 hW9 => ⟨⟨r4, (ws, bf, mk), rfl, Or.inl ⟨by omega, rfl, or_l hwr1 (by omega)⟩, by rw [ht9]; exact hP, va_K.moved hW9.alike hK, hD⟩, hS.F ht9⟩) hS.2.2 dX3_copy_15
set_option maxHeartbeats 8000000 in
set_option maxRecDepth 100000 in
theorem mX3_line (l : Launch) {dC : Nat → ClassId} {dI : Nat → Nat → Nat} {sz : Nat} {m0 a1 a2 a3 a4 a5 a6 : Nat} {cI : ClassId} {wd ht ws bf mk nu : Nat → Int32} {tg so pa ru : Int32} {wN hN : Nat → Nat} {Bt : Nat → Nat → Nat → Bool} {nz : Nat → Int} {tn : Nat} {sn pn : Option Nat} {rA : Int32} (dx dy : Int32) (hM : RM wN hN Bt nz tn sn pn rA wd ht ws nu tg so pa ru) (hmk0 : ∀ i j, 16 ≤ j → bt (mk i) j = false) (hbf0 : ∀ i j, 16 ≤ j → bt (bf i) j = false) : Met l yX3_line (wM yX3_line cX3_line 14 (some .int)) ({ frames := 4, cells := 0, slots := 0, locals := 101 }) (va_Pc [.ref m0, .int dx, .int dy] (wP (dC, dI) vwCl (tyM cI) (w_md m0 a1 a2 a3 a4 a5 a6 cI wd ht ws bf mk nu tg so pa ru) sz)) (va_Qi (fun (r : Int32) (u : (Nat → Int32) × (Nat → Int32) × (Nat → Int32) × (Nat → Int32)) => (r.toInt = -1 ∧ u = (nu, ws, bf, mk) ∧ ((dx.toInt < -2000 ∨ 2000 < dx.toInt ∨ dy.toInt < -2000 ∨ 2000 < dy.toInt) ∨ ∃ q, pn = some q ∧ ¬ (wN q = 16 ∧ hN q = 16))) ∨ ((-2000 ≤ dx.toInt ∧ dx.toInt ≤ 2000) ∧ (-2000 ≤ dy.toInt ∧ dy.toInt ≤ 2000) ∧ (∀ q, pn = some q → wN q = 16 ∧ hN q = 16) ∧ (∀ i j, 16 ≤ j → bt (u.2.2.2 i) j = false) ∧ (∀ i j, 16 ≤ j → bt (u.2.2.1 i) j = false) ∧ ((max dy.toInt (-dy.toInt) < max dx.toInt (-dx.toInt) ∧ r = (lnA wN hN tn sn pn rA 0 dx.toInt dy.toInt nz Bt).2.2 ∧ RM wN hN (lnA wN hN tn sn pn rA 0 dx.toInt dy.toInt nz Bt).2.1 (lnA wN hN tn sn pn rA 0 dx.toInt dy.toInt nz Bt).1 tn sn pn rA wd ht u.2.1 u.1 tg so pa ru) ∨ (¬ max dy.toInt (-dy.toInt) < max dx.toInt (-dx.toInt) ∧ r = (lnA wN hN tn sn pn rA 1 dy.toInt dx.toInt nz Bt).2.2 ∧ RM wN hN (lnA wN hN tn sn pn rA 1 dy.toInt dx.toInt nz Bt).2.1 (lnA wN hN tn sn pn rA 1 dy.toInt dx.toInt nz Bt).1 tn sn pn rA wd ht u.2.1 u.1 tg so pa ru)))) (wB (dC, dI) vwCl (va_A (w_md m0 a1 a2 a3 a4 a5 a6 cI wd ht ws bf mk nu tg so pa ru) sz) (fun u : (Nat → Int32) × (Nat → Int32) × (Nat → Int32) × (Nat → Int32) => (tyM cI)) (fun u : (Nat → Int32) × (Nat → Int32) × (Nat → Int32) × (Nat → Int32) => (w_md m0 a1 a2 a3 a4 a5 a6 cI wd ht u.2.1 u.2.2.1 u.2.2.2 u.1 tg so pa ru))) (va_A (w_md m0 a1 a2 a3 a4 a5 a6 cI wd ht ws bf mk nu tg so pa ru) sz)) 0 0 (va_A (w_md m0 a1 a2 a3 a4 a5 a6 cI wd ht ws bf mk nu tg so pa ru) sz) := by
  refine Met.ofW (cc := cX3_line) (maxL := 14) (ret := (some .int)) (by decide +kernel) rfl ?_
  intro p e s m args below meth c s₁ B hml hv
  obtain ⟨rfl, hsz, hP, hK, hD0, hNS⟩ := hv
  have hx := B.exec
  have hb := B.bytes
  have hr := B.returns
  have hts : ∀ w ∈ tblG, w.before _ s = true := fun w h => atoms_spec (ws := wM yX3_line cX3_line 14 (some .int)) B.pre w (List.mem_cons_of_mem _ h)
  have hown : s.vm.findClass RX3 = some m.cls := findClass_of_methodNamed B.named
  have hlocks := B.notSynchronized
  subst hsz
  have hD := hD0.self (sz := s.heap.size)
  generalize hAe : va_A (w_md m0 a1 a2 a3 a4 a5 a6 cI wd ht ws bf mk nu tg so pa ru) s.heap.size = A at hD ⊢
  have hA : ∀ q : Nat, s.heap.size ≤ q → A q := fun q h => by rw [← hAe]; exact Or.inr h
  have hS : va_S A s.heap s.heap [] := va_S.rf
  have hP : va_P (dC, dI) vwCl (w_md m0 a1 a2 a3 a4 a5 a6 cI wd ht ws bf mk nu tg so pa ru) s.heap := hP
  have hl := lv_entry ([.ref m0, .int dx, .int dy]) (n := 14) (Nat.le_of_ble_eq_true rfl)
  rw [lg_entry_eq]
  generalize (lg_sl ([.ref m0, .int dx, .int dy]) ++ List.replicate (14 - (lg_sl ([.ref m0, .int dx, .int dy])).length) Slot.unset).toArray = ls at hl ⊢
  have hl : lv_has ls 14 [(0, .ref m0), (1, .int dx), (2, .int dy)] := hl
  obtain ⟨hF, hnu, htg, htn, hso, hsn, hpa, hpn, hru, hr1, hr2⟩ := id hM
  have hso4 := oz_lo hsn
  have hpa4 := oz_lo hpn
  refine lv_iload_n hx hb dX3_line_0 rfl (lv_at hl 1 rfl) ?_
  refine lv_sipush (v := (-2000)) hx hb dX3_line_1 (by decide) ?_
  refine lv_icmp_lt (tgt := 35) hx hb dX3_line_4 (by decide) (fun c1 => ?_) (fun c1 => ?_)
  · replace c1 := (ti_lt rfl (by decide : (-2000 : Int32).toInt = (-2000 : Int))).mp c1
    refine lv_iconst (v := (-1)) hx hb dX3_line_35 (by decide) ?_
    refine lv_topi (fun r2 er2 => ?_)
    have hr2 : r2.toInt = (-1 : Int) := by rw [er2]; exact (by decide : (-1 : Int32).toInt = (-1 : Int))
    exact W.iret (v := r2) hx hb hr (fun t9 ht9 hW9 => ⟨⟨r2, (nu, ws, bf, mk), rfl, Or.inl ⟨by omega, rfl, Or.inl (by omega)⟩, by rw [ht9]; exact hP, va_K.moved hW9.alike hK, hD⟩, hS.F ht9⟩) hS.2.2 dX3_line_36
  · replace c1 := mt (ti_lt rfl (by decide : (-2000 : Int32).toInt = (-2000 : Int))).mpr c1
    refine lv_iload_n hx hb dX3_line_7 rfl (lv_at hl 1 rfl) ?_
    refine lv_sipush (v := (2000)) hx hb dX3_line_8 (by decide) ?_
    refine lv_icmp_gt (tgt := 35) hx hb dX3_line_11 (by decide) (fun c3 => ?_) (fun c3 => ?_)
    · replace c3 := (ti_lt (by decide : (2000 : Int32).toInt = (2000 : Int)) rfl).mp c3
      refine lv_iconst (v := (-1)) hx hb dX3_line_35 (by decide) ?_
      refine lv_topi (fun r4 er4 => ?_)
      have hr4 : r4.toInt = (-1 : Int) := by rw [er4]; exact (by decide : (-1 : Int32).toInt = (-1 : Int))
      exact W.iret (v := r4) hx hb hr (fun t9 ht9 hW9 => ⟨⟨r4, (nu, ws, bf, mk), rfl, Or.inl ⟨by omega, rfl, Or.inl (by omega)⟩, by rw [ht9]; exact hP, va_K.moved hW9.alike hK, hD⟩, hS.F ht9⟩) hS.2.2 dX3_line_36
    · replace c3 := mt (ti_lt (by decide : (2000 : Int32).toInt = (2000 : Int)) rfl).mpr c3
      refine lv_iload_n hx hb dX3_line_14 rfl (lv_at hl 2 rfl) ?_
      refine lv_sipush (v := (-2000)) hx hb dX3_line_15 (by decide) ?_
      refine lv_icmp_lt (tgt := 35) hx hb dX3_line_18 (by decide) (fun c5 => ?_) (fun c5 => ?_)
      · replace c5 := (ti_lt rfl (by decide : (-2000 : Int32).toInt = (-2000 : Int))).mp c5
        refine lv_iconst (v := (-1)) hx hb dX3_line_35 (by decide) ?_
        refine lv_topi (fun r6 er6 => ?_)
        have hr6 : r6.toInt = (-1 : Int) := by rw [er6]; exact (by decide : (-1 : Int32).toInt = (-1 : Int))
        exact W.iret (v := r6) hx hb hr (fun t9 ht9 hW9 => ⟨⟨r6, (nu, ws, bf, mk), rfl, Or.inl ⟨by omega, rfl, Or.inl (by omega)⟩, by rw [ht9]; exact hP, va_K.moved hW9.alike hK, hD⟩, hS.F ht9⟩) hS.2.2 dX3_line_36
      · replace c5 := mt (ti_lt rfl (by decide : (-2000 : Int32).toInt = (-2000 : Int))).mpr c5
        refine lv_iload_n hx hb dX3_line_21 rfl (lv_at hl 2 rfl) ?_
        refine lv_sipush (v := (2000)) hx hb dX3_line_22 (by decide) ?_
        refine lv_icmp_gt (tgt := 35) hx hb dX3_line_25 (by decide) (fun c7 => ?_) (fun c7 => ?_)
        · replace c7 := (ti_lt (by decide : (2000 : Int32).toInt = (2000 : Int)) rfl).mp c7
          refine lv_iconst (v := (-1)) hx hb dX3_line_35 (by decide) ?_
          refine lv_topi (fun r8 er8 => ?_)
          have hr8 : r8.toInt = (-1 : Int) := by rw [er8]; exact (by decide : (-1 : Int32).toInt = (-1 : Int))
          exact W.iret (v := r8) hx hb hr (fun t9 ht9 hW9 => ⟨⟨r8, (nu, ws, bf, mk), rfl, Or.inl ⟨by omega, rfl, Or.inl (by omega)⟩, by rw [ht9]; exact hP, va_K.moved hW9.alike hK, hD⟩, hS.F ht9⟩) hS.2.2 dX3_line_36
        · replace c7 := mt (ti_lt (by decide : (2000 : Int32).toInt = (2000 : Int)) rfl).mpr c7
          refine lv_aload_n hx hb dX3_line_28 rfl (lv_at hl 0 rfl) ?_
          refine vp_callSi (va_Run.run (va_runV (As := []) (rest := []) ⟨hx, hb, hml, hown, hts⟩ (mX3_lacksPattern l  hM) (cwV 0 hts (gA (m4 k396 k398 ksel14 k4) k399) rfl rfl rfl (by decide +kernel) ⟨Nat.le_of_ble_eq_true rfl, Nat.le_of_ble_eq_true rfl⟩) (prRV hP hK hNS rfl (show (w_md m0 a1 a2 a3 a4 a5 a6 cI wd ht ws bf mk nu tg so pa ru)[0]? = some (m0, .inr (3, [.ref a1, .ref a2, .ref a3, .ref a4, .ref a5, .int tg, .int so, .int pa, .int ru, .ref a6])) from rfl)) rfl rfl hl.1 rfl (lv_room (Nat.le_of_ble_eq_true rfl)) dX3_line_29 ⟨Nat.le_of_ble_eq_true rfl, Nat.le_of_ble_eq_true rfl⟩)) (fun r9 hwr9 => ?_)
          have h01r9 := or01 hwr9
          refine lv_if_eq (tgt := 37) hx hb dX3_line_32 (by decide) (fun c10 => ?_) (fun c10 => ?_)
          · replace c10 := (ti_eq rfl (by decide : (0 : Int32).toInt = (0 : Int))).mp c10
            refine lv_aload_n hx hb dX3_line_37 rfl (lv_at hl 0 rfl) ?_
            have hpp := or_r hwr9 (by omega)
            refine cW_i (S := (Nat → Int32) × (Nat → Int32) × (Nat → Int32)) (va_runV (As := []) (rest := []) ⟨hx, hb, hml, hown, hts⟩ (mX3_copyAll l hM hmk0 hbf0 hpp) (cwV 0 hts (gA (m4 k400 k402 ksel15 k4) k403) rfl rfl rfl (by decide +kernel) ⟨Nat.le_of_ble_eq_true rfl, Nat.le_of_ble_eq_true rfl⟩) (prWV hP hK hNS hD rfl (show (w_md m0 a1 a2 a3 a4 a5 a6 cI wd ht ws bf mk nu tg so pa ru)[0]? = some (m0, .inr (3, [.ref a1, .ref a2, .ref a3, .ref a4, .ref a5, .int tg, .int so, .int pa, .int ru, .ref a6])) from rfl)) rfl rfl hl.1 rfl (lv_room (Nat.le_of_ble_eq_true rfl)) dX3_line_38 ⟨Nat.le_of_ble_eq_true rfl, Nat.le_of_ble_eq_true rfl⟩) hD hS hA (fun r11 ur11 H locs hwr11 hP hK hD hS => ?_)
            obtain ⟨r11W, r11F, r11K⟩ := ur11
            dsimp only at hwr11
            have hP : va_P (dC, dI) vwCl (w_md m0 a1 a2 a3 a4 a5 a6 cI wd ht r11W r11F r11K nu tg so pa ru) H := hP
            have hD : va_D A (w_md m0 a1 a2 a3 a4 a5 a6 cI wd ht r11W r11F r11K nu tg so pa ru) := hD
            refine lv_istore_n (lv' := [(3, .int r11), (0, .ref m0), (1, .int dx), (2, .int dy)]) hx hb dX3_line_41 rfl hl (by decide) rfl (fun ls hl => ?_)
            refine lv_iload_n hx hb dX3_line_42 rfl (lv_at hl 2 rfl) ?_
            refine lv_iload_n hx hb dX3_line_43 rfl (lv_at hl 2 rfl) ?_
            refine vp_callSi (va_Run.run (va_runS (As := [.int dx]) (rest := [.int dx]) ⟨hx, hb, hml, hown, hts⟩ (mX3_sign l dx) (va_cwS 1 hts (gA (m3 k426 k427 k4) k428) rfl rfl rfl (by decide +kernel) ⟨Nat.le_of_ble_eq_true rfl, Nat.le_of_ble_eq_true rfl⟩) (prT) rfl rfl hl.1 rfl (lv_room (Nat.le_of_ble_eq_true rfl)) dX3_line_44 ⟨Nat.le_of_ble_eq_true rfl, Nat.le_of_ble_eq_true rfl⟩)) (fun r12 hwr12 => ?_)
            try dsimp only at hwr12
            have hsm47 := sgn_mul hwr12
            refine lv_imul hx hb dX3_line_47 ?_
            refine lv_topi (fun x13 ex13 => ?_)
            have hx13 : x13.toInt = dx.toInt * r12.toInt := by rw [ex13]; exact ti_mul rfl rfl (by omega) (by omega)
            refine lv_istore (lv' := [(4, .int x13), (3, .int r11), (0, .ref m0), (1, .int dx), (2, .int dy)]) hx hb dX3_line_48 hl (by decide) rfl (fun ls hl => ?_)
            refine lv_iload_n hx hb dX3_line_50 rfl (lv_at hl 4 rfl) ?_
            refine lv_iload_n hx hb dX3_line_51 rfl (lv_at hl 4 rfl) ?_
            refine vp_callSi (va_Run.run (va_runS (As := [.int dy]) (rest := [.int dy]) ⟨hx, hb, hml, hown, hts⟩ (mX3_sign l dy) (va_cwS 1 hts (gA (m3 k426 k427 k4) k428) rfl rfl rfl (by decide +kernel) ⟨Nat.le_of_ble_eq_true rfl, Nat.le_of_ble_eq_true rfl⟩) (prT) rfl rfl hl.1 rfl (lv_room (Nat.le_of_ble_eq_true rfl)) dX3_line_52 ⟨Nat.le_of_ble_eq_true rfl, Nat.le_of_ble_eq_true rfl⟩)) (fun r14 hwr14 => ?_)
            try dsimp only at hwr14
            have hsm55 := sgn_mul hwr14
            refine lv_imul hx hb dX3_line_55 ?_
            refine lv_topi (fun x15 ex15 => ?_)
            have hx15 : x15.toInt = dy.toInt * r14.toInt := by rw [ex15]; exact ti_mul rfl rfl (by omega) (by omega)
            refine lv_istore (lv' := [(5, .int x15), (4, .int x13), (3, .int r11), (0, .ref m0), (1, .int dx), (2, .int dy)]) hx hb dX3_line_56 hl (by decide) rfl (fun ls hl => ?_)
            refine lv_iload hx hb dX3_line_58 (lv_at hl 1 rfl) ?_
            refine lv_iload hx hb dX3_line_60 (lv_at hl 0 rfl) ?_
            refine lv_icmp_le (tgt := 69) hx hb dX3_line_62 (by decide) (fun c16 => ?_) (fun c16 => ?_)
            · replace c16 := (ti_le rfl rfl).mp c16
              refine lv_iconst (v := 0) hx hb dX3_line_69 (by decide) ?_
              have hcmp : ¬ max dy.toInt (-dy.toInt) < max dx.toInt (-dx.toInt) := by omega
              refine lv_istore (lv' := [(6, .int (0 : Int32)), (5, .int x15), (4, .int x13), (3, .int r11), (0, .ref m0), (1, .int dx), (2, .int dy)]) hx hb dX3_line_70 hl (by decide) rfl (fun ls hl => ?_)
              refine lv_iload hx hb dX3_line_72 (lv_at hl 0 rfl) ?_
              refine lv_if_eq (tgt := 82) hx hb dX3_line_74 (by decide) (fun c17 => ?_) (fun c17 => ?_)
              · replace c17 := (ti_eq (by decide : (0 : Int32).toInt = (0 : Int)) (by decide : (0 : Int32).toInt = (0 : Int))).mp c17
                refine lv_iload hx hb dX3_line_82 (lv_at hl 1 rfl) ?_
                refine lv_istore (lv' := [(7, .int x15), (6, .int (0 : Int32)), (5, .int x15), (4, .int x13), (3, .int r11), (0, .ref m0), (1, .int dx), (2, .int dy)]) hx hb dX3_line_84 hl (by decide) rfl (fun ls hl => ?_)
                refine lv_iload hx hb dX3_line_86 (lv_at hl 1 rfl) ?_
                refine lv_if_eq (tgt := 96) hx hb dX3_line_88 (by decide) (fun c18 => ?_) (fun c18 => ?_)
                · replace c18 := (ti_eq (by decide : (0 : Int32).toInt = (0 : Int)) (by decide : (0 : Int32).toInt = (0 : Int))).mp c18
                  refine lv_iload hx hb dX3_line_96 (lv_at hl 3 rfl) ?_
                  refine lv_istore (lv' := [(8, .int x13), (7, .int x15), (6, .int (0 : Int32)), (5, .int x15), (4, .int x13), (3, .int r11), (0, .ref m0), (1, .int dx), (2, .int dy)]) hx hb dX3_line_98 hl (by decide) rfl (fun ls hl => ?_)
                  refine lv_iload hx hb dX3_line_100 (lv_at hl 2 rfl) ?_
                  refine lv_if_eq (tgt := 109) hx hb dX3_line_102 (by decide) (fun c19 => ?_) (fun c19 => ?_)
                  · replace c19 := (ti_eq (by decide : (0 : Int32).toInt = (0 : Int)) (by decide : (0 : Int32).toInt = (0 : Int))).mp c19
                    refine lv_iconst (v := 1) hx hb dX3_line_109 (by decide) ?_
                    refine lv_istore (lv' := [(9, .int (1 : Int32)), (8, .int x13), (7, .int x15), (6, .int (0 : Int32)), (5, .int x15), (4, .int x13), (3, .int r11), (0, .ref m0), (1, .int dx), (2, .int dy)]) hx hb dX3_line_110 hl (by decide) rfl (fun ls hl => ?_)
                    refine lv_iload hx hb dX3_line_112 (lv_at hl 3 rfl) ?_
                    refine lv_if_eq (tgt := 121) hx hb dX3_line_114 (by decide) (fun c20 => ?_) (fun c20 => ?_)
                    · replace c20 := (ti_eq (by decide : (0 : Int32).toInt = (0 : Int)) (by decide : (0 : Int32).toInt = (0 : Int))).mp c20
                      refine lv_iload_n hx hb dX3_line_121 rfl (lv_at hl 9 rfl) ?_
                      refine vp_callSi (va_Run.run (va_runS (As := [.int dy]) (rest := []) ⟨hx, hb, hml, hown, hts⟩ (mX3_sign l dy) (va_cwS 1 hts (gA (m3 k426 k427 k4) k428) rfl rfl rfl (by decide +kernel) ⟨Nat.le_of_ble_eq_true rfl, Nat.le_of_ble_eq_true rfl⟩) (prT) rfl rfl hl.1 rfl (lv_room (Nat.le_of_ble_eq_true rfl)) dX3_line_122 ⟨Nat.le_of_ble_eq_true rfl, Nat.le_of_ble_eq_true rfl⟩)) (fun r21 hwr21 => ?_)
                      try dsimp only at hwr21
                      refine lv_istore (lv' := [(10, .int r21), (9, .int (1 : Int32)), (8, .int x13), (7, .int x15), (6, .int (0 : Int32)), (5, .int x15), (4, .int x13), (3, .int r11), (0, .ref m0), (1, .int dx), (2, .int dy)]) hx hb dX3_line_125 hl (by decide) rfl (fun ls hl => ?_)
                      refine lv_iload hx hb dX3_line_127 (lv_at hl 4 rfl) ?_
                      refine lv_if_eq (tgt := 136) hx hb dX3_line_129 (by decide) (fun c22 => ?_) (fun c22 => ?_)
                      · replace c22 := (ti_eq (by decide : (0 : Int32).toInt = (0 : Int)) (by decide : (0 : Int32).toInt = (0 : Int))).mp c22
                        refine lv_iload_n hx hb dX3_line_136 rfl (lv_at hl 9 rfl) ?_
                        refine vp_callSi (va_Run.run (va_runS (As := [.int dx]) (rest := []) ⟨hx, hb, hml, hown, hts⟩ (mX3_sign l dx) (va_cwS 1 hts (gA (m3 k426 k427 k4) k428) rfl rfl rfl (by decide +kernel) ⟨Nat.le_of_ble_eq_true rfl, Nat.le_of_ble_eq_true rfl⟩) (prT) rfl rfl hl.1 rfl (lv_room (Nat.le_of_ble_eq_true rfl)) dX3_line_137 ⟨Nat.le_of_ble_eq_true rfl, Nat.le_of_ble_eq_true rfl⟩)) (fun r23 hwr23 => ?_)
                        try dsimp only at hwr23
                        refine lv_istore (lv' := [(11, .int r23), (10, .int r21), (9, .int (1 : Int32)), (8, .int x13), (7, .int x15), (6, .int (0 : Int32)), (5, .int x15), (4, .int x13), (3, .int r11), (0, .ref m0), (1, .int dx), (2, .int dy)]) hx hb dX3_line_140 hl (by decide) rfl (fun ls hl => ?_)
                        refine lv_iload hx hb dX3_line_142 (lv_at hl 4 rfl) ?_
                        refine lv_iconst (v := 2) hx hb dX3_line_144 (by decide) ?_
                        refine lv_idiv hx hb dX3_line_145 (by decide) ?_
                        refine lv_topi (fun x24 ex24 => ?_)
                        have hx24 : x24.toInt = x15.toInt / (2 : Int) := by rw [ex24]; exact ti_div rfl (by decide : (2 : Int32).toInt = (2 : Int)) (by omega) (by omega)
                        refine lv_istore (lv' := [(12, .int x24), (11, .int r23), (10, .int r21), (9, .int (1 : Int32)), (8, .int x13), (7, .int x15), (6, .int (0 : Int32)), (5, .int x15), (4, .int x13), (3, .int r11), (0, .ref m0), (1, .int dx), (2, .int dy)]) hx hb dX3_line_146 hl (by decide) rfl (fun ls hl => ?_)
                        refine lv_iconst (v := 1) hx hb dX3_line_148 (by decide) ?_
                        refine lv_istore (lv' := [(13, .int (1 : Int32)), (12, .int x24), (11, .int r23), (10, .int r21), (9, .int (1 : Int32)), (8, .int x13), (7, .int x15), (6, .int (0 : Int32)), (5, .int x15), (4, .int x13), (3, .int r11), (0, .ref m0), (1, .int dx), (2, .int dy)]) hx hb dX3_line_149 hl (by decide) rfl (fun ls hl => ?_)
                        have hc0 := ofI_of hwr11.1
                        have hmost : x15.toInt = max dy.toInt (-dy.toInt) := by omega
                        have hoth : x13.toInt = max dx.toInt (-dx.toInt) := by omega
                        have hle : max dx.toInt (-dx.toInt) ≤ max dy.toInt (-dy.toInt) := by omega
                        have hsg1 := sgn_of hwr21
                        have hsg2 := sgn_of hwr23
                        have hbb : -1 ≤ sgn dy.toInt ∧ sgn dy.toInt ≤ 1 := by rw [← hsg1]; omega
                        have hbs : -1 ≤ sgn dx.toInt ∧ sgn dx.toInt ≤ 1 := by rw [← hsg2]; omega
                        obtain ⟨kn, hkn⟩ : ∃ z : Nat, x15.toInt = (z : Int) := ⟨x15.toInt.toNat, by omega⟩
                        have hF0 : lnA wN hN tn sn pn rA 1 dy.toInt dx.toInt nz Bt = lnR wN hN tn sn pn rA 1 dy.toInt dx.toInt kn (x24.toInt) nz (cpA wN hN nz tn sn pn rA Bt) r11 := by unfold lnA; rw [← hc0, show (max dy.toInt (-dy.toInt)).toNat = kn by omega, show max dy.toInt (-dy.toInt) / 2 = x24.toInt by omega]
                        have hm1 : kn ≤ 2000 ∧ max dy.toInt (-dy.toInt) = (kn : Int) := by omega
                        have hm2 : 0 ≤ max dx.toInt (-dx.toInt) ∧ max dx.toInt (-dx.toInt) ≤ (kn : Int) := by omega
                        have hp0 : 0 ≤ x24.toInt ∧ x24.toInt ≤ (kn : Int) := by omega
                        generalize hMS : max dx.toInt (-dx.toInt) = mS at *
                        generalize hMW : max dy.toInt (-dy.toInt) = mW at *
                        refine lpW (σ := Heap × List Loc × Array Slot × Int32 × Int32 × Int32 × Nat × (Nat → Int) × (Nat → Nat → Nat → Bool) × (Nat → Int32) × (Nat → Int32) × (Nat → Int32) × (Nat → Int32)) (fun u => match u with | (H, locs, ls, rs, ct, sp, n0, nz1, B1, nu1, ws1, bf1, mk1) => lv_has ls 14 [(0, .ref m0), (1, .int dx), (2, .int dy), (3, .int ct), (7, .int x15), (8, .int x13), (9, .int (1 : Int32)), (10, .int r21), (11, .int r23), (12, .int rs), (13, .int sp)] ∧ va_P (dC, dI) vwCl (w_md m0 a1 a2 a3 a4 a5 a6 cI wd ht ws1 bf1 mk1 nu1 tg so pa ru) H ∧ va_D A (w_md m0 a1 a2 a3 a4 a5 a6 cI wd ht ws1 bf1 mk1 nu1 tg so pa ru) ∧ va_S A s.heap H locs ∧ (RM wN hN B1 nz1 tn sn pn rA wd ht ws1 nu1 tg so pa ru) ∧ (∀ i j, 16 ≤ j → bt (mk1 i) j = false) ∧ (∀ i j, 16 ≤ j → bt (bf1 i) j = false) ∧ (sp.toInt + (n0 : Int) = (kn : Int) + 1) ∧ (1 ≤ sp.toInt) ∧ (0 ≤ rs.toInt ∧ rs.toInt ≤ (kn : Int)) ∧ (lnR wN hN tn sn pn rA 1 dy.toInt dx.toInt n0 rs.toInt nz1 B1 ct = lnA wN hN tn sn pn rA 1 dy.toInt dx.toInt nz Bt)) (fun u => match u with | (H, locs, ls, rs, ct, sp, n0, nz1, B1, nu1, ws1, bf1, mk1) => n0) (fun u : Heap × List Loc × Array Slot × Int32 × Int32 × Int32 × Nat × (Nat → Int) × (Nat → Nat → Nat → Bool) × (Nat → Int32) × (Nat → Int32) × (Nat → Int32) × (Nat → Int32) => u.1) (fun u : Heap × List Loc × Array Slot × Int32 × Int32 × Int32 × Nat × (Nat → Int) × (Nat → Nat → Nat → Bool) × (Nat → Int32) × (Nat → Int32) × (Nat → Int32) × (Nat → Int32) => u.2.1) (fun u => F0 m 151 u.2.2.1 []) (fun u hu ih151 => ?_) (H, locs, ls, x24, r11, 1, kn, nz, (cpA wN hN nz tn sn pn rA Bt), nu, r11W, r11F, r11K) ⟨lv_sub hl [11, 12, 13, 10, 6, 5, 4, 3, 2, 1, 0] rfl, hP, hD, hS, hwr11.2.1, hwr11.2.2.2, hwr11.2.2.1, by have := (by decide : (1 : Int32).toInt = 1); omega, by decide, hp0, hF0.symm⟩
                        obtain ⟨H, locs, ls, rs, ct, sp, n0, nz1, B1, nu1, ws1, bf1, mk1⟩ := u
                        obtain ⟨hl, hP, hD, hS, hM1, hmk1, hbf1, hsp, hsp1, hrs, hfin⟩ := hu
                        dsimp only
                        refine lv_iload hx hb dX3_line_151 (lv_at hl 10 rfl) ?_
                        refine lv_iload hx hb dX3_line_153 (lv_at hl 4 rfl) ?_
                        refine lv_icmp_gt (tgt := 265) hx hb dX3_line_155 (by decide) (fun c25 => ?_) (fun c25 => ?_)
                        · replace c25 := (ti_lt rfl rfl).mp c25
                          refine lv_iload_n hx hb dX3_line_265 rfl (lv_at hl 3 rfl) ?_
                          have hn0 : n0 = 0 := by omega
                          have hfin2 : (nz1, B1, ct) = lnA wN hN tn sn pn rA 1 dy.toInt dx.toInt nz Bt := by rw [← hfin, hn0]; rfl
                          exact W.iret (v := ct) hx hb hr (fun t9 ht9 hW9 => ⟨⟨ct, (nu1, ws1, bf1, mk1), rfl, Or.inr ⟨⟨by omega, by omega⟩, ⟨by omega, by omega⟩, hpp, hmk1, hbf1, Or.inr ⟨hcmp, by rw [← hfin2], by rw [← hfin2]; exact hM1⟩⟩, by rw [ht9]; exact hP, va_K.moved hW9.alike hK, hD⟩, hS.F ht9⟩) hS.2.2 dX3_line_266
                        · replace c25 := mt (ti_lt rfl rfl).mpr c25
                          obtain ⟨n1, rfl⟩ : ∃ z, n0 = z + 1 := ⟨n0 - 1, by omega⟩
                          have hq0 := hM1.2.1 1 (by decide)
                          refine lv_aload_n hx hb dX3_line_158 rfl (lv_at hl 0 rfl) ?_
                          refine va_get (D := (dC, dI)) (ci := 3) (v := .ref a6) (C := RX3) (T := TX3) (N := 10) hx hb hts inX3 hown hK hP 0 rfl rfl 9 (by decide) (hts _ k299) (fun _ h9 => h9) rfl dX3_line_159 ?_
                          refine lv_iload hx hb dX3_line_162 (lv_at hl 6 rfl) ?_
                          refine iaK hx hb hK hP 6 0 rfl rfl (1) (by decide) (by omega) dX3_line_164 ?_
                          refine lv_topi (fun x26 ex26 => ?_)
                          have hv0 : x26.toInt = nz1 1 := by rw [ex26]; exact hq0.1
                          refine lv_iload hx hb dX3_line_165 (lv_at hl 7 rfl) ?_
                          refine lv_iadd hx hb dX3_line_167 ?_
                          refine lv_topi (fun x27 ex27 => ?_)
                          have hx27 : x27.toInt = x26.toInt + r21.toInt := by rw [ex27]; exact ti_add rfl rfl (by omega) (by omega)
                          refine vp_callSi (va_Run.run (va_runS (As := [.int x27]) (rest := []) ⟨hx, hb, hml, hown, hts⟩ (mX3_isNumber l x27) (va_cwS 1 hts (gA (m3 k385 k386 k4) k387) rfl rfl rfl (by decide +kernel) ⟨Nat.le_of_ble_eq_true rfl, Nat.le_of_ble_eq_true rfl⟩) (prT) rfl rfl hl.1 rfl (lv_room (Nat.le_of_ble_eq_true rfl)) dX3_line_168 ⟨Nat.le_of_ble_eq_true rfl, Nat.le_of_ble_eq_true rfl⟩)) (fun r28 hwr28 => ?_)
                          try dsimp only at hwr28
                          refine lv_if_ne (tgt := 176) hx hb dX3_line_171 (by decide) (fun c29 => ?_) (fun c29 => ?_)
                          · replace c29 := mt (ti_eq rfl (by decide : (0 : Int32).toInt = (0 : Int))).mpr c29
                            have hin1 : -32768 ≤ nz1 1 + sgn dy.toInt ∧ nz1 1 + sgn dy.toInt ≤ 32767 := by rw [← hsg1]; omega
                            refine lv_aload_n hx hb dX3_line_176 rfl (lv_at hl 0 rfl) ?_
                            refine va_get (D := (dC, dI)) (ci := 3) (v := .ref a6) (C := RX3) (T := TX3) (N := 10) hx hb hts inX3 hown hK hP 0 rfl rfl 9 (by decide) (hts _ k299) (fun _ h9 => h9) rfl dX3_line_177 ?_
                            refine lv_iload hx hb dX3_line_180 (lv_at hl 6 rfl) ?_
                            refine lv_dup2_11 hx hb dX3_line_182 rfl rfl ?_
                            refine iaK hx hb hK hP 6 0 rfl rfl (1) (by decide) (by omega) dX3_line_183 ?_
                            refine lv_topi (fun x30 ex30 => ?_)
                            have hv1 : x30.toInt = nz1 1 := by rw [ex30]; exact hq0.1
                            refine lv_iload hx hb dX3_line_184 (lv_at hl 7 rfl) ?_
                            refine lv_iadd hx hb dX3_line_186 ?_
                            refine lv_topi (fun x31 ex31 => ?_)
                            have hx31 : x31.toInt = x30.toInt + r21.toInt := by rw [ex31]; exact ti_add rfl rfl (by omega) (by omega)
                            refine isK hx hb hK hP hD hS 6 0 rfl rfl (1) (by decide) (by omega) dX3_line_187 (fun H locs hP hD hS => ?_)
                            have hP : va_P (dC, dI) vwCl (w_md m0 a1 a2 a3 a4 a5 a6 cI wd ht ws1 bf1 mk1 (upd nu1 1 x31) tg so pa ru) H := hP
                            have hD : va_D A (w_md m0 a1 a2 a3 a4 a5 a6 cI wd ht ws1 bf1 mk1 (upd nu1 1 x31) tg so pa ru) := hD
                            have hA1 := hM1.num (i := 1) (v := x31) (z := nz1 1 + sgn dy.toInt) (by rw [← hsg1]; omega) hin1
                            have hq1 := hA1.2.1 0 (by decide)
                            refine lv_iload hx hb dX3_line_188 (lv_at hl 9 rfl) ?_
                            refine lv_iload hx hb dX3_line_190 (lv_at hl 5 rfl) ?_
                            refine lv_isub hx hb dX3_line_192 ?_
                            refine lv_topi (fun x32 ex32 => ?_)
                            have hx32 : x32.toInt = rs.toInt - x13.toInt := by rw [ex32]; exact ti_sub rfl rfl (by omega) (by omega)
                            refine lv_istore (lv' := [(12, .int x32), (0, .ref m0), (1, .int dx), (2, .int dy), (3, .int ct), (7, .int x15), (8, .int x13), (9, .int (1 : Int32)), (10, .int r21), (11, .int r23), (13, .int sp)]) hx hb dX3_line_193 hl (by decide) rfl (fun ls hl => ?_)
                            refine lv_iload hx hb dX3_line_195 (lv_at hl 0 rfl) ?_
                            refine lv_if_ge (tgt := 241) hx hb dX3_line_197 (by decide) (fun c33 => ?_) (fun c33 => ?_)
                            · replace c33 := (ti_le (by decide : (0 : Int32).toInt = (0 : Int)) rfl).mp c33
                              refine lv_iload_n hx hb dX3_line_241 rfl (lv_at hl 4 rfl) ?_
                              refine lv_iload hx hb dX3_line_242 (lv_at hl 10 rfl) ?_
                              refine lv_iload hx hb dX3_line_244 (lv_at hl 5 rfl) ?_
                              refine lv_icmp_ge (tgt := 256) hx hb dX3_line_246 (by decide) (fun c34 => ?_) (fun c34 => ?_)
                              · replace c34 := (ti_le rfl rfl).mp c34
                                refine lv_iconst (v := 0) hx hb dX3_line_256 (by decide) ?_
                                refine lv_iadd hx hb dX3_line_257 ?_
                                refine lv_topi (fun x35 ex35 => ?_)
                                refine lv_istore_n (lv' := [(3, .int x35), (12, .int x32), (0, .ref m0), (1, .int dx), (2, .int dy), (7, .int x15), (8, .int x13), (9, .int (1 : Int32)), (10, .int r21), (11, .int r23), (13, .int sp)]) hx hb dX3_line_258 rfl hl (by decide) rfl (fun ls hl => ?_)
                                have hn1 : n1 = 0 := by omega
                                have hct : x35 = ct := by rw [ex35]; exact Int32.add_zero ct
                                have hfin2 := hfin; rw [lnR_flat hin1 (by rw [hMS]; omega), if_pos hn1] at hfin2
                                obtain ⟨x36, ex36⟩ : ∃ y : Int32, y = sp + 1 := ⟨_, rfl⟩
                                have hx36 : x36.toInt = sp.toInt + 1 := by rw [ex36]; exact ti_add rfl (by decide) (by omega) (by omega)
                                refine lv_iinc (v := x36) (lv' := [(13, .int x36), (3, .int x35), (12, .int x32), (0, .ref m0), (1, .int dx), (2, .int dy), (7, .int x15), (8, .int x13), (9, .int (1 : Int32)), (10, .int r21), (11, .int r23)]) hx hb dX3_line_259 hl (k := 10) rfl (by rw [ex36]; rfl) (by decide) rfl (fun ls hl => ?_)
                                refine lv_goto (tgt := 151) hx hb dX3_line_262 (by decide) ?_
                                exact ih151 (H, locs, ls, x32, x35, x36, n1, (va_up nz1 1 (nz1 1 + sgn dy.toInt)), B1, (upd nu1 1 x31), ws1, bf1, mk1) ⟨lv_sub hl [3, 4, 5, 1, 6, 7, 8, 9, 10, 2, 0] rfl, hP, hD, hS, hA1, hmk1, hbf1, by omega, by omega, by omega, by rw [hn1, hct]; exact hfin2⟩ (by dsimp only; omega)
                              · replace c34 := mt (ti_le rfl rfl).mpr c34
                                refine lv_aload_n hx hb dX3_line_249 rfl (lv_at hl 1 rfl) ?_
                                refine cW_i (S := (Nat → Int32) × (Nat → Int32) × (Nat → Int32)) (va_runV (As := []) (rest := [.int ct]) ⟨hx, hb, hml, hown, hts⟩ (mX3_copyAll l hA1 hmk1 hbf1 hpp) (cwV 0 hts (gA (m4 k400 k402 ksel15 k4) k403) rfl rfl rfl (by decide +kernel) ⟨Nat.le_of_ble_eq_true rfl, Nat.le_of_ble_eq_true rfl⟩) (prWV hP hK hNS hD rfl (show (w_md m0 a1 a2 a3 a4 a5 a6 cI wd ht ws1 bf1 mk1 (upd nu1 1 x31) tg so pa ru)[0]? = some (m0, .inr (3, [.ref a1, .ref a2, .ref a3, .ref a4, .ref a5, .int tg, .int so, .int pa, .int ru, .ref a6])) from rfl)) rfl rfl hl.1 rfl (lv_room (Nat.le_of_ble_eq_true rfl)) dX3_line_250 ⟨Nat.le_of_ble_eq_true rfl, Nat.le_of_ble_eq_true rfl⟩) hD hS hA (fun r37 ur37 H locs hwr37 hP hK hD hS => ?_)
                                obtain ⟨r37W, r37F, r37K⟩ := ur37
                                dsimp only at hwr37
                                have hP : va_P (dC, dI) vwCl (w_md m0 a1 a2 a3 a4 a5 a6 cI wd ht r37W r37F r37K (upd nu1 1 x31) tg so pa ru) H := hP
                                have hD : va_D A (w_md m0 a1 a2 a3 a4 a5 a6 cI wd ht r37W r37F r37K (upd nu1 1 x31) tg so pa ru) := hD
                                refine lv_goto (tgt := 257) hx hb dX3_line_253 (by decide) ?_
                                refine lv_iadd hx hb dX3_line_257 ?_
                                refine lv_topi (fun x38 ex38 => ?_)
                                refine lv_istore_n (lv' := [(3, .int x38), (12, .int x32), (0, .ref m0), (1, .int dx), (2, .int dy), (7, .int x15), (8, .int x13), (9, .int (1 : Int32)), (10, .int r21), (11, .int r23), (13, .int sp)]) hx hb dX3_line_258 rfl hl (by decide) rfl (fun ls hl => ?_)
                                have hfin2 := hfin; rw [lnR_flat hin1 (by rw [hMS]; omega), if_neg (by omega)] at hfin2
                                rw [← ofI_of hwr37.1, ← ex38] at hfin2
                                rw [hMS, show rs.toInt - mS = x32.toInt by omega] at hfin2
                                obtain ⟨x39, ex39⟩ : ∃ y : Int32, y = sp + 1 := ⟨_, rfl⟩
                                have hx39 : x39.toInt = sp.toInt + 1 := by rw [ex39]; exact ti_add rfl (by decide) (by omega) (by omega)
                                refine lv_iinc (v := x39) (lv' := [(13, .int x39), (3, .int x38), (12, .int x32), (0, .ref m0), (1, .int dx), (2, .int dy), (7, .int x15), (8, .int x13), (9, .int (1 : Int32)), (10, .int r21), (11, .int r23)]) hx hb dX3_line_259 hl (k := 10) rfl (by rw [ex39]; rfl) (by decide) rfl (fun ls hl => ?_)
                                refine lv_goto (tgt := 151) hx hb dX3_line_262 (by decide) ?_
                                exact ih151 (H, locs, ls, x32, x38, x39, n1, (va_up nz1 1 (nz1 1 + sgn dy.toInt)), (cpA wN hN (va_up nz1 1 (nz1 1 + sgn dy.toInt)) tn sn pn rA B1), (upd nu1 1 x31), r37W, r37F, r37K) ⟨lv_sub hl [3, 4, 5, 1, 6, 7, 8, 9, 10, 2, 0] rfl, hP, hD, hS, hwr37.2.1, hwr37.2.2.2, hwr37.2.2.1, by omega, by omega, by omega, hfin2⟩ (by dsimp only; omega)
                            · replace c33 := mt (ti_le (by decide : (0 : Int32).toInt = (0 : Int)) rfl).mpr c33
                              refine lv_aload_n hx hb dX3_line_200 rfl (lv_at hl 1 rfl) ?_
                              refine va_get (D := (dC, dI)) (ci := 3) (v := .ref a6) (C := RX3) (T := TX3) (N := 10) hx hb hts inX3 hown hK hP 0 rfl rfl 9 (by decide) (hts _ k299) (fun _ h9 => h9) rfl dX3_line_201 ?_
                              refine lv_iconst (v := 1) hx hb dX3_line_204 (by decide) ?_
                              refine lv_iload hx hb dX3_line_205 (lv_at hl 7 rfl) ?_
                              refine lv_isub hx hb dX3_line_207 ?_
                              refine lv_topi (fun x40 ex40 => ?_)
                              have hx40 : x40.toInt = (1 : Int) - (1 : Int) := by rw [ex40]; exact ti_sub (by decide : (1 : Int32).toInt = (1 : Int)) (by decide : (1 : Int32).toInt = (1 : Int)) (by omega) (by omega)
                              refine iaK hx hb hK hP 6 0 rfl rfl (0) (by omega) (by omega) dX3_line_208 ?_
                              refine lv_topi (fun x41 ex41 => ?_)
                              have hv2 : x41.toInt = (va_up nz1 1 (nz1 1 + sgn dy.toInt)) 0 := by rw [ex41]; exact hq1.1
                              refine lv_iload hx hb dX3_line_209 (lv_at hl 9 rfl) ?_
                              refine lv_iadd hx hb dX3_line_211 ?_
                              refine lv_topi (fun x42 ex42 => ?_)
                              have hx42 : x42.toInt = x41.toInt + r23.toInt := by rw [ex42]; exact ti_add rfl rfl (by omega) (by omega)
                              refine vp_callSi (va_Run.run (va_runS (As := [.int x42]) (rest := []) ⟨hx, hb, hml, hown, hts⟩ (mX3_isNumber l x42) (va_cwS 1 hts (gA (m3 k385 k386 k4) k387) rfl rfl rfl (by decide +kernel) ⟨Nat.le_of_ble_eq_true rfl, Nat.le_of_ble_eq_true rfl⟩) (prT) rfl rfl hl.1 rfl (lv_room (Nat.le_of_ble_eq_true rfl)) dX3_line_212 ⟨Nat.le_of_ble_eq_true rfl, Nat.le_of_ble_eq_true rfl⟩)) (fun r43 hwr43 => ?_)
                              try dsimp only at hwr43
                              refine lv_if_ne (tgt := 220) hx hb dX3_line_215 (by decide) (fun c44 => ?_) (fun c44 => ?_)
                              · replace c44 := mt (ti_eq rfl (by decide : (0 : Int32).toInt = (0 : Int))).mpr c44
                                have hin2 : -32768 ≤ (va_up nz1 1 (nz1 1 + sgn dy.toInt)) (1 - 1) + sgn dx.toInt ∧ (va_up nz1 1 (nz1 1 + sgn dy.toInt)) (1 - 1) + sgn dx.toInt ≤ 32767 := by rw [← hsg2]; show -32768 ≤ (va_up nz1 1 (nz1 1 + sgn dy.toInt)) 0 + _ ∧ (va_up nz1 1 (nz1 1 + sgn dy.toInt)) 0 + _ ≤ _; omega
                                refine lv_aload_n hx hb dX3_line_220 rfl (lv_at hl 1 rfl) ?_
                                refine va_get (D := (dC, dI)) (ci := 3) (v := .ref a6) (C := RX3) (T := TX3) (N := 10) hx hb hts inX3 hown hK hP 0 rfl rfl 9 (by decide) (hts _ k299) (fun _ h9 => h9) rfl dX3_line_221 ?_
                                refine lv_iconst (v := 1) hx hb dX3_line_224 (by decide) ?_
                                refine lv_iload hx hb dX3_line_225 (lv_at hl 7 rfl) ?_
                                refine lv_isub hx hb dX3_line_227 ?_
                                refine lv_topi (fun x45 ex45 => ?_)
                                have hx45 : x45.toInt = (1 : Int) - (1 : Int) := by rw [ex45]; exact ti_sub (by decide : (1 : Int32).toInt = (1 : Int)) (by decide : (1 : Int32).toInt = (1 : Int)) (by omega) (by omega)
                                refine lv_dup2_11 hx hb dX3_line_228 rfl rfl ?_
                                refine iaK hx hb hK hP 6 0 rfl rfl (0) (by omega) (by omega) dX3_line_229 ?_
                                refine lv_topi (fun x46 ex46 => ?_)
                                have hv3 : x46.toInt = (va_up nz1 1 (nz1 1 + sgn dy.toInt)) 0 := by rw [ex46]; exact hq1.1
                                refine lv_iload hx hb dX3_line_230 (lv_at hl 9 rfl) ?_
                                refine lv_iadd hx hb dX3_line_232 ?_
                                refine lv_topi (fun x47 ex47 => ?_)
                                have hx47 : x47.toInt = x46.toInt + r23.toInt := by rw [ex47]; exact ti_add rfl rfl (by omega) (by omega)
                                refine isK hx hb hK hP hD hS 6 0 rfl rfl (0) (by omega) (by omega) dX3_line_233 (fun H locs hP hD hS => ?_)
                                have hP : va_P (dC, dI) vwCl (w_md m0 a1 a2 a3 a4 a5 a6 cI wd ht ws1 bf1 mk1 (upd (upd nu1 1 x31) 0 x47) tg so pa ru) H := hP
                                have hD : va_D A (w_md m0 a1 a2 a3 a4 a5 a6 cI wd ht ws1 bf1 mk1 (upd (upd nu1 1 x31) 0 x47) tg so pa ru) := hD
                                have hA2 := hA1.num (i := 0) (v := x47) (z := (va_up nz1 1 (nz1 1 + sgn dy.toInt)) 0 + sgn dx.toInt) (by rw [← hsg2]; omega) hin2
                                refine lv_iload hx hb dX3_line_234 (lv_at hl 0 rfl) ?_
                                refine lv_iload hx hb dX3_line_236 (lv_at hl 5 rfl) ?_
                                refine lv_iadd hx hb dX3_line_238 ?_
                                refine lv_topi (fun x48 ex48 => ?_)
                                have hx48 : x48.toInt = x32.toInt + x15.toInt := by rw [ex48]; exact ti_add rfl rfl (by omega) (by omega)
                                refine lv_istore (lv' := [(12, .int x48), (0, .ref m0), (1, .int dx), (2, .int dy), (3, .int ct), (7, .int x15), (8, .int x13), (9, .int (1 : Int32)), (10, .int r21), (11, .int r23), (13, .int sp)]) hx hb dX3_line_239 hl (by decide) rfl (fun ls hl => ?_)
                                refine lv_iload_n hx hb dX3_line_241 rfl (lv_at hl 4 rfl) ?_
                                refine lv_iload hx hb dX3_line_242 (lv_at hl 10 rfl) ?_
                                refine lv_iload hx hb dX3_line_244 (lv_at hl 5 rfl) ?_
                                refine lv_icmp_ge (tgt := 256) hx hb dX3_line_246 (by decide) (fun c49 => ?_) (fun c49 => ?_)
                                · replace c49 := (ti_le rfl rfl).mp c49
                                  refine lv_iconst (v := 0) hx hb dX3_line_256 (by decide) ?_
                                  refine lv_iadd hx hb dX3_line_257 ?_
                                  refine lv_topi (fun x50 ex50 => ?_)
                                  refine lv_istore_n (lv' := [(3, .int x50), (12, .int x48), (0, .ref m0), (1, .int dx), (2, .int dy), (7, .int x15), (8, .int x13), (9, .int (1 : Int32)), (10, .int r21), (11, .int r23), (13, .int sp)]) hx hb dX3_line_258 rfl hl (by decide) rfl (fun ls hl => ?_)
                                  have hn1 : n1 = 0 := by omega
                                  have hct : x50 = ct := by rw [ex50]; exact Int32.add_zero ct
                                  have hfin2 := hfin; rw [lnR_aside hin1 (by rw [hMS]; omega) hin2, if_pos hn1] at hfin2
                                  obtain ⟨x51, ex51⟩ : ∃ y : Int32, y = sp + 1 := ⟨_, rfl⟩
                                  have hx51 : x51.toInt = sp.toInt + 1 := by rw [ex51]; exact ti_add rfl (by decide) (by omega) (by omega)
                                  refine lv_iinc (v := x51) (lv' := [(13, .int x51), (3, .int x50), (12, .int x48), (0, .ref m0), (1, .int dx), (2, .int dy), (7, .int x15), (8, .int x13), (9, .int (1 : Int32)), (10, .int r21), (11, .int r23)]) hx hb dX3_line_259 hl (k := 10) rfl (by rw [ex51]; rfl) (by decide) rfl (fun ls hl => ?_)
                                  refine lv_goto (tgt := 151) hx hb dX3_line_262 (by decide) ?_
                                  exact ih151 (H, locs, ls, x48, x50, x51, n1, (va_up (va_up nz1 1 (nz1 1 + sgn dy.toInt)) (1 - 1) ((va_up nz1 1 (nz1 1 + sgn dy.toInt)) (1 - 1) + sgn dx.toInt)), B1, (upd (upd nu1 1 x31) 0 x47), ws1, bf1, mk1) ⟨lv_sub hl [3, 4, 5, 1, 6, 7, 8, 9, 10, 2, 0] rfl, hP, hD, hS, hA2, hmk1, hbf1, by omega, by omega, by omega, by rw [hn1, hct]; exact hfin2⟩ (by dsimp only; omega)
                                · replace c49 := mt (ti_le rfl rfl).mpr c49
                                  refine lv_aload_n hx hb dX3_line_249 rfl (lv_at hl 1 rfl) ?_
                                  refine cW_i (S := (Nat → Int32) × (Nat → Int32) × (Nat → Int32)) (va_runV (As := []) (rest := [.int ct]) ⟨hx, hb, hml, hown, hts⟩ (mX3_copyAll l hA2 hmk1 hbf1 hpp) (cwV 0 hts (gA (m4 k400 k402 ksel15 k4) k403) rfl rfl rfl (by decide +kernel) ⟨Nat.le_of_ble_eq_true rfl, Nat.le_of_ble_eq_true rfl⟩) (prWV hP hK hNS hD rfl (show (w_md m0 a1 a2 a3 a4 a5 a6 cI wd ht ws1 bf1 mk1 (upd (upd nu1 1 x31) 0 x47) tg so pa ru)[0]? = some (m0, .inr (3, [.ref a1, .ref a2, .ref a3, .ref a4, .ref a5, .int tg, .int so, .int pa, .int ru, .ref a6])) from rfl)) rfl rfl hl.1 rfl (lv_room (Nat.le_of_ble_eq_true rfl)) dX3_line_250 ⟨Nat.le_of_ble_eq_true rfl, Nat.le_of_ble_eq_true rfl⟩) hD hS hA (fun r52 ur52 H locs hwr52 hP hK hD hS => ?_)
                                  obtain ⟨r52W, r52F, r52K⟩ := ur52
                                  dsimp only at hwr52
                                  have hP : va_P (dC, dI) vwCl (w_md m0 a1 a2 a3 a4 a5 a6 cI wd ht r52W r52F r52K (upd (upd nu1 1 x31) 0 x47) tg so pa ru) H := hP
                                  have hD : va_D A (w_md m0 a1 a2 a3 a4 a5 a6 cI wd ht r52W r52F r52K (upd (upd nu1 1 x31) 0 x47) tg so pa ru) := hD
                                  refine lv_goto (tgt := 257) hx hb dX3_line_253 (by decide) ?_
                                  refine lv_iadd hx hb dX3_line_257 ?_
                                  refine lv_topi (fun x53 ex53 => ?_)
                                  refine lv_istore_n (lv' := [(3, .int x53), (12, .int x48), (0, .ref m0), (1, .int dx), (2, .int dy), (7, .int x15), (8, .int x13), (9, .int (1 : Int32)), (10, .int r21), (11, .int r23), (13, .int sp)]) hx hb dX3_line_258 rfl hl (by decide) rfl (fun ls hl => ?_)
                                  have hfin2 := hfin; rw [lnR_aside hin1 (by rw [hMS]; omega) hin2, if_neg (by omega)] at hfin2
                                  rw [← ofI_of hwr52.1, ← ex53] at hfin2
                                  rw [hMS, hMW, show rs.toInt - mS + mW = x48.toInt by omega] at hfin2
                                  obtain ⟨x54, ex54⟩ : ∃ y : Int32, y = sp + 1 := ⟨_, rfl⟩
                                  have hx54 : x54.toInt = sp.toInt + 1 := by rw [ex54]; exact ti_add rfl (by decide) (by omega) (by omega)
                                  refine lv_iinc (v := x54) (lv' := [(13, .int x54), (3, .int x53), (12, .int x48), (0, .ref m0), (1, .int dx), (2, .int dy), (7, .int x15), (8, .int x13), (9, .int (1 : Int32)), (10, .int r21), (11, .int r23)]) hx hb dX3_line_259 hl (k := 10) rfl (by rw [ex54]; rfl) (by decide) rfl (fun ls hl => ?_)
                                  refine lv_goto (tgt := 151) hx hb dX3_line_262 (by decide) ?_
                                  exact ih151 (H, locs, ls, x48, x53, x54, n1, (va_up (va_up nz1 1 (nz1 1 + sgn dy.toInt)) (1 - 1) ((va_up nz1 1 (nz1 1 + sgn dy.toInt)) (1 - 1) + sgn dx.toInt)), (cpA wN hN (va_up (va_up nz1 1 (nz1 1 + sgn dy.toInt)) (1 - 1) ((va_up nz1 1 (nz1 1 + sgn dy.toInt)) (1 - 1) + sgn dx.toInt)) tn sn pn rA B1), (upd (upd nu1 1 x31) 0 x47), r52W, r52F, r52K) ⟨lv_sub hl [3, 4, 5, 1, 6, 7, 8, 9, 10, 2, 0] rfl, hP, hD, hS, hwr52.2.1, hwr52.2.2.2, hwr52.2.2.1, by omega, by omega, by omega, hfin2⟩ (by dsimp only; omega)
                              · replace c44 := (ti_eq rfl (by decide : (0 : Int32).toInt = (0 : Int))).mp c44
                                refine lv_iload_n hx hb dX3_line_218 rfl (lv_at hl 4 rfl) ?_
                                have hfin2 := hfin; rw [lnR_aside_out hin1 (by rw [hMS]; omega) (by rw [← hsg2]; show ¬ (-32768 ≤ (va_up nz1 1 (nz1 1 + sgn dy.toInt)) 0 + _ ∧ (va_up nz1 1 (nz1 1 + sgn dy.toInt)) 0 + _ ≤ _); omega)] at hfin2
                                exact W.iret (v := ct) hx hb hr (fun t9 ht9 hW9 => ⟨⟨ct, ((upd nu1 1 x31), ws1, bf1, mk1), rfl, Or.inr ⟨⟨by omega, by omega⟩, ⟨by omega, by omega⟩, hpp, hmk1, hbf1, Or.inr ⟨hcmp, by rw [← hfin2], by rw [← hfin2]; exact hA1⟩⟩, by rw [ht9]; exact hP, va_K.moved hW9.alike hK, hD⟩, hS.F ht9⟩) hS.2.2 dX3_line_219
                          · replace c29 := (ti_eq rfl (by decide : (0 : Int32).toInt = (0 : Int))).mp c29
                            refine lv_iload_n hx hb dX3_line_174 rfl (lv_at hl 3 rfl) ?_
                            have hfin2 := hfin; rw [lnR_out (by rw [← hsg1]; omega)] at hfin2
                            exact W.iret (v := ct) hx hb hr (fun t9 ht9 hW9 => ⟨⟨ct, (nu1, ws1, bf1, mk1), rfl, Or.inr ⟨⟨by omega, by omega⟩, ⟨by omega, by omega⟩, hpp, hmk1, hbf1, Or.inr ⟨hcmp, by rw [← hfin2], by rw [← hfin2]; exact hM1⟩⟩, by rw [ht9]; exact hP, va_K.moved hW9.alike hK, hD⟩, hS.F ht9⟩) hS.2.2 dX3_line_175
                      · replace c22 := mt (ti_eq (by decide : (0 : Int32).toInt = (0 : Int)) (by decide : (0 : Int32).toInt = (0 : Int))).mpr c22
                        exfalso; omega
                    · replace c20 := mt (ti_eq (by decide : (0 : Int32).toInt = (0 : Int)) (by decide : (0 : Int32).toInt = (0 : Int))).mpr c20
                      exfalso; omega
                  · replace c19 := mt (ti_eq (by decide : (0 : Int32).toInt = (0 : Int)) (by decide : (0 : Int32).toInt = (0 : Int))).mpr c19
                    exfalso; omega
                · replace c18 := mt (ti_eq (by decide : (0 : Int32).toInt = (0 : Int)) (by decide : (0 : Int32).toInt = (0 : Int))).mpr c18
                  exfalso; omega
              · replace c17 := mt (ti_eq (by decide : (0 : Int32).toInt = (0 : Int)) (by decide : (0 : Int32).toInt = (0 : Int))).mpr c17
                exfalso; omega
            · replace c16 := mt (ti_le rfl rfl).mpr c16
              refine lv_iconst (v := 1) hx hb dX3_line_65 (by decide) ?_
              refine lv_goto (tgt := 70) hx hb dX3_line_66 (by decide) ?_
              have hcmp : max dy.toInt (-dy.toInt) < max dx.toInt (-dx.toInt) := by omega
              refine lv_istore (lv' := [(6, .int (1 : Int32)), (5, .int x15), (4, .int x13), (3, .int r11), (0, .ref m0), (1, .int dx), (2, .int dy)]) hx hb dX3_line_70 hl (by decide) rfl (fun ls hl => ?_)
              refine lv_iload hx hb dX3_line_72 (lv_at hl 0 rfl) ?_
              refine lv_if_eq (tgt := 82) hx hb dX3_line_74 (by decide) (fun c55 => ?_) (fun c55 => ?_)
              · replace c55 := (ti_eq (by decide : (1 : Int32).toInt = (1 : Int)) (by decide : (0 : Int32).toInt = (0 : Int))).mp c55
                exfalso; omega
              · replace c55 := mt (ti_eq (by decide : (1 : Int32).toInt = (1 : Int)) (by decide : (0 : Int32).toInt = (0 : Int))).mpr c55
                refine lv_iload hx hb dX3_line_77 (lv_at hl 2 rfl) ?_
                refine lv_goto (tgt := 84) hx hb dX3_line_79 (by decide) ?_
                refine lv_istore (lv' := [(7, .int x13), (6, .int (1 : Int32)), (5, .int x15), (4, .int x13), (3, .int r11), (0, .ref m0), (1, .int dx), (2, .int dy)]) hx hb dX3_line_84 hl (by decide) rfl (fun ls hl => ?_)
                refine lv_iload hx hb dX3_line_86 (lv_at hl 1 rfl) ?_
                refine lv_if_eq (tgt := 96) hx hb dX3_line_88 (by decide) (fun c56 => ?_) (fun c56 => ?_)
                · replace c56 := (ti_eq (by decide : (1 : Int32).toInt = (1 : Int)) (by decide : (0 : Int32).toInt = (0 : Int))).mp c56
                  exfalso; omega
                · replace c56 := mt (ti_eq (by decide : (1 : Int32).toInt = (1 : Int)) (by decide : (0 : Int32).toInt = (0 : Int))).mpr c56
                  refine lv_iload hx hb dX3_line_91 (lv_at hl 2 rfl) ?_
                  refine lv_goto (tgt := 98) hx hb dX3_line_93 (by decide) ?_
                  refine lv_istore (lv' := [(8, .int x15), (7, .int x13), (6, .int (1 : Int32)), (5, .int x15), (4, .int x13), (3, .int r11), (0, .ref m0), (1, .int dx), (2, .int dy)]) hx hb dX3_line_98 hl (by decide) rfl (fun ls hl => ?_)
                  refine lv_iload hx hb dX3_line_100 (lv_at hl 2 rfl) ?_
                  refine lv_if_eq (tgt := 109) hx hb dX3_line_102 (by decide) (fun c57 => ?_) (fun c57 => ?_)
                  · replace c57 := (ti_eq (by decide : (1 : Int32).toInt = (1 : Int)) (by decide : (0 : Int32).toInt = (0 : Int))).mp c57
                    exfalso; omega
                  · replace c57 := mt (ti_eq (by decide : (1 : Int32).toInt = (1 : Int)) (by decide : (0 : Int32).toInt = (0 : Int))).mpr c57
                    refine lv_iconst (v := 0) hx hb dX3_line_105 (by decide) ?_
                    refine lv_goto (tgt := 110) hx hb dX3_line_106 (by decide) ?_
                    refine lv_istore (lv' := [(9, .int (0 : Int32)), (8, .int x15), (7, .int x13), (6, .int (1 : Int32)), (5, .int x15), (4, .int x13), (3, .int r11), (0, .ref m0), (1, .int dx), (2, .int dy)]) hx hb dX3_line_110 hl (by decide) rfl (fun ls hl => ?_)
                    refine lv_iload hx hb dX3_line_112 (lv_at hl 3 rfl) ?_
                    refine lv_if_eq (tgt := 121) hx hb dX3_line_114 (by decide) (fun c58 => ?_) (fun c58 => ?_)
                    · replace c58 := (ti_eq (by decide : (1 : Int32).toInt = (1 : Int)) (by decide : (0 : Int32).toInt = (0 : Int))).mp c58
                      exfalso; omega
                    · replace c58 := mt (ti_eq (by decide : (1 : Int32).toInt = (1 : Int)) (by decide : (0 : Int32).toInt = (0 : Int))).mpr c58
                      refine lv_iload_n hx hb dX3_line_117 rfl (lv_at hl 8 rfl) ?_
                      refine lv_goto (tgt := 122) hx hb dX3_line_118 (by decide) ?_
                      refine vp_callSi (va_Run.run (va_runS (As := [.int dx]) (rest := []) ⟨hx, hb, hml, hown, hts⟩ (mX3_sign l dx) (va_cwS 1 hts (gA (m3 k426 k427 k4) k428) rfl rfl rfl (by decide +kernel) ⟨Nat.le_of_ble_eq_true rfl, Nat.le_of_ble_eq_true rfl⟩) (prT) rfl rfl hl.1 rfl (lv_room (Nat.le_of_ble_eq_true rfl)) dX3_line_122 ⟨Nat.le_of_ble_eq_true rfl, Nat.le_of_ble_eq_true rfl⟩)) (fun r59 hwr59 => ?_)
                      try dsimp only at hwr59
                      refine lv_istore (lv' := [(10, .int r59), (9, .int (0 : Int32)), (8, .int x15), (7, .int x13), (6, .int (1 : Int32)), (5, .int x15), (4, .int x13), (3, .int r11), (0, .ref m0), (1, .int dx), (2, .int dy)]) hx hb dX3_line_125 hl (by decide) rfl (fun ls hl => ?_)
                      refine lv_iload hx hb dX3_line_127 (lv_at hl 4 rfl) ?_
                      refine lv_if_eq (tgt := 136) hx hb dX3_line_129 (by decide) (fun c60 => ?_) (fun c60 => ?_)
                      · replace c60 := (ti_eq (by decide : (1 : Int32).toInt = (1 : Int)) (by decide : (0 : Int32).toInt = (0 : Int))).mp c60
                        exfalso; omega
                      · replace c60 := mt (ti_eq (by decide : (1 : Int32).toInt = (1 : Int)) (by decide : (0 : Int32).toInt = (0 : Int))).mpr c60
                        refine lv_iload_n hx hb dX3_line_132 rfl (lv_at hl 10 rfl) ?_
                        refine lv_goto (tgt := 137) hx hb dX3_line_133 (by decide) ?_
                        refine vp_callSi (va_Run.run (va_runS (As := [.int dy]) (rest := []) ⟨hx, hb, hml, hown, hts⟩ (mX3_sign l dy) (va_cwS 1 hts (gA (m3 k426 k427 k4) k428) rfl rfl rfl (by decide +kernel) ⟨Nat.le_of_ble_eq_true rfl, Nat.le_of_ble_eq_true rfl⟩) (prT) rfl rfl hl.1 rfl (lv_room (Nat.le_of_ble_eq_true rfl)) dX3_line_137 ⟨Nat.le_of_ble_eq_true rfl, Nat.le_of_ble_eq_true rfl⟩)) (fun r61 hwr61 => ?_)
                        try dsimp only at hwr61
                        refine lv_istore (lv' := [(11, .int r61), (10, .int r59), (9, .int (0 : Int32)), (8, .int x15), (7, .int x13), (6, .int (1 : Int32)), (5, .int x15), (4, .int x13), (3, .int r11), (0, .ref m0), (1, .int dx), (2, .int dy)]) hx hb dX3_line_140 hl (by decide) rfl (fun ls hl => ?_)
                        refine lv_iload hx hb dX3_line_142 (lv_at hl 4 rfl) ?_
                        refine lv_iconst (v := 2) hx hb dX3_line_144 (by decide) ?_
                        refine lv_idiv hx hb dX3_line_145 (by decide) ?_
                        refine lv_topi (fun x62 ex62 => ?_)
                        have hx62 : x62.toInt = x13.toInt / (2 : Int) := by rw [ex62]; exact ti_div rfl (by decide : (2 : Int32).toInt = (2 : Int)) (by omega) (by omega)
                        refine lv_istore (lv' := [(12, .int x62), (11, .int r61), (10, .int r59), (9, .int (0 : Int32)), (8, .int x15), (7, .int x13), (6, .int (1 : Int32)), (5, .int x15), (4, .int x13), (3, .int r11), (0, .ref m0), (1, .int dx), (2, .int dy)]) hx hb dX3_line_146 hl (by decide) rfl (fun ls hl => ?_)
                        refine lv_iconst (v := 1) hx hb dX3_line_148 (by decide) ?_
                        refine lv_istore (lv' := [(13, .int (1 : Int32)), (12, .int x62), (11, .int r61), (10, .int r59), (9, .int (0 : Int32)), (8, .int x15), (7, .int x13), (6, .int (1 : Int32)), (5, .int x15), (4, .int x13), (3, .int r11), (0, .ref m0), (1, .int dx), (2, .int dy)]) hx hb dX3_line_149 hl (by decide) rfl (fun ls hl => ?_)
                        have hc0 := ofI_of hwr11.1
                        have hmost : x13.toInt = max dx.toInt (-dx.toInt) := by omega
                        have hoth : x15.toInt = max dy.toInt (-dy.toInt) := by omega
                        have hle : max dy.toInt (-dy.toInt) ≤ max dx.toInt (-dx.toInt) := by omega
                        have hsg1 := sgn_of hwr59
                        have hsg2 := sgn_of hwr61
                        have hbb : -1 ≤ sgn dx.toInt ∧ sgn dx.toInt ≤ 1 := by rw [← hsg1]; omega
                        have hbs : -1 ≤ sgn dy.toInt ∧ sgn dy.toInt ≤ 1 := by rw [← hsg2]; omega
                        obtain ⟨kn, hkn⟩ : ∃ z : Nat, x13.toInt = (z : Int) := ⟨x13.toInt.toNat, by omega⟩
                        have hF0 : lnA wN hN tn sn pn rA 0 dx.toInt dy.toInt nz Bt = lnR wN hN tn sn pn rA 0 dx.toInt dy.toInt kn (x62.toInt) nz (cpA wN hN nz tn sn pn rA Bt) r11 := by unfold lnA; rw [← hc0, show (max dx.toInt (-dx.toInt)).toNat = kn by omega, show max dx.toInt (-dx.toInt) / 2 = x62.toInt by omega]
                        have hm1 : kn ≤ 2000 ∧ max dx.toInt (-dx.toInt) = (kn : Int) := by omega
                        have hm2 : 0 ≤ max dy.toInt (-dy.toInt) ∧ max dy.toInt (-dy.toInt) ≤ (kn : Int) := by omega
                        have hp0 : 0 ≤ x62.toInt ∧ x62.toInt ≤ (kn : Int) := by omega
                        generalize hMS : max dy.toInt (-dy.toInt) = mS at *
                        generalize hMW : max dx.toInt (-dx.toInt) = mW at *
                        refine lpW (σ := Heap × List Loc × Array Slot × Int32 × Int32 × Int32 × Nat × (Nat → Int) × (Nat → Nat → Nat → Bool) × (Nat → Int32) × (Nat → Int32) × (Nat → Int32) × (Nat → Int32)) (fun u => match u with | (H, locs, ls, rs, ct, sp, n0, nz1, B1, nu1, ws1, bf1, mk1) => lv_has ls 14 [(0, .ref m0), (1, .int dx), (2, .int dy), (3, .int ct), (7, .int x13), (8, .int x15), (9, .int (0 : Int32)), (10, .int r59), (11, .int r61), (12, .int rs), (13, .int sp)] ∧ va_P (dC, dI) vwCl (w_md m0 a1 a2 a3 a4 a5 a6 cI wd ht ws1 bf1 mk1 nu1 tg so pa ru) H ∧ va_D A (w_md m0 a1 a2 a3 a4 a5 a6 cI wd ht ws1 bf1 mk1 nu1 tg so pa ru) ∧ va_S A s.heap H locs ∧ (RM wN hN B1 nz1 tn sn pn rA wd ht ws1 nu1 tg so pa ru) ∧ (∀ i j, 16 ≤ j → bt (mk1 i) j = false) ∧ (∀ i j, 16 ≤ j → bt (bf1 i) j = false) ∧ (sp.toInt + (n0 : Int) = (kn : Int) + 1) ∧ (1 ≤ sp.toInt) ∧ (0 ≤ rs.toInt ∧ rs.toInt ≤ (kn : Int)) ∧ (lnR wN hN tn sn pn rA 0 dx.toInt dy.toInt n0 rs.toInt nz1 B1 ct = lnA wN hN tn sn pn rA 0 dx.toInt dy.toInt nz Bt)) (fun u => match u with | (H, locs, ls, rs, ct, sp, n0, nz1, B1, nu1, ws1, bf1, mk1) => n0) (fun u : Heap × List Loc × Array Slot × Int32 × Int32 × Int32 × Nat × (Nat → Int) × (Nat → Nat → Nat → Bool) × (Nat → Int32) × (Nat → Int32) × (Nat → Int32) × (Nat → Int32) => u.1) (fun u : Heap × List Loc × Array Slot × Int32 × Int32 × Int32 × Nat × (Nat → Int) × (Nat → Nat → Nat → Bool) × (Nat → Int32) × (Nat → Int32) × (Nat → Int32) × (Nat → Int32) => u.2.1) (fun u => F0 m 151 u.2.2.1 []) (fun u hu ih151 => ?_) (H, locs, ls, x62, r11, 1, kn, nz, (cpA wN hN nz tn sn pn rA Bt), nu, r11W, r11F, r11K) ⟨lv_sub hl [11, 12, 13, 10, 6, 5, 4, 3, 2, 1, 0] rfl, hP, hD, hS, hwr11.2.1, hwr11.2.2.2, hwr11.2.2.1, by have := (by decide : (1 : Int32).toInt = 1); omega, by decide, hp0, hF0.symm⟩
                        obtain ⟨H, locs, ls, rs, ct, sp, n0, nz1, B1, nu1, ws1, bf1, mk1⟩ := u
                        obtain ⟨hl, hP, hD, hS, hM1, hmk1, hbf1, hsp, hsp1, hrs, hfin⟩ := hu
                        dsimp only
                        refine lv_iload hx hb dX3_line_151 (lv_at hl 10 rfl) ?_
                        refine lv_iload hx hb dX3_line_153 (lv_at hl 4 rfl) ?_
                        refine lv_icmp_gt (tgt := 265) hx hb dX3_line_155 (by decide) (fun c63 => ?_) (fun c63 => ?_)
                        · replace c63 := (ti_lt rfl rfl).mp c63
                          refine lv_iload_n hx hb dX3_line_265 rfl (lv_at hl 3 rfl) ?_
                          have hn0 : n0 = 0 := by omega
                          have hfin2 : (nz1, B1, ct) = lnA wN hN tn sn pn rA 0 dx.toInt dy.toInt nz Bt := by rw [← hfin, hn0]; rfl
                          exact W.iret (v := ct) hx hb hr (fun t9 ht9 hW9 => ⟨⟨ct, (nu1, ws1, bf1, mk1), rfl, Or.inr ⟨⟨by omega, by omega⟩, ⟨by omega, by omega⟩, hpp, hmk1, hbf1, Or.inl ⟨hcmp, by rw [← hfin2], by rw [← hfin2]; exact hM1⟩⟩, by rw [ht9]; exact hP, va_K.moved hW9.alike hK, hD⟩, hS.F ht9⟩) hS.2.2 dX3_line_266
                        · replace c63 := mt (ti_lt rfl rfl).mpr c63
                          obtain ⟨n1, rfl⟩ : ∃ z, n0 = z + 1 := ⟨n0 - 1, by omega⟩
                          have hq0 := hM1.2.1 0 (by decide)
                          refine lv_aload_n hx hb dX3_line_158 rfl (lv_at hl 0 rfl) ?_
                          refine va_get (D := (dC, dI)) (ci := 3) (v := .ref a6) (C := RX3) (T := TX3) (N := 10) hx hb hts inX3 hown hK hP 0 rfl rfl 9 (by decide) (hts _ k299) (fun _ h9 => h9) rfl dX3_line_159 ?_
                          refine lv_iload hx hb dX3_line_162 (lv_at hl 6 rfl) ?_
                          refine iaK hx hb hK hP 6 0 rfl rfl (0) (by decide) (by omega) dX3_line_164 ?_
                          refine lv_topi (fun x64 ex64 => ?_)
                          have hv0 : x64.toInt = nz1 0 := by rw [ex64]; exact hq0.1
                          refine lv_iload hx hb dX3_line_165 (lv_at hl 7 rfl) ?_
                          refine lv_iadd hx hb dX3_line_167 ?_
                          refine lv_topi (fun x65 ex65 => ?_)
                          have hx65 : x65.toInt = x64.toInt + r59.toInt := by rw [ex65]; exact ti_add rfl rfl (by omega) (by omega)
                          refine vp_callSi (va_Run.run (va_runS (As := [.int x65]) (rest := []) ⟨hx, hb, hml, hown, hts⟩ (mX3_isNumber l x65) (va_cwS 1 hts (gA (m3 k385 k386 k4) k387) rfl rfl rfl (by decide +kernel) ⟨Nat.le_of_ble_eq_true rfl, Nat.le_of_ble_eq_true rfl⟩) (prT) rfl rfl hl.1 rfl (lv_room (Nat.le_of_ble_eq_true rfl)) dX3_line_168 ⟨Nat.le_of_ble_eq_true rfl, Nat.le_of_ble_eq_true rfl⟩)) (fun r66 hwr66 => ?_)
                          try dsimp only at hwr66
                          refine lv_if_ne (tgt := 176) hx hb dX3_line_171 (by decide) (fun c67 => ?_) (fun c67 => ?_)
                          · replace c67 := mt (ti_eq rfl (by decide : (0 : Int32).toInt = (0 : Int))).mpr c67
                            have hin1 : -32768 ≤ nz1 0 + sgn dx.toInt ∧ nz1 0 + sgn dx.toInt ≤ 32767 := by rw [← hsg1]; omega
                            refine lv_aload_n hx hb dX3_line_176 rfl (lv_at hl 0 rfl) ?_
                            refine va_get (D := (dC, dI)) (ci := 3) (v := .ref a6) (C := RX3) (T := TX3) (N := 10) hx hb hts inX3 hown hK hP 0 rfl rfl 9 (by decide) (hts _ k299) (fun _ h9 => h9) rfl dX3_line_177 ?_
                            refine lv_iload hx hb dX3_line_180 (lv_at hl 6 rfl) ?_
                            refine lv_dup2_11 hx hb dX3_line_182 rfl rfl ?_
                            refine iaK hx hb hK hP 6 0 rfl rfl (0) (by decide) (by omega) dX3_line_183 ?_
                            refine lv_topi (fun x68 ex68 => ?_)
                            have hv1 : x68.toInt = nz1 0 := by rw [ex68]; exact hq0.1
                            refine lv_iload hx hb dX3_line_184 (lv_at hl 7 rfl) ?_
                            refine lv_iadd hx hb dX3_line_186 ?_
                            refine lv_topi (fun x69 ex69 => ?_)
                            have hx69 : x69.toInt = x68.toInt + r59.toInt := by rw [ex69]; exact ti_add rfl rfl (by omega) (by omega)
                            refine isK hx hb hK hP hD hS 6 0 rfl rfl (0) (by decide) (by omega) dX3_line_187 (fun H locs hP hD hS => ?_)
                            have hP : va_P (dC, dI) vwCl (w_md m0 a1 a2 a3 a4 a5 a6 cI wd ht ws1 bf1 mk1 (upd nu1 0 x69) tg so pa ru) H := hP
                            have hD : va_D A (w_md m0 a1 a2 a3 a4 a5 a6 cI wd ht ws1 bf1 mk1 (upd nu1 0 x69) tg so pa ru) := hD
                            have hA1 := hM1.num (i := 0) (v := x69) (z := nz1 0 + sgn dx.toInt) (by rw [← hsg1]; omega) hin1
                            have hq1 := hA1.2.1 1 (by decide)
                            refine lv_iload hx hb dX3_line_188 (lv_at hl 9 rfl) ?_
                            refine lv_iload hx hb dX3_line_190 (lv_at hl 5 rfl) ?_
                            refine lv_isub hx hb dX3_line_192 ?_
                            refine lv_topi (fun x70 ex70 => ?_)
                            have hx70 : x70.toInt = rs.toInt - x15.toInt := by rw [ex70]; exact ti_sub rfl rfl (by omega) (by omega)
                            refine lv_istore (lv' := [(12, .int x70), (0, .ref m0), (1, .int dx), (2, .int dy), (3, .int ct), (7, .int x13), (8, .int x15), (9, .int (0 : Int32)), (10, .int r59), (11, .int r61), (13, .int sp)]) hx hb dX3_line_193 hl (by decide) rfl (fun ls hl => ?_)
                            refine lv_iload hx hb dX3_line_195 (lv_at hl 0 rfl) ?_
                            refine lv_if_ge (tgt := 241) hx hb dX3_line_197 (by decide) (fun c71 => ?_) (fun c71 => ?_)
                            · replace c71 := (ti_le (by decide : (0 : Int32).toInt = (0 : Int)) rfl).mp c71
                              refine lv_iload_n hx hb dX3_line_241 rfl (lv_at hl 4 rfl) ?_
                              refine lv_iload hx hb dX3_line_242 (lv_at hl 10 rfl) ?_
                              refine lv_iload hx hb dX3_line_244 (lv_at hl 5 rfl) ?_
                              refine lv_icmp_ge (tgt := 256) hx hb dX3_line_246 (by decide) (fun c72 => ?_) (fun c72 => ?_)
                              · replace c72 := (ti_le rfl rfl).mp c72
                                refine lv_iconst (v := 0) hx hb dX3_line_256 (by decide) ?_
                                refine lv_iadd hx hb dX3_line_257 ?_
                                refine lv_topi (fun x73 ex73 => ?_)
                                refine lv_istore_n (lv' := [(3, .int x73), (12, .int x70), (0, .ref m0), (1, .int dx), (2, .int dy), (7, .int x13), (8, .int x15), (9, .int (0 : Int32)), (10, .int r59), (11, .int r61), (13, .int sp)]) hx hb dX3_line_258 rfl hl (by decide) rfl (fun ls hl => ?_)
                                have hn1 : n1 = 0 := by omega
                                have hct : x73 = ct := by rw [ex73]; exact Int32.add_zero ct
                                have hfin2 := hfin; rw [lnR_flat hin1 (by rw [hMS]; omega), if_pos hn1] at hfin2
                                obtain ⟨x74, ex74⟩ : ∃ y : Int32, y = sp + 1 := ⟨_, rfl⟩
                                have hx74 : x74.toInt = sp.toInt + 1 := by rw [ex74]; exact ti_add rfl (by decide) (by omega) (by omega)
                                refine lv_iinc (v := x74) (lv' := [(13, .int x74), (3, .int x73), (12, .int x70), (0, .ref m0), (1, .int dx), (2, .int dy), (7, .int x13), (8, .int x15), (9, .int (0 : Int32)), (10, .int r59), (11, .int r61)]) hx hb dX3_line_259 hl (k := 10) rfl (by rw [ex74]; rfl) (by decide) rfl (fun ls hl => ?_)
                                refine lv_goto (tgt := 151) hx hb dX3_line_262 (by decide) ?_
                                exact ih151 (H, locs, ls, x70, x73, x74, n1, (va_up nz1 0 (nz1 0 + sgn dx.toInt)), B1, (upd nu1 0 x69), ws1, bf1, mk1) ⟨lv_sub hl [3, 4, 5, 1, 6, 7, 8, 9, 10, 2, 0] rfl, hP, hD, hS, hA1, hmk1, hbf1, by omega, by omega, by omega, by rw [hn1, hct]; exact hfin2⟩ (by dsimp only; omega)
                              · replace c72 := mt (ti_le rfl rfl).mpr c72
                                refine lv_aload_n hx hb dX3_line_249 rfl (lv_at hl 1 rfl) ?_
                                refine cW_i (S := (Nat → Int32) × (Nat → Int32) × (Nat → Int32)) (va_runV (As := []) (rest := [.int ct]) ⟨hx, hb, hml, hown, hts⟩ (mX3_copyAll l hA1 hmk1 hbf1 hpp) (cwV 0 hts (gA (m4 k400 k402 ksel15 k4) k403) rfl rfl rfl (by decide +kernel) ⟨Nat.le_of_ble_eq_true rfl, Nat.le_of_ble_eq_true rfl⟩) (prWV hP hK hNS hD rfl (show (w_md m0 a1 a2 a3 a4 a5 a6 cI wd ht ws1 bf1 mk1 (upd nu1 0 x69) tg so pa ru)[0]? = some (m0, .inr (3, [.ref a1, .ref a2, .ref a3, .ref a4, .ref a5, .int tg, .int so, .int pa, .int ru, .ref a6])) from rfl)) rfl rfl hl.1 rfl (lv_room (Nat.le_of_ble_eq_true rfl)) dX3_line_250 ⟨Nat.le_of_ble_eq_true rfl, Nat.le_of_ble_eq_true rfl⟩) hD hS hA (fun r75 ur75 H locs hwr75 hP hK hD hS => ?_)
                                obtain ⟨r75W, r75F, r75K⟩ := ur75
                                dsimp only at hwr75
                                have hP : va_P (dC, dI) vwCl (w_md m0 a1 a2 a3 a4 a5 a6 cI wd ht r75W r75F r75K (upd nu1 0 x69) tg so pa ru) H := hP
                                have hD : va_D A (w_md m0 a1 a2 a3 a4 a5 a6 cI wd ht r75W r75F r75K (upd nu1 0 x69) tg so pa ru) := hD
                                refine lv_goto (tgt := 257) hx hb dX3_line_253 (by decide) ?_
                                refine lv_iadd hx hb dX3_line_257 ?_
                                refine lv_topi (fun x76 ex76 => ?_)
                                refine lv_istore_n (lv' := [(3, .int x76), (12, .int x70), (0, .ref m0), (1, .int dx), (2, .int dy), (7, .int x13), (8, .int x15), (9, .int (0 : Int32)), (10, .int r59), (11, .int r61), (13, .int sp)]) hx hb dX3_line_258 rfl hl (by decide) rfl (fun ls hl => ?_)
                                have hfin2 := hfin; rw [lnR_flat hin1 (by rw [hMS]; omega), if_neg (by omega)] at hfin2
                                rw [← ofI_of hwr75.1, ← ex76] at hfin2
                                rw [hMS, show rs.toInt - mS = x70.toInt by omega] at hfin2
                                obtain ⟨x77, ex77⟩ : ∃ y : Int32, y = sp + 1 := ⟨_, rfl⟩
                                have hx77 : x77.toInt = sp.toInt + 1 := by rw [ex77]; exact ti_add rfl (by decide) (by omega) (by omega)
                                refine lv_iinc (v := x77) (lv' := [(13, .int x77), (3, .int x76), (12, .int x70), (0, .ref m0), (1, .int dx), (2, .int dy), (7, .int x13), (8, .int x15), (9, .int (0 : Int32)), (10, .int r59), (11, .int r61)]) hx hb dX3_line_259 hl (k := 10) rfl (by rw [ex77]; rfl) (by decide) rfl (fun ls hl => ?_)
                                refine lv_goto (tgt := 151) hx hb dX3_line_262 (by decide) ?_
                                exact ih151 (H, locs, ls, x70, x76, x77, n1, (va_up nz1 0 (nz1 0 + sgn dx.toInt)), (cpA wN hN (va_up nz1 0 (nz1 0 + sgn dx.toInt)) tn sn pn rA B1), (upd nu1 0 x69), r75W, r75F, r75K) ⟨lv_sub hl [3, 4, 5, 1, 6, 7, 8, 9, 10, 2, 0] rfl, hP, hD, hS, hwr75.2.1, hwr75.2.2.2, hwr75.2.2.1, by omega, by omega, by omega, hfin2⟩ (by dsimp only; omega)
                            · replace c71 := mt (ti_le (by decide : (0 : Int32).toInt = (0 : Int)) rfl).mpr c71
                              refine lv_aload_n hx hb dX3_line_200 rfl (lv_at hl 1 rfl) ?_
                              refine va_get (D := (dC, dI)) (ci := 3) (v := .ref a6) (C := RX3) (T := TX3) (N := 10) hx hb hts inX3 hown hK hP 0 rfl rfl 9 (by decide) (hts _ k299) (fun _ h9 => h9) rfl dX3_line_201 ?_
                              refine lv_iconst (v := 1) hx hb dX3_line_204 (by decide) ?_
                              refine lv_iload hx hb dX3_line_205 (lv_at hl 7 rfl) ?_
                              refine lv_isub hx hb dX3_line_207 ?_
                              refine lv_topi (fun x78 ex78 => ?_)
                              have hx78 : x78.toInt = (1 : Int) - (0 : Int) := by rw [ex78]; exact ti_sub (by decide : (1 : Int32).toInt = (1 : Int)) (by decide : (0 : Int32).toInt = (0 : Int)) (by omega) (by omega)
                              refine iaK hx hb hK hP 6 0 rfl rfl (1) (by omega) (by omega) dX3_line_208 ?_
                              refine lv_topi (fun x79 ex79 => ?_)
                              have hv2 : x79.toInt = (va_up nz1 0 (nz1 0 + sgn dx.toInt)) 1 := by rw [ex79]; exact hq1.1
                              refine lv_iload hx hb dX3_line_209 (lv_at hl 9 rfl) ?_
                              refine lv_iadd hx hb dX3_line_211 ?_
                              refine lv_topi (fun x80 ex80 => ?_)
                              have hx80 : x80.toInt = x79.toInt + r61.toInt := by rw [ex80]; exact ti_add rfl rfl (by omega) (by omega)
                              refine vp_callSi (va_Run.run (va_runS (As := [.int x80]) (rest := []) ⟨hx, hb, hml, hown, hts⟩ (mX3_isNumber l x80) (va_cwS 1 hts (gA (m3 k385 k386 k4) k387) rfl rfl rfl (by decide +kernel) ⟨Nat.le_of_ble_eq_true rfl, Nat.le_of_ble_eq_true rfl⟩) (prT) rfl rfl hl.1 rfl (lv_room (Nat.le_of_ble_eq_true rfl)) dX3_line_212 ⟨Nat.le_of_ble_eq_true rfl, Nat.le_of_ble_eq_true rfl⟩)) (fun r81 hwr81 => ?_)
                              try dsimp only at hwr81
                              refine lv_if_ne (tgt := 220) hx hb dX3_line_215 (by decide) (fun c82 => ?_) (fun c82 => ?_)
                              · replace c82 := mt (ti_eq rfl (by decide : (0 : Int32).toInt = (0 : Int))).mpr c82
                                have hin2 : -32768 ≤ (va_up nz1 0 (nz1 0 + sgn dx.toInt)) (1 - 0) + sgn dy.toInt ∧ (va_up nz1 0 (nz1 0 + sgn dx.toInt)) (1 - 0) + sgn dy.toInt ≤ 32767 := by rw [← hsg2]; show -32768 ≤ (va_up nz1 0 (nz1 0 + sgn dx.toInt)) 1 + _ ∧ (va_up nz1 0 (nz1 0 + sgn dx.toInt)) 1 + _ ≤ _; omega
                                refine lv_aload_n hx hb dX3_line_220 rfl (lv_at hl 1 rfl) ?_
                                refine va_get (D := (dC, dI)) (ci := 3) (v := .ref a6) (C := RX3) (T := TX3) (N := 10) hx hb hts inX3 hown hK hP 0 rfl rfl 9 (by decide) (hts _ k299) (fun _ h9 => h9) rfl dX3_line_221 ?_
                                refine lv_iconst (v := 1) hx hb dX3_line_224 (by decide) ?_
                                refine lv_iload hx hb dX3_line_225 (lv_at hl 7 rfl) ?_
                                refine lv_isub hx hb dX3_line_227 ?_
                                refine lv_topi (fun x83 ex83 => ?_)
                                have hx83 : x83.toInt = (1 : Int) - (0 : Int) := by rw [ex83]; exact ti_sub (by decide : (1 : Int32).toInt = (1 : Int)) (by decide : (0 : Int32).toInt = (0 : Int)) (by omega) (by omega)
                                refine lv_dup2_11 hx hb dX3_line_228 rfl rfl ?_
                                refine iaK hx hb hK hP 6 0 rfl rfl (1) (by omega) (by omega) dX3_line_229 ?_
                                refine lv_topi (fun x84 ex84 => ?_)
                                have hv3 : x84.toInt = (va_up nz1 0 (nz1 0 + sgn dx.toInt)) 1 := by rw [ex84]; exact hq1.1
                                refine lv_iload hx hb dX3_line_230 (lv_at hl 9 rfl) ?_
                                refine lv_iadd hx hb dX3_line_232 ?_
                                refine lv_topi (fun x85 ex85 => ?_)
                                have hx85 : x85.toInt = x84.toInt + r61.toInt := by rw [ex85]; exact ti_add rfl rfl (by omega) (by omega)
                                refine isK hx hb hK hP hD hS 6 0 rfl rfl (1) (by omega) (by omega) dX3_line_233 (fun H locs hP hD hS => ?_)
                                have hP : va_P (dC, dI) vwCl (w_md m0 a1 a2 a3 a4 a5 a6 cI wd ht ws1 bf1 mk1 (upd (upd nu1 0 x69) 1 x85) tg so pa ru) H := hP
                                have hD : va_D A (w_md m0 a1 a2 a3 a4 a5 a6 cI wd ht ws1 bf1 mk1 (upd (upd nu1 0 x69) 1 x85) tg so pa ru) := hD
                                have hA2 := hA1.num (i := 1) (v := x85) (z := (va_up nz1 0 (nz1 0 + sgn dx.toInt)) 1 + sgn dy.toInt) (by rw [← hsg2]; omega) hin2
                                refine lv_iload hx hb dX3_line_234 (lv_at hl 0 rfl) ?_
                                refine lv_iload hx hb dX3_line_236 (lv_at hl 5 rfl) ?_
                                refine lv_iadd hx hb dX3_line_238 ?_
                                refine lv_topi (fun x86 ex86 => ?_)
                                have hx86 : x86.toInt = x70.toInt + x13.toInt := by rw [ex86]; exact ti_add rfl rfl (by omega) (by omega)
                                refine lv_istore (lv' := [(12, .int x86), (0, .ref m0), (1, .int dx), (2, .int dy), (3, .int ct), (7, .int x13), (8, .int x15), (9, .int (0 : Int32)), (10, .int r59), (11, .int r61), (13, .int sp)]) hx hb dX3_line_239 hl (by decide) rfl (fun ls hl => ?_)
                                refine lv_iload_n hx hb dX3_line_241 rfl (lv_at hl 4 rfl) ?_
                                refine lv_iload hx hb dX3_line_242 (lv_at hl 10 rfl) ?_
                                refine lv_iload hx hb dX3_line_244 (lv_at hl 5 rfl) ?_
                                refine lv_icmp_ge (tgt := 256) hx hb dX3_line_246 (by decide) (fun c87 => ?_) (fun c87 => ?_)
                                · replace c87 := (ti_le rfl rfl).mp c87
                                  refine lv_iconst (v := 0) hx hb dX3_line_256 (by decide) ?_
                                  refine lv_iadd hx hb dX3_line_257 ?_
                                  refine lv_topi (fun x88 ex88 => ?_)
                                  refine lv_istore_n (lv' := [(3, .int x88), (12, .int x86), (0, .ref m0), (1, .int dx), (2, .int dy), (7, .int x13), (8, .int x15), (9, .int (0 : Int32)), (10, .int r59), (11, .int r61), (13, .int sp)]) hx hb dX3_line_258 rfl hl (by decide) rfl (fun ls hl => ?_)
                                  have hn1 : n1 = 0 := by omega
                                  have hct : x88 = ct := by rw [ex88]; exact Int32.add_zero ct
                                  have hfin2 := hfin; rw [lnR_aside hin1 (by rw [hMS]; omega) hin2, if_pos hn1] at hfin2
                                  obtain ⟨x89, ex89⟩ : ∃ y : Int32, y = sp + 1 := ⟨_, rfl⟩
                                  have hx89 : x89.toInt = sp.toInt + 1 := by rw [ex89]; exact ti_add rfl (by decide) (by omega) (by omega)
                                  refine lv_iinc (v := x89) (lv' := [(13, .int x89), (3, .int x88), (12, .int x86), (0, .ref m0), (1, .int dx), (2, .int dy), (7, .int x13), (8, .int x15), (9, .int (0 : Int32)), (10, .int r59), (11, .int r61)]) hx hb dX3_line_259 hl (k := 10) rfl (by rw [ex89]; rfl) (by decide) rfl (fun ls hl => ?_)
                                  refine lv_goto (tgt := 151) hx hb dX3_line_262 (by decide) ?_
                                  exact ih151 (H, locs, ls, x86, x88, x89, n1, (va_up (va_up nz1 0 (nz1 0 + sgn dx.toInt)) (1 - 0) ((va_up nz1 0 (nz1 0 + sgn dx.toInt)) (1 - 0) + sgn dy.toInt)), B1, (upd (upd nu1 0 x69) 1 x85), ws1, bf1, mk1) ⟨lv_sub hl [3, 4, 5, 1, 6, 7, 8, 9, 10, 2, 0] rfl, hP, hD, hS, hA2, hmk1, hbf1, by omega, by omega, by omega, by rw [hn1, hct]; exact hfin2⟩ (by dsimp only; omega)
                                · replace c87 := mt (ti_le rfl rfl).mpr c87
                                  refine lv_aload_n hx hb dX3_line_249 rfl (lv_at hl 1 rfl) ?_
                                  refine cW_i (S := (Nat → Int32) × (Nat → Int32) × (Nat → Int32)) (va_runV (As := []) (rest := [.int ct]) ⟨hx, hb, hml, hown, hts⟩ (mX3_copyAll l hA2 hmk1 hbf1 hpp) (cwV 0 hts (gA (m4 k400 k402 ksel15 k4) k403) rfl rfl rfl (by decide +kernel) ⟨Nat.le_of_ble_eq_true rfl, Nat.le_of_ble_eq_true rfl⟩) (prWV hP hK hNS hD rfl (show (w_md m0 a1 a2 a3 a4 a5 a6 cI wd ht ws1 bf1 mk1 (upd (upd nu1 0 x69) 1 x85) tg so pa ru)[0]? = some (m0, .inr (3, [.ref a1, .ref a2, .ref a3, .ref a4, .ref a5, .int tg, .int so, .int pa, .int ru, .ref a6])) from rfl)) rfl rfl hl.1 rfl (lv_room (Nat.le_of_ble_eq_true rfl)) dX3_line_250 ⟨Nat.le_of_ble_eq_true rfl, Nat.le_of_ble_eq_true rfl⟩) hD hS hA (fun r90 ur90 H locs hwr90 hP hK hD hS => ?_)
                                  obtain ⟨r90W, r90F, r90K⟩ := ur90
                                  dsimp only at hwr90
                                  have hP : va_P (dC, dI) vwCl (w_md m0 a1 a2 a3 a4 a5 a6 cI wd ht r90W r90F r90K (upd (upd nu1 0 x69) 1 x85) tg so pa ru) H := hP
                                  have hD : va_D A (w_md m0 a1 a2 a3 a4 a5 a6 cI wd ht r90W r90F r90K (upd (upd nu1 0 x69) 1 x85) tg so pa ru) := hD
                                  refine lv_goto (tgt := 257) hx hb dX3_line_253 (by decide) ?_
                                  refine lv_iadd hx hb dX3_line_257 ?_
                                  refine lv_topi (fun x91 ex91 => ?_)
                                  refine lv_istore_n (lv' := [(3, .int x91), (12, .int x86), (0, .ref m0), (1, .int dx), (2, .int dy), (7, .int x13), (8, .int x15), (9, .int (0 : Int32)), (10, .int r59), (11, .int r61), (13, .int sp)]) hx hb dX3_line_258 rfl hl (by decide) rfl (fun ls hl => ?_)
                                  have hfin2 := hfin; rw [lnR_aside hin1 (by rw [hMS]; omega) hin2, if_neg (by omega)] at hfin2
                                  rw [← ofI_of hwr90.1, ← ex91] at hfin2
                                  rw [hMS, hMW, show rs.toInt - mS + mW = x86.toInt by omega] at hfin2
                                  obtain ⟨x92, ex92⟩ : ∃ y : Int32, y = sp + 1 := ⟨_, rfl⟩
                                  have hx92 : x92.toInt = sp.toInt + 1 := by rw [ex92]; exact ti_add rfl (by decide) (by omega) (by omega)
                                  refine lv_iinc (v := x92) (lv' := [(13, .int x92), (3, .int x91), (12, .int x86), (0, .ref m0), (1, .int dx), (2, .int dy), (7, .int x13), (8, .int x15), (9, .int (0 : Int32)), (10, .int r59), (11, .int r61)]) hx hb dX3_line_259 hl (k := 10) rfl (by rw [ex92]; rfl) (by decide) rfl (fun ls hl => ?_)
                                  refine lv_goto (tgt := 151) hx hb dX3_line_262 (by decide) ?_
                                  exact ih151 (H, locs, ls, x86, x91, x92, n1, (va_up (va_up nz1 0 (nz1 0 + sgn dx.toInt)) (1 - 0) ((va_up nz1 0 (nz1 0 + sgn dx.toInt)) (1 - 0) + sgn dy.toInt)), (cpA wN hN (va_up (va_up nz1 0 (nz1 0 + sgn dx.toInt)) (1 - 0) ((va_up nz1 0 (nz1 0 + sgn dx.toInt)) (1 - 0) + sgn dy.toInt)) tn sn pn rA B1), (upd (upd nu1 0 x69) 1 x85), r90W, r90F, r90K) ⟨lv_sub hl [3, 4, 5, 1, 6, 7, 8, 9, 10, 2, 0] rfl, hP, hD, hS, hwr90.2.1, hwr90.2.2.2, hwr90.2.2.1, by omega, by omega, by omega, hfin2⟩ (by dsimp only; omega)
                              · replace c82 := (ti_eq rfl (by decide : (0 : Int32).toInt = (0 : Int))).mp c82
                                refine lv_iload_n hx hb dX3_line_218 rfl (lv_at hl 4 rfl) ?_
                                have hfin2 := hfin; rw [lnR_aside_out hin1 (by rw [hMS]; omega) (by rw [← hsg2]; show ¬ (-32768 ≤ (va_up nz1 0 (nz1 0 + sgn dx.toInt)) 1 + _ ∧ (va_up nz1 0 (nz1 0 + sgn dx.toInt)) 1 + _ ≤ _); omega)] at hfin2
                                exact W.iret (v := ct) hx hb hr (fun t9 ht9 hW9 => ⟨⟨ct, ((upd nu1 0 x69), ws1, bf1, mk1), rfl, Or.inr ⟨⟨by omega, by omega⟩, ⟨by omega, by omega⟩, hpp, hmk1, hbf1, Or.inl ⟨hcmp, by rw [← hfin2], by rw [← hfin2]; exact hA1⟩⟩, by rw [ht9]; exact hP, va_K.moved hW9.alike hK, hD⟩, hS.F ht9⟩) hS.2.2 dX3_line_219
                          · replace c67 := (ti_eq rfl (by decide : (0 : Int32).toInt = (0 : Int))).mp c67
                            refine lv_iload_n hx hb dX3_line_174 rfl (lv_at hl 3 rfl) ?_
                            have hfin2 := hfin; rw [lnR_out (by rw [← hsg1]; omega)] at hfin2
                            exact W.iret (v := ct) hx hb hr (fun t9 ht9 hW9 => ⟨⟨ct, (nu1, ws1, bf1, mk1), rfl, Or.inr ⟨⟨by omega, by omega⟩, ⟨by omega, by omega⟩, hpp, hmk1, hbf1, Or.inl ⟨hcmp, by rw [← hfin2], by rw [← hfin2]; exact hM1⟩⟩, by rw [ht9]; exact hP, va_K.moved hW9.alike hK, hD⟩, hS.F ht9⟩) hS.2.2 dX3_line_175
          · replace c10 := mt (ti_eq rfl (by decide : (0 : Int32).toInt = (0 : Int))).mpr c10
            refine lv_iconst (v := (-1)) hx hb dX3_line_35 (by decide) ?_
            refine lv_topi (fun r93 er93 => ?_)
            have hr93 : r93.toInt = (-1 : Int) := by rw [er93]; exact (by decide : (-1 : Int32).toInt = (-1 : Int))
            exact W.iret (v := r93) hx hb hr (fun t9 ht9 hW9 => ⟨⟨r93, (nu, ws, bf, mk), rfl, Or.inl ⟨by omega, rfl, Or.inr (or_l hwr9 (by omega))⟩, by rw [ht9]; exact hP, va_K.moved hW9.alike hK, hD⟩, hS.F ht9⟩) hS.2.2 dX3_line_36
