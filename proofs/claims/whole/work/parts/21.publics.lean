set_option maxHeartbeats 8000000 in
set_option maxRecDepth 100000 in
theorem mX2_fits_n (l : Launch) {dC : Nat → ClassId} {dI : Nat → Nat → Nat} {tys : List (ClassId × FieldType)} {ws : va_W} : Met l yX2_fitsAsPattern (wM yX2_fitsAsPattern cX2_fitsAsPattern 1 (some .boolean)) ({ frames := 0, cells := 0, slots := 0, locals := 0 }) (va_Pc [.null] (rP (dC, dI) vwCl tys ws)) (vp_Si (fun r => r.toInt = 1)) 0 0 (fun _ => False) := by
  refine Met.ofW (cc := cX2_fitsAsPattern) (maxL := 1) (ret := (some .boolean)) (by decide +kernel) rfl ?_
  intro p e s m args below meth c s₁ B hml hv
  obtain ⟨rfl, hP, hK, hNS⟩ := hv
  have hx := B.exec
  have hb := B.bytes
  have hr := B.returns
  have hts : ∀ w ∈ tblG, w.before _ s = true := fun w h => atoms_spec (ws := wM yX2_fitsAsPattern cX2_fitsAsPattern 1 (some .boolean)) B.pre w (List.mem_cons_of_mem _ h)
  have hown : s.vm.findClass RX2 = some m.cls := findClass_of_methodNamed B.named
  have hlocks := B.notSynchronized
  have hl := lv_entry ([.null]) (n := 1) (Nat.le_of_ble_eq_true rfl)
  rw [lg_entry_eq]
  generalize (lg_sl ([.null]) ++ List.replicate (1 - (lg_sl ([.null])).length) Slot.unset).toArray = ls at hl ⊢
  have hl : lv_has ls 1 [(0, .null)] := hl
  refine lv_aload_nN hx hb dX2_fitsAsPattern_0 rfl (lv_at hl 0 rfl) ?_
  refine lv_ifnullN (tgt := 22) hx hb dX2_fitsAsPattern_1 (by decide) ?_
  refine lv_iconst (v := 1) hx hb dX2_fitsAsPattern_22 (by decide) ?_
  refine lv_goto (tgt := 27) hx hb dX2_fitsAsPattern_23 (by decide) ?_
  refine lv_topi (fun r1 er1 => ?_)
  have hr1 : r1.toInt = (1 : Int) := by rw [er1]; exact (by decide : (1 : Int32).toInt = (1 : Int))
  exact W.zret (ty := .boolean) (v := r1) hx hb hr (nar_b (by omega)) (fun t9 ht9 _ => ⟨r1, rfl, by omega, ht9⟩) (fun _ h => absurd h List.not_mem_nil) dX2_fitsAsPattern_27
set_option maxHeartbeats 8000000 in
set_option maxRecDepth 100000 in
theorem mX2_fits_r (l : Launch) {dC : Nat → ClassId} {dI : Nat → Nat → Nat} {tys : List (ClassId × FieldType)} {ws : va_W} {f0 k a : Nat} {w h rw : Int32} (he : ws[k]? = some (f0, .inr (0, [.int w, .int h, .int rw, .ref a]))) : Met l yX2_fitsAsPattern (wM yX2_fitsAsPattern cX2_fitsAsPattern 1 (some .boolean)) ({ frames := 0, cells := 0, slots := 0, locals := 0 }) (va_Pc [.ref f0] (rP (dC, dI) vwCl tys ws)) (vp_Si (fun r => (r.toInt = 1 ∧ w.toInt = 16 ∧ h.toInt = 16) ∨ (r.toInt = 0 ∧ ¬ (w.toInt = 16 ∧ h.toInt = 16)))) 0 0 (fun _ => False) := by
  refine Met.ofW (cc := cX2_fitsAsPattern) (maxL := 1) (ret := (some .boolean)) (by decide +kernel) rfl ?_
  intro p e s m args below meth c s₁ B hml hv
  obtain ⟨rfl, hP, hK, hNS⟩ := hv
  have hx := B.exec
  have hb := B.bytes
  have hr := B.returns
  have hts : ∀ w ∈ tblG, w.before _ s = true := fun w h => atoms_spec (ws := wM yX2_fitsAsPattern cX2_fitsAsPattern 1 (some .boolean)) B.pre w (List.mem_cons_of_mem _ h)
  have hown : s.vm.findClass RX2 = some m.cls := findClass_of_methodNamed B.named
  have hlocks := B.notSynchronized
  have hl := lv_entry ([.ref f0]) (n := 1) (Nat.le_of_ble_eq_true rfl)
  rw [lg_entry_eq]
  generalize (lg_sl ([.ref f0]) ++ List.replicate (1 - (lg_sl ([.ref f0])).length) Slot.unset).toArray = ls at hl ⊢
  have hl : lv_has ls 1 [(0, .ref f0)] := hl
  refine lv_aload_n hx hb dX2_fitsAsPattern_0 rfl (lv_at hl 0 rfl) ?_
  refine lv_ifnull hx hb dX2_fitsAsPattern_1 ?_
  refine lv_aload_n hx hb dX2_fitsAsPattern_4 rfl (lv_at hl 0 rfl) ?_
  refine va_getN (D := (dC, dI)) (ci := 0) (v := .int w) (C := RX0) (T := TX0) (N := 4) hx hb hts inX0 hown hK hP k he rfl 0 (by decide) (va_Nw.use rfl (hNS.1)) (fun _ h9 => h9) rfl dX2_fitsAsPattern_5 ?_
  refine lv_bipush (v := (16)) hx hb dX2_fitsAsPattern_8 (by decide) ?_
  refine lv_icmp_ne (tgt := 26) hx hb dX2_fitsAsPattern_10 (by decide) (fun c1 => ?_) (fun c1 => ?_)
  · replace c1 := mt (ti_eq rfl (by decide : (16 : Int32).toInt = (16 : Int))).mpr c1
    refine lv_iconst (v := 0) hx hb dX2_fitsAsPattern_26 (by decide) ?_
    refine lv_topi (fun r2 er2 => ?_)
    have hr2 : r2.toInt = (0 : Int) := by rw [er2]; exact (by decide : (0 : Int32).toInt = (0 : Int))
    exact W.zret (ty := .boolean) (v := r2) hx hb hr (nar_b (by omega)) (fun t9 ht9 _ => ⟨r2, rfl, by omega, ht9⟩) (fun _ h => absurd h List.not_mem_nil) dX2_fitsAsPattern_27
  · replace c1 := (ti_eq rfl (by decide : (16 : Int32).toInt = (16 : Int))).mp c1
    refine lv_aload_n hx hb dX2_fitsAsPattern_13 rfl (lv_at hl 0 rfl) ?_
    refine va_getN (D := (dC, dI)) (ci := 0) (v := .int h) (C := RX0) (T := TX0) (N := 4) hx hb hts inX0 hown hK hP k he rfl 1 (by decide) (va_Nw.use rfl (hNS.2.1)) (fun _ h9 => h9) rfl dX2_fitsAsPattern_14 ?_
    refine lv_bipush (v := (16)) hx hb dX2_fitsAsPattern_17 (by decide) ?_
    refine lv_icmp_ne (tgt := 26) hx hb dX2_fitsAsPattern_19 (by decide) (fun c3 => ?_) (fun c3 => ?_)
    · replace c3 := mt (ti_eq rfl (by decide : (16 : Int32).toInt = (16 : Int))).mpr c3
      refine lv_iconst (v := 0) hx hb dX2_fitsAsPattern_26 (by decide) ?_
      refine lv_topi (fun r4 er4 => ?_)
      have hr4 : r4.toInt = (0 : Int) := by rw [er4]; exact (by decide : (0 : Int32).toInt = (0 : Int))
      exact W.zret (ty := .boolean) (v := r4) hx hb hr (nar_b (by omega)) (fun t9 ht9 _ => ⟨r4, rfl, by omega, ht9⟩) (fun _ h => absurd h List.not_mem_nil) dX2_fitsAsPattern_27
    · replace c3 := (ti_eq rfl (by decide : (16 : Int32).toInt = (16 : Int))).mp c3
      refine lv_iconst (v := 1) hx hb dX2_fitsAsPattern_22 (by decide) ?_
      refine lv_goto (tgt := 27) hx hb dX2_fitsAsPattern_23 (by decide) ?_
      refine lv_topi (fun r5 er5 => ?_)
      have hr5 : r5.toInt = (1 : Int) := by rw [er5]; exact (by decide : (1 : Int32).toInt = (1 : Int))
      exact W.zret (ty := .boolean) (v := r5) hx hb hr (nar_b (by omega)) (fun t9 ht9 _ => ⟨r5, rfl, by omega, ht9⟩) (fun _ h => absurd h List.not_mem_nil) dX2_fitsAsPattern_27
set_option maxHeartbeats 8000000 in
set_option maxRecDepth 100000 in
theorem mX2_formOrNull (l : Launch) {dC : Nat → ClassId} {dI : Nat → Nat → Nat} {h0 qa qn qx qy : Nat} {cI cF : ClassId} {fa ar ln : Nat → Nat} {wd ht rw : Nat → Int32} {g : Nat → Nat → Int32} {nu : Nat → Int32} {X Y : Int32 × Int32 × Int32} {tg : Nat} {so pa : Option Nat} {ru : Int32} {wN hN : Nat → Nat} {Bt : Nat → Nat → Nat → Bool} {nz : Nat → Int} (f : Int32) (hR : RC wN hN Bt nz tg so pa ru ln wd ht rw g nu) : Met l yX2_formOrNull (wM yX2_formOrNull cX2_formOrNull 2 (some (.object "BitCopier$Form"))) ({ frames := 1, cells := 0, slots := 0, locals := 20 }) (va_Pc [.ref h0, .int f] (rP (dC, dI) vwCl (tyB cI cF) (w_bc h0 qa qn qx qy cI cF fa ar ln wd ht rw g nu X Y tg so pa ru))) (va_Sq (fun r => (∃ t : Nat, f.toInt = (t : Int) ∧ t < 4 ∧ r = some (fa t)) ∨ ((f.toInt < 0 ∨ 4 ≤ f.toInt) ∧ r = none))) 0 0 (fun _ => False) := by
  refine Met.ofW (cc := cX2_formOrNull) (maxL := 2) (ret := (some (.object "BitCopier$Form"))) (by decide +kernel) rfl ?_
  intro p e s m args below meth c s₁ B hml hv
  obtain ⟨rfl, hP, hK, hNS⟩ := hv
  have hx := B.exec
  have hb := B.bytes
  have hr := B.returns
  have hts : ∀ w ∈ tblG, w.before _ s = true := fun w h => atoms_spec (ws := wM yX2_formOrNull cX2_formOrNull 2 (some (.object "BitCopier$Form"))) B.pre w (List.mem_cons_of_mem _ h)
  have hown : s.vm.findClass RX2 = some m.cls := findClass_of_methodNamed B.named
  have hlocks := B.notSynchronized
  have hl := lv_entry ([.ref h0, .int f]) (n := 2) (Nat.le_of_ble_eq_true rfl)
  rw [lg_entry_eq]
  generalize (lg_sl ([.ref h0, .int f]) ++ List.replicate (2 - (lg_sl ([.ref h0, .int f])).length) Slot.unset).toArray = ls at hl ⊢
  have hl : lv_has ls 2 [(0, .ref h0), (1, .int f)] := hl
  obtain ⟨hF, hnu, htg, hso, hpa, hr1, hr2⟩ := id hR
  refine lv_iload_n hx hb dX2_formOrNull_0 rfl (lv_at hl 1 rfl) ?_
  refine vp_callSi (va_Run.run (va_runS (As := [.int f]) (rest := []) ⟨hx, hb, hml, hown, hts⟩ (mX2_isForm l f) (va_cwS 1 hts (gA (m3 k96 k97 k1) k98) rfl rfl rfl (by decide +kernel) ⟨Nat.le_of_ble_eq_true rfl, Nat.le_of_ble_eq_true rfl⟩) (prT) rfl rfl hl.1 rfl (lv_room (Nat.le_of_ble_eq_true rfl)) dX2_formOrNull_1 ⟨Nat.le_of_ble_eq_true rfl, Nat.le_of_ble_eq_true rfl⟩)) (fun r1 hwr1 => ?_)
  try dsimp only at hwr1
  refine lv_if_eq (tgt := 16) hx hb dX2_formOrNull_4 (by decide) (fun c2 => ?_) (fun c2 => ?_)
  · replace c2 := (ti_eq rfl (by decide : (0 : Int32).toInt = (0 : Int))).mp c2
    refine lv_null hx hb dX2_formOrNull_16 ?_
    exact W.aret (v := .null) hx hb hr (Or.inl ⟨_, rfl⟩) (Or.inl rfl) (fun t9 ht9 _ => ⟨none, rfl, Or.inr ⟨by omega, rfl⟩, ht9⟩) (fun _ h => absurd h List.not_mem_nil) dX2_formOrNull_17
  · replace c2 := mt (ti_eq rfl (by decide : (0 : Int32).toInt = (0 : Int))).mpr c2
    refine lv_aload_n hx hb dX2_formOrNull_7 rfl (lv_at hl 0 rfl) ?_
    refine va_get (D := (dC, dI)) (ci := 2) (v := .ref qa) (C := RX2) (T := TX2) (N := 8) hx hb hts inX2 hown hK hP 0 rfl rfl 0 (by decide) (hts _ k60) (fun _ h9 => h9) rfl dX2_formOrNull_8 ?_
    refine lv_iload_n hx hb dX2_formOrNull_11 rfl (lv_at hl 1 rfl) ?_
    obtain ⟨t, et⟩ : ∃ t : Nat, f.toInt = (t : Int) := ⟨f.toInt.toNat, by omega⟩
    have h4t : t < 4 := by omega
    obtain ⟨fw_t, fh_t, fr_t, f1_t, f2_t, f3_t, f4_t, f5_t, f6_t, f7_t, fB_t⟩ := hF t h4t
    have frd_t : rN wN t = (wN t + 15) / 16 := rfl
    have hm_t : ((rN wN t * hN t : Nat) : Int) = (rw t).toInt * (ht t).toInt := by rw [Int.natCast_mul, fr_t, fh_t]
    refine aaK (v := .ref (fa t)) hx hb hK hP 1 1 rfl rfl (t) (et) (by omega) rfl dX2_formOrNull_12 ?_
    refine lv_goto (tgt := 17) hx hb dX2_formOrNull_13 (by decide) ?_
    exact W.aret (v := .ref (fa t)) hx hb hr (Or.inl ⟨_, rfl⟩) (Or.inr ⟨_, rfl⟩) (fun t9 ht9 _ => ⟨some (fa t), rfl, Or.inl ⟨t, et, h4t, rfl⟩, ht9⟩) (fun _ h => absurd h List.not_mem_nil) dX2_formOrNull_17
set_option maxHeartbeats 8000000 in
set_option maxRecDepth 100000 in
theorem mX2_rule (l : Launch) {dC : Nat → ClassId} {dI : Nat → Nat → Nat} {sz : Nat} {h0 qa qn qx qy : Nat} {cI cF : ClassId} {fa ar ln : Nat → Nat} {wd ht rw : Nat → Int32} {g : Nat → Nat → Int32} {nu : Nat → Int32} {X Y : Int32 × Int32 × Int32} {tg : Nat} {so pa : Option Nat} {ru : Int32} {wN hN : Nat → Nat} {Bt : Nat → Nat → Nat → Bool} {nz : Nat → Int} (rl : Int32) (hR : RC wN hN Bt nz tg so pa ru ln wd ht rw g nu) : Met l yX2_rule (wM yX2_rule cX2_rule 2 (some .boolean)) ({ frames := 0, cells := 0, slots := 0, locals := 0 }) (va_Pc [.ref h0, .int rl] (wP (dC, dI) vwCl (tyB cI cF) (w_bc h0 qa qn qx qy cI cF fa ar ln wd ht rw g nu X Y tg so pa ru) sz)) (va_Qi (fun (r : Int32) (u : Int32) => (r.toInt = 1 ∧ 0 ≤ rl.toInt ∧ rl.toInt < 16 ∧ u = rl) ∨ (r.toInt = 0 ∧ (rl.toInt < 0 ∨ 16 ≤ rl.toInt) ∧ u = ru)) (wB (dC, dI) vwCl (va_A (w_bc h0 qa qn qx qy cI cF fa ar ln wd ht rw g nu X Y tg so pa ru) sz) (fun u : Int32 => (tyB cI cF)) (fun u : Int32 => (w_bc h0 qa qn qx qy cI cF fa ar ln wd ht rw g nu X Y tg so pa u))) (va_A (w_bc h0 qa qn qx qy cI cF fa ar ln wd ht rw g nu X Y tg so pa ru) sz)) 0 0 (va_A (w_bc h0 qa qn qx qy cI cF fa ar ln wd ht rw g nu X Y tg so pa ru) sz) := by
  refine Met.ofW (cc := cX2_rule) (maxL := 2) (ret := (some .boolean)) (by decide +kernel) rfl ?_
  intro p e s m args below meth c s₁ B hml hv
  obtain ⟨rfl, hsz, hP, hK, hD0, hNS⟩ := hv
  have hx := B.exec
  have hb := B.bytes
  have hr := B.returns
  have hts : ∀ w ∈ tblG, w.before _ s = true := fun w h => atoms_spec (ws := wM yX2_rule cX2_rule 2 (some .boolean)) B.pre w (List.mem_cons_of_mem _ h)
  have hown : s.vm.findClass RX2 = some m.cls := findClass_of_methodNamed B.named
  have hlocks := B.notSynchronized
  subst hsz
  have hD := hD0.self (sz := s.heap.size)
  generalize hAe : va_A (w_bc h0 qa qn qx qy cI cF fa ar ln wd ht rw g nu X Y tg so pa ru) s.heap.size = A at hD ⊢
  have hA : ∀ q : Nat, s.heap.size ≤ q → A q := fun q h => by rw [← hAe]; exact Or.inr h
  have hS : va_S A s.heap s.heap [] := va_S.rf
  have hP : va_P (dC, dI) vwCl (w_bc h0 qa qn qx qy cI cF fa ar ln wd ht rw g nu X Y tg so pa ru) s.heap := hP
  have hl := lv_entry ([.ref h0, .int rl]) (n := 2) (Nat.le_of_ble_eq_true rfl)
  rw [lg_entry_eq]
  generalize (lg_sl ([.ref h0, .int rl]) ++ List.replicate (2 - (lg_sl ([.ref h0, .int rl])).length) Slot.unset).toArray = ls at hl ⊢
  have hl : lv_has ls 2 [(0, .ref h0), (1, .int rl)] := hl
  obtain ⟨hF, hnu, htg, hso, hpa, hr1, hr2⟩ := id hR
  refine lv_iload_n hx hb dX2_rule_0 rfl (lv_at hl 1 rfl) ?_
  refine lv_if_lt (tgt := 10) hx hb dX2_rule_1 (by decide) (fun c1 => ?_) (fun c1 => ?_)
  · replace c1 := (ti_lt rfl (by decide : (0 : Int32).toInt = (0 : Int))).mp c1
    refine lv_iconst (v := 0) hx hb dX2_rule_10 (by decide) ?_
    refine lv_topi (fun r2 er2 => ?_)
    have hr2 : r2.toInt = (0 : Int) := by rw [er2]; exact (by decide : (0 : Int32).toInt = (0 : Int))
    exact W.zret (ty := .boolean) (v := r2) hx hb hr (nar_b (by omega)) (fun t9 ht9 hW9 => ⟨⟨r2, ru, rfl, Or.inr ⟨by omega, by omega, rfl⟩, by rw [ht9]; exact hP, va_K.moved hW9.alike hK, hD⟩, hS.F ht9⟩) hS.2.2 dX2_rule_11
  · replace c1 := mt (ti_lt rfl (by decide : (0 : Int32).toInt = (0 : Int))).mpr c1
    refine lv_iload_n hx hb dX2_rule_4 rfl (lv_at hl 1 rfl) ?_
    refine lv_bipush (v := (16)) hx hb dX2_rule_5 (by decide) ?_
    refine lv_icmp_lt (tgt := 12) hx hb dX2_rule_7 (by decide) (fun c3 => ?_) (fun c3 => ?_)
    · replace c3 := (ti_lt rfl (by decide : (16 : Int32).toInt = (16 : Int))).mp c3
      refine lv_aload_n hx hb dX2_rule_12 rfl (lv_at hl 0 rfl) ?_
      refine lv_iload_n hx hb dX2_rule_13 rfl (lv_at hl 1 rfl) ?_
      refine va_put (D := (dC, dI)) (ci := 2) (v := .int rl) (ty := .int) (C := RX2) (T := TX2) (N := 8) hx hb hts inX2 tyX2 tyX2_ok nmX2 hown hK hP hD hS 0 rfl rfl 7 (by decide) (hts _ k67) (fun _ h9 => h9) rfl (by decide +kernel) rfl rfl (Nat.le_of_ble_eq_true rfl) dX2_rule_14 (fun H locs hP hD hS => ?_)
      have hP : va_P (dC, dI) vwCl (w_bc h0 qa qn qx qy cI cF fa ar ln wd ht rw g nu X Y tg so pa rl) H := hP
      have hD : va_D A (w_bc h0 qa qn qx qy cI cF fa ar ln wd ht rw g nu X Y tg so pa rl) := hD
      refine lv_iconst (v := 1) hx hb dX2_rule_17 (by decide) ?_
      refine lv_topi (fun r4 er4 => ?_)
      have hr4 : r4.toInt = (1 : Int) := by rw [er4]; exact (by decide : (1 : Int32).toInt = (1 : Int))
      exact W.zret (ty := .boolean) (v := r4) hx hb hr (nar_b (by omega)) (fun t9 ht9 hW9 => ⟨⟨r4, rl, rfl, Or.inl ⟨by omega, by omega, by omega, rfl⟩, by rw [ht9]; exact hP, va_K.moved hW9.alike hK, hD⟩, hS.F ht9⟩) hS.2.2 dX2_rule_18
    · replace c3 := mt (ti_lt rfl (by decide : (16 : Int32).toInt = (16 : Int))).mpr c3
      refine lv_iconst (v := 0) hx hb dX2_rule_10 (by decide) ?_
      refine lv_topi (fun r5 er5 => ?_)
      have hr5 : r5.toInt = (0 : Int) := by rw [er5]; exact (by decide : (0 : Int32).toInt = (0 : Int))
      exact W.zret (ty := .boolean) (v := r5) hx hb hr (nar_b (by omega)) (fun t9 ht9 hW9 => ⟨⟨r5, ru, rfl, Or.inr ⟨by omega, by omega, rfl⟩, by rw [ht9]; exact hP, va_K.moved hW9.alike hK, hD⟩, hS.F ht9⟩) hS.2.2 dX2_rule_11
set_option maxHeartbeats 8000000 in
set_option maxRecDepth 100000 in
theorem mX2_set (l : Launch) {dC : Nat → ClassId} {dI : Nat → Nat → Nat} {sz : Nat} {h0 qa qn qx qy : Nat} {cI cF : ClassId} {fa ar ln : Nat → Nat} {wd ht rw : Nat → Int32} {g : Nat → Nat → Int32} {nu : Nat → Int32} {X Y : Int32 × Int32 × Int32} {tg : Nat} {so pa : Option Nat} {ru : Int32} {wN hN : Nat → Nat} {Bt : Nat → Nat → Nat → Bool} {nz : Nat → Int} (wh : Int32) (av : Int32) (bv : Int32) (hR : RC wN hN Bt nz tg so pa ru ln wd ht rw g nu) : Met l yX2_set (wM yX2_set cX2_set 4 (some .boolean)) ({ frames := 1, cells := 0, slots := 0, locals := 20 }) (va_Pc [.ref h0, .int wh, .int av, .int bv] (wP (dC, dI) vwCl (tyB cI cF) (w_bc h0 qa qn qx qy cI cF fa ar ln wd ht rw g nu X Y tg so pa ru) sz)) (va_Qi (fun (r : Int32) (u : Nat → Int32) => (r.toInt = 1 ∧ 0 ≤ wh.toInt ∧ wh.toInt < 5 ∧ -32768 ≤ av.toInt ∧ av.toInt ≤ 32767 ∧ -32768 ≤ bv.toInt ∧ bv.toInt ≤ 32767 ∧ RC wN hN Bt (va_up (va_up nz (2 * wh.toInt.toNat) av.toInt) (2 * wh.toInt.toNat + 1) bv.toInt) tg so pa ru ln wd ht rw g u) ∨ (r.toInt = 0 ∧ (wh.toInt < 0 ∨ 5 ≤ wh.toInt ∨ av.toInt < -32768 ∨ 32767 < av.toInt ∨ bv.toInt < -32768 ∨ 32767 < bv.toInt) ∧ u = nu)) (wB (dC, dI) vwCl (va_A (w_bc h0 qa qn qx qy cI cF fa ar ln wd ht rw g nu X Y tg so pa ru) sz) (fun u : Nat → Int32 => (tyB cI cF)) (fun u : Nat → Int32 => (w_bc h0 qa qn qx qy cI cF fa ar ln wd ht rw g u X Y tg so pa ru))) (va_A (w_bc h0 qa qn qx qy cI cF fa ar ln wd ht rw g nu X Y tg so pa ru) sz)) 0 0 (va_A (w_bc h0 qa qn qx qy cI cF fa ar ln wd ht rw g nu X Y tg so pa ru) sz) := by
  refine Met.ofW (cc := cX2_set) (maxL := 4) (ret := (some .boolean)) (by decide +kernel) rfl ?_
  intro p e s m args below meth c s₁ B hml hv
  obtain ⟨rfl, hsz, hP, hK, hD0, hNS⟩ := hv
  have hx := B.exec
  have hb := B.bytes
  have hr := B.returns
  have hts : ∀ w ∈ tblG, w.before _ s = true := fun w h => atoms_spec (ws := wM yX2_set cX2_set 4 (some .boolean)) B.pre w (List.mem_cons_of_mem _ h)
  have hown : s.vm.findClass RX2 = some m.cls := findClass_of_methodNamed B.named
  have hlocks := B.notSynchronized
  subst hsz
  have hD := hD0.self (sz := s.heap.size)
  generalize hAe : va_A (w_bc h0 qa qn qx qy cI cF fa ar ln wd ht rw g nu X Y tg so pa ru) s.heap.size = A at hD ⊢
  have hA : ∀ q : Nat, s.heap.size ≤ q → A q := fun q h => by rw [← hAe]; exact Or.inr h
  have hS : va_S A s.heap s.heap [] := va_S.rf
  have hP : va_P (dC, dI) vwCl (w_bc h0 qa qn qx qy cI cF fa ar ln wd ht rw g nu X Y tg so pa ru) s.heap := hP
  have hl := lv_entry ([.ref h0, .int wh, .int av, .int bv]) (n := 4) (Nat.le_of_ble_eq_true rfl)
  rw [lg_entry_eq]
  generalize (lg_sl ([.ref h0, .int wh, .int av, .int bv]) ++ List.replicate (4 - (lg_sl ([.ref h0, .int wh, .int av, .int bv])).length) Slot.unset).toArray = ls at hl ⊢
  have hl : lv_has ls 4 [(0, .ref h0), (1, .int wh), (2, .int av), (3, .int bv)] := hl
  obtain ⟨hF, hnu, htg, hso, hpa, hr1, hr2⟩ := id hR
  refine lv_iload_n hx hb dX2_set_0 rfl (lv_at hl 1 rfl) ?_
  refine vp_callSi (va_Run.run (va_runS (As := [.int wh]) (rest := []) ⟨hx, hb, hml, hown, hts⟩ (mX2_isPair l wh) (va_cwS 1 hts (gA (m3 k195 k196 k1) k197) rfl rfl rfl (by decide +kernel) ⟨Nat.le_of_ble_eq_true rfl, Nat.le_of_ble_eq_true rfl⟩) (prT) rfl rfl hl.1 rfl (lv_room (Nat.le_of_ble_eq_true rfl)) dX2_set_1 ⟨Nat.le_of_ble_eq_true rfl, Nat.le_of_ble_eq_true rfl⟩)) (fun r1 hwr1 => ?_)
  try dsimp only at hwr1
  refine lv_if_eq (tgt := 21) hx hb dX2_set_4 (by decide) (fun c2 => ?_) (fun c2 => ?_)
  · replace c2 := (ti_eq rfl (by decide : (0 : Int32).toInt = (0 : Int))).mp c2
    refine lv_iconst (v := 0) hx hb dX2_set_21 (by decide) ?_
    refine lv_topi (fun r3 er3 => ?_)
    have hr3 : r3.toInt = (0 : Int) := by rw [er3]; exact (by decide : (0 : Int32).toInt = (0 : Int))
    exact W.zret (ty := .boolean) (v := r3) hx hb hr (nar_b (by omega)) (fun t9 ht9 hW9 => ⟨⟨r3, nu, rfl, Or.inr ⟨by omega, by omega, rfl⟩, by rw [ht9]; exact hP, va_K.moved hW9.alike hK, hD⟩, hS.F ht9⟩) hS.2.2 dX2_set_22
  · replace c2 := mt (ti_eq rfl (by decide : (0 : Int32).toInt = (0 : Int))).mpr c2
    refine lv_iload_n hx hb dX2_set_7 rfl (lv_at hl 2 rfl) ?_
    refine vp_callSi (va_Run.run (va_runS (As := [.int av]) (rest := []) ⟨hx, hb, hml, hown, hts⟩ (mX2_isNumber l av) (va_cwS 1 hts (gA (m3 k198 k199 k1) k200) rfl rfl rfl (by decide +kernel) ⟨Nat.le_of_ble_eq_true rfl, Nat.le_of_ble_eq_true rfl⟩) (prT) rfl rfl hl.1 rfl (lv_room (Nat.le_of_ble_eq_true rfl)) dX2_set_8 ⟨Nat.le_of_ble_eq_true rfl, Nat.le_of_ble_eq_true rfl⟩)) (fun r4 hwr4 => ?_)
    try dsimp only at hwr4
    refine lv_if_eq (tgt := 21) hx hb dX2_set_11 (by decide) (fun c5 => ?_) (fun c5 => ?_)
    · replace c5 := (ti_eq rfl (by decide : (0 : Int32).toInt = (0 : Int))).mp c5
      refine lv_iconst (v := 0) hx hb dX2_set_21 (by decide) ?_
      refine lv_topi (fun r6 er6 => ?_)
      have hr6 : r6.toInt = (0 : Int) := by rw [er6]; exact (by decide : (0 : Int32).toInt = (0 : Int))
      exact W.zret (ty := .boolean) (v := r6) hx hb hr (nar_b (by omega)) (fun t9 ht9 hW9 => ⟨⟨r6, nu, rfl, Or.inr ⟨by omega, by omega, rfl⟩, by rw [ht9]; exact hP, va_K.moved hW9.alike hK, hD⟩, hS.F ht9⟩) hS.2.2 dX2_set_22
    · replace c5 := mt (ti_eq rfl (by decide : (0 : Int32).toInt = (0 : Int))).mpr c5
      refine lv_iload_n hx hb dX2_set_14 rfl (lv_at hl 3 rfl) ?_
      refine vp_callSi (va_Run.run (va_runS (As := [.int bv]) (rest := []) ⟨hx, hb, hml, hown, hts⟩ (mX2_isNumber l bv) (va_cwS 1 hts (gA (m3 k198 k199 k1) k200) rfl rfl rfl (by decide +kernel) ⟨Nat.le_of_ble_eq_true rfl, Nat.le_of_ble_eq_true rfl⟩) (prT) rfl rfl hl.1 rfl (lv_room (Nat.le_of_ble_eq_true rfl)) dX2_set_15 ⟨Nat.le_of_ble_eq_true rfl, Nat.le_of_ble_eq_true rfl⟩)) (fun r7 hwr7 => ?_)
      try dsimp only at hwr7
      refine lv_if_ne (tgt := 23) hx hb dX2_set_18 (by decide) (fun c8 => ?_) (fun c8 => ?_)
      · replace c8 := mt (ti_eq rfl (by decide : (0 : Int32).toInt = (0 : Int))).mpr c8
        refine lv_aload_n hx hb dX2_set_23 rfl (lv_at hl 0 rfl) ?_
        refine va_get (D := (dC, dI)) (ci := 2) (v := .ref qn) (C := RX2) (T := TX2) (N := 8) hx hb hts inX2 hown hK hP 0 rfl rfl 1 (by decide) (hts _ k61) (fun _ h9 => h9) rfl dX2_set_24 ?_
        refine lv_iconst (v := 2) hx hb dX2_set_27 (by decide) ?_
        refine lv_iload_n hx hb dX2_set_28 rfl (lv_at hl 1 rfl) ?_
        refine lv_imul hx hb dX2_set_29 ?_
        refine lv_topi (fun x9 ex9 => ?_)
        have hx9 : x9.toInt = (2 : Int) * wh.toInt := by rw [ex9]; exact ti_mul (by decide : (2 : Int32).toInt = (2 : Int)) rfl (by omega) (by omega)
        refine lv_iconst (v := 0) hx hb dX2_set_30 (by decide) ?_
        refine lv_iadd hx hb dX2_set_31 ?_
        refine lv_topi (fun x10 ex10 => ?_)
        have hx10 : x10.toInt = x9.toInt + (0 : Int) := by rw [ex10]; exact ti_add rfl (by decide : (0 : Int32).toInt = (0 : Int)) (by omega) (by omega)
        refine lv_iload_n hx hb dX2_set_32 rfl (lv_at hl 2 rfl) ?_
        refine isK hx hb hK hP hD hS 2 0 rfl rfl (2 * wh.toInt.toNat) (by omega) (by omega) dX2_set_33 (fun H locs hP hD hS => ?_)
        have hP : va_P (dC, dI) vwCl (w_bc h0 qa qn qx qy cI cF fa ar ln wd ht rw g (upd nu (2 * wh.toInt.toNat) av) X Y tg so pa ru) H := hP
        have hD : va_D A (w_bc h0 qa qn qx qy cI cF fa ar ln wd ht rw g (upd nu (2 * wh.toInt.toNat) av) X Y tg so pa ru) := hD
        refine lv_aload_n hx hb dX2_set_34 rfl (lv_at hl 0 rfl) ?_
        refine va_get (D := (dC, dI)) (ci := 2) (v := .ref qn) (C := RX2) (T := TX2) (N := 8) hx hb hts inX2 hown hK hP 0 rfl rfl 1 (by decide) (hts _ k61) (fun _ h9 => h9) rfl dX2_set_35 ?_
        refine lv_iconst (v := 2) hx hb dX2_set_38 (by decide) ?_
        refine lv_iload_n hx hb dX2_set_39 rfl (lv_at hl 1 rfl) ?_
        refine lv_imul hx hb dX2_set_40 ?_
        refine lv_topi (fun x11 ex11 => ?_)
        have hx11 : x11.toInt = (2 : Int) * wh.toInt := by rw [ex11]; exact ti_mul (by decide : (2 : Int32).toInt = (2 : Int)) rfl (by omega) (by omega)
        refine lv_iconst (v := 1) hx hb dX2_set_41 (by decide) ?_
        refine lv_iadd hx hb dX2_set_42 ?_
        refine lv_topi (fun x12 ex12 => ?_)
        have hx12 : x12.toInt = x11.toInt + (1 : Int) := by rw [ex12]; exact ti_add rfl (by decide : (1 : Int32).toInt = (1 : Int)) (by omega) (by omega)
        refine lv_iload_n hx hb dX2_set_43 rfl (lv_at hl 3 rfl) ?_
        refine isK hx hb hK hP hD hS 2 0 rfl rfl (2 * wh.toInt.toNat + 1) (by omega) (by omega) dX2_set_44 (fun H locs hP hD hS => ?_)
        have hP : va_P (dC, dI) vwCl (w_bc h0 qa qn qx qy cI cF fa ar ln wd ht rw g (upd (upd nu (2 * wh.toInt.toNat) av) (2 * wh.toInt.toNat + 1) bv) X Y tg so pa ru) H := hP
        have hD : va_D A (w_bc h0 qa qn qx qy cI cF fa ar ln wd ht rw g (upd (upd nu (2 * wh.toInt.toNat) av) (2 * wh.toInt.toNat + 1) bv) X Y tg so pa ru) := hD
        refine lv_iconst (v := 1) hx hb dX2_set_45 (by decide) ?_
        refine lv_topi (fun r13 er13 => ?_)
        have hr13 : r13.toInt = (1 : Int) := by rw [er13]; exact (by decide : (1 : Int32).toInt = (1 : Int))
        exact W.zret (ty := .boolean) (v := r13) hx hb hr (nar_b (by omega)) (fun t9 ht9 hW9 => ⟨⟨r13, (upd (upd nu (2 * wh.toInt.toNat) av) (2 * wh.toInt.toNat + 1) bv), rfl, Or.inl ⟨by omega, by omega, by omega, by omega, by omega, by omega, by omega, (hR.num rfl ⟨by omega, by omega⟩).num rfl ⟨by omega, by omega⟩⟩, by rw [ht9]; exact hP, va_K.moved hW9.alike hK, hD⟩, hS.F ht9⟩) hS.2.2 dX2_set_46
      · replace c8 := (ti_eq rfl (by decide : (0 : Int32).toInt = (0 : Int))).mp c8
        refine lv_iconst (v := 0) hx hb dX2_set_21 (by decide) ?_
        refine lv_topi (fun r14 er14 => ?_)
        have hr14 : r14.toInt = (0 : Int) := by rw [er14]; exact (by decide : (0 : Int32).toInt = (0 : Int))
        exact W.zret (ty := .boolean) (v := r14) hx hb hr (nar_b (by omega)) (fun t9 ht9 hW9 => ⟨⟨r14, nu, rfl, Or.inr ⟨by omega, by omega, rfl⟩, by rw [ht9]; exact hP, va_K.moved hW9.alike hK, hD⟩, hS.F ht9⟩) hS.2.2 dX2_set_22
set_option maxHeartbeats 8000000 in
set_option maxRecDepth 100000 in
theorem mX2_forms (l : Launch) {dC : Nat → ClassId} {dI : Nat → Nat → Nat} {sz : Nat} {h0 qa qn qx qy : Nat} {cI cF : ClassId} {fa ar ln : Nat → Nat} {wd ht rw : Nat → Int32} {g : Nat → Nat → Int32} {nu : Nat → Int32} {X Y : Int32 × Int32 × Int32} {tg : Nat} {so pa : Option Nat} {ru : Int32} {wN hN : Nat → Nat} {Bt : Nat → Nat → Nat → Bool} {nz : Nat → Int} (ta : Int32) (sr : Int32) (pt : Int32) (hR : RC wN hN Bt nz tg so pa ru ln wd ht rw g nu) : Met l yX2_forms (wM yX2_forms cX2_forms 5 (some .boolean)) ({ frames := 2, cells := 0, slots := 0, locals := 41 }) (va_Pc [.ref h0, .int ta, .int sr, .int pt] (wP (dC, dI) vwCl (tyB cI cF) (w_bc h0 qa qn qx qy cI cF fa ar ln wd ht rw g nu X Y tg so pa ru) sz)) (va_Qi (fun (r : Int32) (u : Nat × Option Nat × Option Nat) => (r.toInt = 1 ∧ 0 ≤ ta.toInt ∧ ta.toInt < 4 ∧ -1 ≤ sr.toInt ∧ sr.toInt < 4 ∧ -1 ≤ pt.toInt ∧ pt.toInt < 4 ∧ (∀ q : Nat, pt.toInt = (q : Int) → wN q = 16 ∧ hN q = 16) ∧ (u.1 : Int) = ta.toInt ∧ u.2.1 = ofm sr.toInt ∧ u.2.2 = ofm pt.toInt) ∨ (r.toInt = 0 ∧ u = (tg, so, pa) ∧ ((ta.toInt < 0 ∨ 4 ≤ ta.toInt) ∨ (sr.toInt < -1 ∨ 4 ≤ sr.toInt) ∨ (pt.toInt < -1 ∨ 4 ≤ pt.toInt) ∨ ∃ q : Nat, pt.toInt = (q : Int) ∧ q < 4 ∧ ¬ (wN q = 16 ∧ hN q = 16)))) (wB (dC, dI) vwCl (va_A (w_bc h0 qa qn qx qy cI cF fa ar ln wd ht rw g nu X Y tg so pa ru) sz) (fun u : Nat × Option Nat × Option Nat => (tyB cI cF)) (fun u : Nat × Option Nat × Option Nat => (w_bc h0 qa qn qx qy cI cF fa ar ln wd ht rw g nu X Y u.1 u.2.1 u.2.2 ru))) (va_A (w_bc h0 qa qn qx qy cI cF fa ar ln wd ht rw g nu X Y tg so pa ru) sz)) 0 0 (va_A (w_bc h0 qa qn qx qy cI cF fa ar ln wd ht rw g nu X Y tg so pa ru) sz) := by
  refine Met.ofW (cc := cX2_forms) (maxL := 5) (ret := (some .boolean)) (by decide +kernel) rfl ?_
  intro p e s m args below meth c s₁ B hml hv
  obtain ⟨rfl, hsz, hP, hK, hD0, hNS⟩ := hv
  have hx := B.exec
  have hb := B.bytes
  have hr := B.returns
  have hts : ∀ w ∈ tblG, w.before _ s = true := fun w h => atoms_spec (ws := wM yX2_forms cX2_forms 5 (some .boolean)) B.pre w (List.mem_cons_of_mem _ h)
  have hown : s.vm.findClass RX2 = some m.cls := findClass_of_methodNamed B.named
  have hlocks := B.notSynchronized
  subst hsz
  have hD := hD0.self (sz := s.heap.size)
  generalize hAe : va_A (w_bc h0 qa qn qx qy cI cF fa ar ln wd ht rw g nu X Y tg so pa ru) s.heap.size = A at hD ⊢
  have hA : ∀ q : Nat, s.heap.size ≤ q → A q := fun q h => by rw [← hAe]; exact Or.inr h
  have hS : va_S A s.heap s.heap [] := va_S.rf
  have hP : va_P (dC, dI) vwCl (w_bc h0 qa qn qx qy cI cF fa ar ln wd ht rw g nu X Y tg so pa ru) s.heap := hP
  have hl := lv_entry ([.ref h0, .int ta, .int sr, .int pt]) (n := 5) (Nat.le_of_ble_eq_true rfl)
  rw [lg_entry_eq]
  generalize (lg_sl ([.ref h0, .int ta, .int sr, .int pt]) ++ List.replicate (5 - (lg_sl ([.ref h0, .int ta, .int sr, .int pt])).length) Slot.unset).toArray = ls at hl ⊢
  have hl : lv_has ls 5 [(0, .ref h0), (1, .int ta), (2, .int sr), (3, .int pt)] := hl
  obtain ⟨hF, hnu, htg, hso, hpa, hr1, hr2⟩ := id hR
  refine lv_iload_n hx hb dX2_forms_0 rfl (lv_at hl 1 rfl) ?_
  refine vp_callSi (va_Run.run (va_runS (As := [.int ta]) (rest := []) ⟨hx, hb, hml, hown, hts⟩ (mX2_isForm l ta) (va_cwS 1 hts (gA (m3 k96 k97 k1) k98) rfl rfl rfl (by decide +kernel) ⟨Nat.le_of_ble_eq_true rfl, Nat.le_of_ble_eq_true rfl⟩) (prT) rfl rfl hl.1 rfl (lv_room (Nat.le_of_ble_eq_true rfl)) dX2_forms_1 ⟨Nat.le_of_ble_eq_true rfl, Nat.le_of_ble_eq_true rfl⟩)) (fun r1 hwr1 => ?_)
  try dsimp only at hwr1
  refine lv_if_eq (tgt := 21) hx hb dX2_forms_4 (by decide) (fun c2 => ?_) (fun c2 => ?_)
  · replace c2 := (ti_eq rfl (by decide : (0 : Int32).toInt = (0 : Int))).mp c2
    refine lv_iconst (v := 0) hx hb dX2_forms_21 (by decide) ?_
    refine lv_topi (fun r3 er3 => ?_)
    have hr3 : r3.toInt = (0 : Int) := by rw [er3]; exact (by decide : (0 : Int32).toInt = (0 : Int))
    exact W.zret (ty := .boolean) (v := r3) hx hb hr (nar_b (by omega)) (fun t9 ht9 hW9 => ⟨⟨r3, (tg, so, pa), rfl, Or.inr ⟨by omega, rfl, by first | exact Or.inl (by omega) | exact Or.inr (Or.inl (by omega)) | exact Or.inr (Or.inr (Or.inl (by omega)))⟩, by rw [ht9]; exact hP, va_K.moved hW9.alike hK, hD⟩, hS.F ht9⟩) hS.2.2 dX2_forms_22
  · replace c2 := mt (ti_eq rfl (by decide : (0 : Int32).toInt = (0 : Int))).mpr c2
    refine lv_iload_n hx hb dX2_forms_7 rfl (lv_at hl 2 rfl) ?_
    refine vp_callSi (va_Run.run (va_runS (As := [.int sr]) (rest := []) ⟨hx, hb, hml, hown, hts⟩ (mX2_isFormOrNone l sr) (va_cwS 1 hts (gA (m3 k177 k178 k1) k179) rfl rfl rfl (by decide +kernel) ⟨Nat.le_of_ble_eq_true rfl, Nat.le_of_ble_eq_true rfl⟩) (prT) rfl rfl hl.1 rfl (lv_room (Nat.le_of_ble_eq_true rfl)) dX2_forms_8 ⟨Nat.le_of_ble_eq_true rfl, Nat.le_of_ble_eq_true rfl⟩)) (fun r4 hwr4 => ?_)
    try dsimp only at hwr4
    refine lv_if_eq (tgt := 21) hx hb dX2_forms_11 (by decide) (fun c5 => ?_) (fun c5 => ?_)
    · replace c5 := (ti_eq rfl (by decide : (0 : Int32).toInt = (0 : Int))).mp c5
      refine lv_iconst (v := 0) hx hb dX2_forms_21 (by decide) ?_
      refine lv_topi (fun r6 er6 => ?_)
      have hr6 : r6.toInt = (0 : Int) := by rw [er6]; exact (by decide : (0 : Int32).toInt = (0 : Int))
      exact W.zret (ty := .boolean) (v := r6) hx hb hr (nar_b (by omega)) (fun t9 ht9 hW9 => ⟨⟨r6, (tg, so, pa), rfl, Or.inr ⟨by omega, rfl, by first | exact Or.inl (by omega) | exact Or.inr (Or.inl (by omega)) | exact Or.inr (Or.inr (Or.inl (by omega)))⟩, by rw [ht9]; exact hP, va_K.moved hW9.alike hK, hD⟩, hS.F ht9⟩) hS.2.2 dX2_forms_22
    · replace c5 := mt (ti_eq rfl (by decide : (0 : Int32).toInt = (0 : Int))).mpr c5
      refine lv_iload_n hx hb dX2_forms_14 rfl (lv_at hl 3 rfl) ?_
      refine vp_callSi (va_Run.run (va_runS (As := [.int pt]) (rest := []) ⟨hx, hb, hml, hown, hts⟩ (mX2_isFormOrNone l pt) (va_cwS 1 hts (gA (m3 k177 k178 k1) k179) rfl rfl rfl (by decide +kernel) ⟨Nat.le_of_ble_eq_true rfl, Nat.le_of_ble_eq_true rfl⟩) (prT) rfl rfl hl.1 rfl (lv_room (Nat.le_of_ble_eq_true rfl)) dX2_forms_15 ⟨Nat.le_of_ble_eq_true rfl, Nat.le_of_ble_eq_true rfl⟩)) (fun r7 hwr7 => ?_)
      try dsimp only at hwr7
      refine lv_if_ne (tgt := 23) hx hb dX2_forms_18 (by decide) (fun c8 => ?_) (fun c8 => ?_)
      · replace c8 := mt (ti_eq rfl (by decide : (0 : Int32).toInt = (0 : Int))).mpr c8
        refine lv_aload_n hx hb dX2_forms_23 rfl (lv_at hl 0 rfl) ?_
        refine lv_iload_n hx hb dX2_forms_24 rfl (lv_at hl 3 rfl) ?_
        refine va_csq (va_Run.run (va_runV (As := [.int pt]) (rest := []) ⟨hx, hb, hml, hown, hts⟩ (mX2_formOrNull l pt hR) (cwV 1 hts (gA (m4 k180 k182 ksel0 k1) k183) rfl rfl rfl (by decide +kernel) ⟨Nat.le_of_ble_eq_true rfl, Nat.le_of_ble_eq_true rfl⟩) (prRV hP hK hNS rfl (show (w_bc h0 qa qn qx qy cI cF fa ar ln wd ht rw g nu X Y tg so pa ru)[0]? = some (h0, .inr (2, [.ref qa, .ref qn, .ref qx, .ref qy, .ref (fa tg), va_rf (so.map fa), va_rf (pa.map fa), .int ru])) from rfl)) rfl rfl hl.1 rfl (lv_room (Nat.le_of_ble_eq_true rfl)) dX2_forms_25 ⟨Nat.le_of_ble_eq_true rfl, Nat.le_of_ble_eq_true rfl⟩)) (fun r9 hwr9 => ?_)
        rcases hwr9 with ⟨t10, et10, h4t10, rfl⟩ | ⟨ht10, rfl⟩
        · refine W.eq (g2 := F0 m 28 ls [.ref (fa t10)]) rfl ?_
          obtain ⟨fw_t10, fh_t10, fr_t10, f1_t10, f2_t10, f3_t10, f4_t10, f5_t10, f6_t10, f7_t10, fB_t10⟩ := hF t10 h4t10
          have frd_t10 : rN wN t10 = (wN t10 + 15) / 16 := rfl
          refine lv_astore (lv' := [(4, .ref (fa t10)), (0, .ref h0), (1, .int ta), (2, .int sr), (3, .int pt)]) hx hb dX2_forms_28 hl (by decide) rfl (fun ls hl => ?_)
          refine lv_aload hx hb dX2_forms_30 (lv_at hl 0 rfl) ?_
          refine vp_callSi (va_Run.run (va_runS (As := [.ref (fa t10)]) (rest := []) ⟨hx, hb, hml, hown, hts⟩ (mX2_fits_r l (wb_o h4t10)) (va_cwS 1 hts (gA (m3 k184 k185 k1) k186) rfl rfl rfl (by decide +kernel) ⟨Nat.le_of_ble_eq_true rfl, Nat.le_of_ble_eq_true rfl⟩) (prR hP hK hNS) rfl rfl hl.1 rfl (lv_room (Nat.le_of_ble_eq_true rfl)) dX2_forms_32 ⟨Nat.le_of_ble_eq_true rfl, Nat.le_of_ble_eq_true rfl⟩)) (fun r11 hwr11 => ?_)
          try dsimp only at hwr11
          refine lv_if_ne (tgt := 40) hx hb dX2_forms_35 (by decide) (fun c12 => ?_) (fun c12 => ?_)
          · replace c12 := mt (ti_eq rfl (by decide : (0 : Int32).toInt = (0 : Int))).mpr c12
            refine lv_aload_n hx hb dX2_forms_40 rfl (lv_at hl 1 rfl) ?_
            refine lv_aload_n hx hb dX2_forms_41 rfl (lv_at hl 1 rfl) ?_
            refine va_get (D := (dC, dI)) (ci := 2) (v := .ref qa) (C := RX2) (T := TX2) (N := 8) hx hb hts inX2 hown hK hP 0 rfl rfl 0 (by decide) (hts _ k60) (fun _ h9 => h9) rfl dX2_forms_42 ?_
            refine lv_iload_n hx hb dX2_forms_45 rfl (lv_at hl 2 rfl) ?_
            obtain ⟨t, et⟩ : ∃ t : Nat, ta.toInt = (t : Int) := ⟨ta.toInt.toNat, by omega⟩
            have h4t : t < 4 := by omega
            obtain ⟨fw_t, fh_t, fr_t, f1_t, f2_t, f3_t, f4_t, f5_t, f6_t, f7_t, fB_t⟩ := hF t h4t
            have frd_t : rN wN t = (wN t + 15) / 16 := rfl
            have hm_t : ((rN wN t * hN t : Nat) : Int) = (rw t).toInt * (ht t).toInt := by rw [Int.natCast_mul, fr_t, fh_t]
            refine aaK (v := .ref (fa t)) hx hb hK hP 1 1 rfl rfl (t) (et) (by omega) rfl dX2_forms_46 ?_
            refine va_put (D := (dC, dI)) (ci := 2) (v := .ref (fa t)) (ty := .object "BitCopier$Form") (C := RX2) (T := TX2) (N := 8) hx hb hts inX2 tyX2 tyX2_ok nmX2 hown hK hP hD hS 0 rfl rfl 4 (by decide) (hts _ k64) (fun _ h9 => h9) rfl (by decide +kernel) rfl rfl (Nat.le_of_ble_eq_true rfl) dX2_forms_47 (fun H locs hP hD hS => ?_)
            have hP : va_P (dC, dI) vwCl (w_bc h0 qa qn qx qy cI cF fa ar ln wd ht rw g nu X Y t so pa ru) H := hP
            have hD : va_D A (w_bc h0 qa qn qx qy cI cF fa ar ln wd ht rw g nu X Y t so pa ru) := hD
            refine lv_aload_n hx hb dX2_forms_50 rfl (lv_at hl 1 rfl) ?_
            refine lv_aload_n hx hb dX2_forms_51 rfl (lv_at hl 1 rfl) ?_
            refine lv_iload_n hx hb dX2_forms_52 rfl (lv_at hl 3 rfl) ?_
            refine va_csq (va_Run.run (va_runV (As := [.int sr]) (rest := [.ref h0]) ⟨hx, hb, hml, hown, hts⟩ (mX2_formOrNull l sr (hR.tgt h4t)) (cwV 1 hts (gA (m4 k180 k182 ksel0 k1) k183) rfl rfl rfl (by decide +kernel) ⟨Nat.le_of_ble_eq_true rfl, Nat.le_of_ble_eq_true rfl⟩) (prRV hP hK hNS rfl (show (w_bc h0 qa qn qx qy cI cF fa ar ln wd ht rw g nu X Y t so pa ru)[0]? = some (h0, .inr (2, [.ref qa, .ref qn, .ref qx, .ref qy, .ref (fa t), va_rf (so.map fa), va_rf (pa.map fa), .int ru])) from rfl)) rfl rfl hl.1 rfl (lv_room (Nat.le_of_ble_eq_true rfl)) dX2_forms_53 ⟨Nat.le_of_ble_eq_true rfl, Nat.le_of_ble_eq_true rfl⟩)) (fun r13 hwr13 => ?_)
            rcases hwr13 with ⟨t14, et14, h4t14, rfl⟩ | ⟨ht14, rfl⟩
            · refine W.eq (g2 := F0 m 56 ls [.ref (fa t14), .ref h0]) rfl ?_
              obtain ⟨fw_t14, fh_t14, fr_t14, f1_t14, f2_t14, f3_t14, f4_t14, f5_t14, f6_t14, f7_t14, fB_t14⟩ := hF t14 h4t14
              have frd_t14 : rN wN t14 = (wN t14 + 15) / 16 := rfl
              refine va_put (D := (dC, dI)) (ci := 2) (v := .ref (fa t14)) (ty := .object "BitCopier$Form") (C := RX2) (T := TX2) (N := 8) hx hb hts inX2 tyX2 tyX2_ok nmX2 hown hK hP hD hS 0 rfl rfl 5 (by decide) (hts _ k65) (fun _ h9 => h9) rfl (by decide +kernel) rfl rfl (Nat.le_of_ble_eq_true rfl) dX2_forms_56 (fun H locs hP hD hS => ?_)
              have hP : va_P (dC, dI) vwCl (w_bc h0 qa qn qx qy cI cF fa ar ln wd ht rw g nu X Y t (some t14) pa ru) H := hP
              have hD : va_D A (w_bc h0 qa qn qx qy cI cF fa ar ln wd ht rw g nu X Y t (some t14) pa ru) := hD
              refine lv_aload_n hx hb dX2_forms_59 rfl (lv_at hl 1 rfl) ?_
              refine lv_aload hx hb dX2_forms_60 (lv_at hl 0 rfl) ?_
              refine va_put (D := (dC, dI)) (ci := 2) (v := .ref (fa t10)) (ty := .object "BitCopier$Form") (C := RX2) (T := TX2) (N := 8) hx hb hts inX2 tyX2 tyX2_ok nmX2 hown hK hP hD hS 0 rfl rfl 6 (by decide) (hts _ k66) (fun _ h9 => h9) rfl (by decide +kernel) rfl rfl (Nat.le_of_ble_eq_true rfl) dX2_forms_62 (fun H locs hP hD hS => ?_)
              have hP : va_P (dC, dI) vwCl (w_bc h0 qa qn qx qy cI cF fa ar ln wd ht rw g nu X Y t (some t14) (some t10) ru) H := hP
              have hD : va_D A (w_bc h0 qa qn qx qy cI cF fa ar ln wd ht rw g nu X Y t (some t14) (some t10) ru) := hD
              refine lv_iconst (v := 1) hx hb dX2_forms_65 (by decide) ?_
              refine lv_topi (fun r15 er15 => ?_)
              have hr15 : r15.toInt = (1 : Int) := by rw [er15]; exact (by decide : (1 : Int32).toInt = (1 : Int))
              have hp16 : ∀ q : Nat, pt.toInt = (q : Int) → wN q = 16 ∧ hN q = 16 := fun q hq => by rw [show q = t10 by omega]; omega
              exact W.zret (ty := .boolean) (v := r15) hx hb hr (nar_b (by omega)) (fun t9 ht9 hW9 => ⟨⟨r15, (t, (some t14), (some t10)), rfl, Or.inl ⟨by omega, by omega, by omega, by omega, by omega, by omega, by omega, hp16, et.symm, (ofm_s et14 h4t14).symm, (ofm_s et10 h4t10).symm⟩, by rw [ht9]; exact hP, va_K.moved hW9.alike hK, hD⟩, hS.F ht9⟩) hS.2.2 dX2_forms_66
            · refine W.eq (g2 := F0 m 56 ls [.null, .ref h0]) rfl ?_
              refine va_put (D := (dC, dI)) (ci := 2) (v := .null) (ty := .object "BitCopier$Form") (C := RX2) (T := TX2) (N := 8) hx hb hts inX2 tyX2 tyX2_ok nmX2 hown hK hP hD hS 0 rfl rfl 5 (by decide) (hts _ k65) (fun _ h9 => h9) rfl (by decide +kernel) rfl rfl (Nat.le_of_ble_eq_true rfl) dX2_forms_56 (fun H locs hP hD hS => ?_)
              have hP : va_P (dC, dI) vwCl (w_bc h0 qa qn qx qy cI cF fa ar ln wd ht rw g nu X Y t none pa ru) H := hP
              have hD : va_D A (w_bc h0 qa qn qx qy cI cF fa ar ln wd ht rw g nu X Y t none pa ru) := hD
              refine lv_aload_n hx hb dX2_forms_59 rfl (lv_at hl 1 rfl) ?_
              refine lv_aload hx hb dX2_forms_60 (lv_at hl 0 rfl) ?_
              refine va_put (D := (dC, dI)) (ci := 2) (v := .ref (fa t10)) (ty := .object "BitCopier$Form") (C := RX2) (T := TX2) (N := 8) hx hb hts inX2 tyX2 tyX2_ok nmX2 hown hK hP hD hS 0 rfl rfl 6 (by decide) (hts _ k66) (fun _ h9 => h9) rfl (by decide +kernel) rfl rfl (Nat.le_of_ble_eq_true rfl) dX2_forms_62 (fun H locs hP hD hS => ?_)
              have hP : va_P (dC, dI) vwCl (w_bc h0 qa qn qx qy cI cF fa ar ln wd ht rw g nu X Y t none (some t10) ru) H := hP
              have hD : va_D A (w_bc h0 qa qn qx qy cI cF fa ar ln wd ht rw g nu X Y t none (some t10) ru) := hD
              refine lv_iconst (v := 1) hx hb dX2_forms_65 (by decide) ?_
              refine lv_topi (fun r16 er16 => ?_)
              have hr16 : r16.toInt = (1 : Int) := by rw [er16]; exact (by decide : (1 : Int32).toInt = (1 : Int))
              have hp16 : ∀ q : Nat, pt.toInt = (q : Int) → wN q = 16 ∧ hN q = 16 := fun q hq => by rw [show q = t10 by omega]; omega
              exact W.zret (ty := .boolean) (v := r16) hx hb hr (nar_b (by omega)) (fun t9 ht9 hW9 => ⟨⟨r16, (t, none, (some t10)), rfl, Or.inl ⟨by omega, by omega, by omega, by omega, by omega, by omega, by omega, hp16, et.symm, (ofm_n (by omega)).symm, (ofm_s et10 h4t10).symm⟩, by rw [ht9]; exact hP, va_K.moved hW9.alike hK, hD⟩, hS.F ht9⟩) hS.2.2 dX2_forms_66
          · replace c12 := (ti_eq rfl (by decide : (0 : Int32).toInt = (0 : Int))).mp c12
            refine lv_iconst (v := 0) hx hb dX2_forms_38 (by decide) ?_
            refine lv_topi (fun r17 er17 => ?_)
            have hr17 : r17.toInt = (0 : Int) := by rw [er17]; exact (by decide : (0 : Int32).toInt = (0 : Int))
            exact W.zret (ty := .boolean) (v := r17) hx hb hr (nar_b (by omega)) (fun t9 ht9 hW9 => ⟨⟨r17, (tg, so, pa), rfl, Or.inr ⟨by omega, rfl, Or.inr (Or.inr (Or.inr ⟨t10, et10, h4t10, fun q => by omega⟩))⟩, by rw [ht9]; exact hP, va_K.moved hW9.alike hK, hD⟩, hS.F ht9⟩) hS.2.2 dX2_forms_39
        · refine W.eq (g2 := F0 m 28 ls [.null]) rfl ?_
          refine lv_astoreN (lv' := [(4, .null), (0, .ref h0), (1, .int ta), (2, .int sr), (3, .int pt)]) hx hb dX2_forms_28 hl (by decide) rfl (fun ls hl => ?_)
          refine lv_aloadN hx hb dX2_forms_30 (lv_at hl 0 rfl) ?_
          refine vp_callSi (va_Run.run (va_runS (As := [.null]) (rest := []) ⟨hx, hb, hml, hown, hts⟩ (mX2_fits_n l) (va_cwS 1 hts (gA (m3 k184 k185 k1) k186) rfl rfl rfl (by decide +kernel) ⟨Nat.le_of_ble_eq_true rfl, Nat.le_of_ble_eq_true rfl⟩) (prR hP hK hNS) rfl rfl hl.1 rfl (lv_room (Nat.le_of_ble_eq_true rfl)) dX2_forms_32 ⟨Nat.le_of_ble_eq_true rfl, Nat.le_of_ble_eq_true rfl⟩)) (fun r18 hwr18 => ?_)
          try dsimp only at hwr18
          refine lv_if_ne (tgt := 40) hx hb dX2_forms_35 (by decide) (fun c19 => ?_) (fun c19 => ?_)
          · replace c19 := mt (ti_eq rfl (by decide : (0 : Int32).toInt = (0 : Int))).mpr c19
            refine lv_aload_n hx hb dX2_forms_40 rfl (lv_at hl 1 rfl) ?_
            refine lv_aload_n hx hb dX2_forms_41 rfl (lv_at hl 1 rfl) ?_
            refine va_get (D := (dC, dI)) (ci := 2) (v := .ref qa) (C := RX2) (T := TX2) (N := 8) hx hb hts inX2 hown hK hP 0 rfl rfl 0 (by decide) (hts _ k60) (fun _ h9 => h9) rfl dX2_forms_42 ?_
            refine lv_iload_n hx hb dX2_forms_45 rfl (lv_at hl 2 rfl) ?_
            obtain ⟨t, et⟩ : ∃ t : Nat, ta.toInt = (t : Int) := ⟨ta.toInt.toNat, by omega⟩
            have h4t : t < 4 := by omega
            obtain ⟨fw_t, fh_t, fr_t, f1_t, f2_t, f3_t, f4_t, f5_t, f6_t, f7_t, fB_t⟩ := hF t h4t
            have frd_t : rN wN t = (wN t + 15) / 16 := rfl
            have hm_t : ((rN wN t * hN t : Nat) : Int) = (rw t).toInt * (ht t).toInt := by rw [Int.natCast_mul, fr_t, fh_t]
            refine aaK (v := .ref (fa t)) hx hb hK hP 1 1 rfl rfl (t) (et) (by omega) rfl dX2_forms_46 ?_
            refine va_put (D := (dC, dI)) (ci := 2) (v := .ref (fa t)) (ty := .object "BitCopier$Form") (C := RX2) (T := TX2) (N := 8) hx hb hts inX2 tyX2 tyX2_ok nmX2 hown hK hP hD hS 0 rfl rfl 4 (by decide) (hts _ k64) (fun _ h9 => h9) rfl (by decide +kernel) rfl rfl (Nat.le_of_ble_eq_true rfl) dX2_forms_47 (fun H locs hP hD hS => ?_)
            have hP : va_P (dC, dI) vwCl (w_bc h0 qa qn qx qy cI cF fa ar ln wd ht rw g nu X Y t so pa ru) H := hP
            have hD : va_D A (w_bc h0 qa qn qx qy cI cF fa ar ln wd ht rw g nu X Y t so pa ru) := hD
            refine lv_aload_n hx hb dX2_forms_50 rfl (lv_at hl 1 rfl) ?_
            refine lv_aload_n hx hb dX2_forms_51 rfl (lv_at hl 1 rfl) ?_
            refine lv_iload_n hx hb dX2_forms_52 rfl (lv_at hl 3 rfl) ?_
            refine va_csq (va_Run.run (va_runV (As := [.int sr]) (rest := [.ref h0]) ⟨hx, hb, hml, hown, hts⟩ (mX2_formOrNull l sr (hR.tgt h4t)) (cwV 1 hts (gA (m4 k180 k182 ksel0 k1) k183) rfl rfl rfl (by decide +kernel) ⟨Nat.le_of_ble_eq_true rfl, Nat.le_of_ble_eq_true rfl⟩) (prRV hP hK hNS rfl (show (w_bc h0 qa qn qx qy cI cF fa ar ln wd ht rw g nu X Y t so pa ru)[0]? = some (h0, .inr (2, [.ref qa, .ref qn, .ref qx, .ref qy, .ref (fa t), va_rf (so.map fa), va_rf (pa.map fa), .int ru])) from rfl)) rfl rfl hl.1 rfl (lv_room (Nat.le_of_ble_eq_true rfl)) dX2_forms_53 ⟨Nat.le_of_ble_eq_true rfl, Nat.le_of_ble_eq_true rfl⟩)) (fun r20 hwr20 => ?_)
            rcases hwr20 with ⟨t21, et21, h4t21, rfl⟩ | ⟨ht21, rfl⟩
            · refine W.eq (g2 := F0 m 56 ls [.ref (fa t21), .ref h0]) rfl ?_
              obtain ⟨fw_t21, fh_t21, fr_t21, f1_t21, f2_t21, f3_t21, f4_t21, f5_t21, f6_t21, f7_t21, fB_t21⟩ := hF t21 h4t21
              have frd_t21 : rN wN t21 = (wN t21 + 15) / 16 := rfl
              refine va_put (D := (dC, dI)) (ci := 2) (v := .ref (fa t21)) (ty := .object "BitCopier$Form") (C := RX2) (T := TX2) (N := 8) hx hb hts inX2 tyX2 tyX2_ok nmX2 hown hK hP hD hS 0 rfl rfl 5 (by decide) (hts _ k65) (fun _ h9 => h9) rfl (by decide +kernel) rfl rfl (Nat.le_of_ble_eq_true rfl) dX2_forms_56 (fun H locs hP hD hS => ?_)
              have hP : va_P (dC, dI) vwCl (w_bc h0 qa qn qx qy cI cF fa ar ln wd ht rw g nu X Y t (some t21) pa ru) H := hP
              have hD : va_D A (w_bc h0 qa qn qx qy cI cF fa ar ln wd ht rw g nu X Y t (some t21) pa ru) := hD
              refine lv_aload_n hx hb dX2_forms_59 rfl (lv_at hl 1 rfl) ?_
              refine lv_aloadN hx hb dX2_forms_60 (lv_at hl 0 rfl) ?_
              refine va_put (D := (dC, dI)) (ci := 2) (v := .null) (ty := .object "BitCopier$Form") (C := RX2) (T := TX2) (N := 8) hx hb hts inX2 tyX2 tyX2_ok nmX2 hown hK hP hD hS 0 rfl rfl 6 (by decide) (hts _ k66) (fun _ h9 => h9) rfl (by decide +kernel) rfl rfl (Nat.le_of_ble_eq_true rfl) dX2_forms_62 (fun H locs hP hD hS => ?_)
              have hP : va_P (dC, dI) vwCl (w_bc h0 qa qn qx qy cI cF fa ar ln wd ht rw g nu X Y t (some t21) none ru) H := hP
              have hD : va_D A (w_bc h0 qa qn qx qy cI cF fa ar ln wd ht rw g nu X Y t (some t21) none ru) := hD
              refine lv_iconst (v := 1) hx hb dX2_forms_65 (by decide) ?_
              refine lv_topi (fun r22 er22 => ?_)
              have hr22 : r22.toInt = (1 : Int) := by rw [er22]; exact (by decide : (1 : Int32).toInt = (1 : Int))
              have hp16 : ∀ q : Nat, pt.toInt = (q : Int) → wN q = 16 ∧ hN q = 16 := fun q hq => by omega
              exact W.zret (ty := .boolean) (v := r22) hx hb hr (nar_b (by omega)) (fun t9 ht9 hW9 => ⟨⟨r22, (t, (some t21), none), rfl, Or.inl ⟨by omega, by omega, by omega, by omega, by omega, by omega, by omega, hp16, et.symm, (ofm_s et21 h4t21).symm, (ofm_n (by omega)).symm⟩, by rw [ht9]; exact hP, va_K.moved hW9.alike hK, hD⟩, hS.F ht9⟩) hS.2.2 dX2_forms_66
            · refine W.eq (g2 := F0 m 56 ls [.null, .ref h0]) rfl ?_
              refine va_put (D := (dC, dI)) (ci := 2) (v := .null) (ty := .object "BitCopier$Form") (C := RX2) (T := TX2) (N := 8) hx hb hts inX2 tyX2 tyX2_ok nmX2 hown hK hP hD hS 0 rfl rfl 5 (by decide) (hts _ k65) (fun _ h9 => h9) rfl (by decide +kernel) rfl rfl (Nat.le_of_ble_eq_true rfl) dX2_forms_56 (fun H locs hP hD hS => ?_)
              have hP : va_P (dC, dI) vwCl (w_bc h0 qa qn qx qy cI cF fa ar ln wd ht rw g nu X Y t none pa ru) H := hP
              have hD : va_D A (w_bc h0 qa qn qx qy cI cF fa ar ln wd ht rw g nu X Y t none pa ru) := hD
              refine lv_aload_n hx hb dX2_forms_59 rfl (lv_at hl 1 rfl) ?_
              refine lv_aloadN hx hb dX2_forms_60 (lv_at hl 0 rfl) ?_
              refine va_put (D := (dC, dI)) (ci := 2) (v := .null) (ty := .object "BitCopier$Form") (C := RX2) (T := TX2) (N := 8) hx hb hts inX2 tyX2 tyX2_ok nmX2 hown hK hP hD hS 0 rfl rfl 6 (by decide) (hts _ k66) (fun _ h9 => h9) rfl (by decide +kernel) rfl rfl (Nat.le_of_ble_eq_true rfl) dX2_forms_62 (fun H locs hP hD hS => ?_)
              have hP : va_P (dC, dI) vwCl (w_bc h0 qa qn qx qy cI cF fa ar ln wd ht rw g nu X Y t none none ru) H := hP
              have hD : va_D A (w_bc h0 qa qn qx qy cI cF fa ar ln wd ht rw g nu X Y t none none ru) := hD
              refine lv_iconst (v := 1) hx hb dX2_forms_65 (by decide) ?_
              refine lv_topi (fun r23 er23 => ?_)
              have hr23 : r23.toInt = (1 : Int) := by rw [er23]; exact (by decide : (1 : Int32).toInt = (1 : Int))
              have hp16 : ∀ q : Nat, pt.toInt = (q : Int) → wN q = 16 ∧ hN q = 16 := fun q hq => by omega
              exact W.zret (ty := .boolean) (v := r23) hx hb hr (nar_b (by omega)) (fun t9 ht9 hW9 => ⟨⟨r23, (t, none, none), rfl, Or.inl ⟨by omega, by omega, by omega, by omega, by omega, by omega, by omega, hp16, et.symm, (ofm_n (by omega)).symm, (ofm_n (by omega)).symm⟩, by rw [ht9]; exact hP, va_K.moved hW9.alike hK, hD⟩, hS.F ht9⟩) hS.2.2 dX2_forms_66
          · replace c19 := (ti_eq rfl (by decide : (0 : Int32).toInt = (0 : Int))).mp c19
            refine lv_iconst (v := 0) hx hb dX2_forms_38 (by decide) ?_
            refine lv_topi (fun r24 er24 => ?_)
            have hr24 : r24.toInt = (0 : Int) := by rw [er24]; exact (by decide : (0 : Int32).toInt = (0 : Int))
            exact W.zret (ty := .boolean) (v := r24) hx hb hr (nar_b (by omega)) (fun t9 ht9 hW9 => ⟨⟨r24, (tg, so, pa), rfl, False.elim (by omega), by rw [ht9]; exact hP, va_K.moved hW9.alike hK, hD⟩, hS.F ht9⟩) hS.2.2 dX2_forms_39
      · replace c8 := (ti_eq rfl (by decide : (0 : Int32).toInt = (0 : Int))).mp c8
        refine lv_iconst (v := 0) hx hb dX2_forms_21 (by decide) ?_
        refine lv_topi (fun r25 er25 => ?_)
        have hr25 : r25.toInt = (0 : Int) := by rw [er25]; exact (by decide : (0 : Int32).toInt = (0 : Int))
        exact W.zret (ty := .boolean) (v := r25) hx hb hr (nar_b (by omega)) (fun t9 ht9 hW9 => ⟨⟨r25, (tg, so, pa), rfl, Or.inr ⟨by omega, rfl, by first | exact Or.inl (by omega) | exact Or.inr (Or.inl (by omega)) | exact Or.inr (Or.inr (Or.inl (by omega)))⟩, by rw [ht9]; exact hP, va_K.moved hW9.alike hK, hD⟩, hS.F ht9⟩) hS.2.2 dX2_forms_22
set_option maxHeartbeats 8000000 in
set_option maxRecDepth 100000 in
theorem mX2_form (l : Launch) {dC : Nat → ClassId} {dI : Nat → Nat → Nat} {sz : Nat} {h0 qa qn qx qy : Nat} {cI cF : ClassId} {fa ar ln : Nat → Nat} {wd ht rw : Nat → Int32} {g : Nat → Nat → Int32} {nu : Nat → Int32} {X Y : Int32 × Int32 × Int32} {tg : Nat} {so pa : Option Nat} {ru : Int32} {wN hN : Nat → Nat} {Bt : Nat → Nat → Nat → Bool} {nz : Nat → Int} (f : Int32) (w1 : Int32) (h1 : Int32) (hR : RC wN hN Bt nz tg so pa ru ln wd ht rw g nu) : Met l yX2_form (wM yX2_form cX2_form 5 (some .int)) ({ frames := 2, cells := 1, slots := 4000, locals := 46 }) (va_Pc [.ref h0, .int f, .int w1, .int h1] (wP (dC, dI) vwCl (tyB cI cF) (w_bc h0 qa qn qx qy cI cF fa ar ln wd ht rw g nu X Y tg so pa ru) sz)) (va_Qi (fun (r : Int32) (u : (Nat → Nat) × (Nat → Nat) × (Nat → Int32) × (Nat → Int32) × (Nat → Int32) × (Nat → Nat → Int32)) => (r.toInt = -1 ∧ u = (ar, ln, wd, ht, rw, g) ∧ (f.toInt < 0 ∨ 4 ≤ f.toInt ∨ w1.toInt < 1 ∨ h1.toInt < 1 ∨ 64000 < w1.toInt ∨ 4000 < h1.toInt ∨ 4000 < ((w1.toInt + 15) / 16) * h1.toInt)) ∨ (∃ t : Nat, f.toInt = (t : Int) ∧ t < 4 ∧ 1 ≤ w1.toInt ∧ 1 ≤ h1.toInt ∧ w1.toInt ≤ 64000 ∧ h1.toInt ≤ 4000 ∧ ((w1.toInt + 15) / 16) * h1.toInt ≤ 4000 ∧ r.toInt = ((w1.toInt + 15) / 16) * h1.toInt ∧ RC (va_up wN t w1.toInt.toNat) (va_up hN t h1.toInt.toNat) (va_up Bt t (fun _ _ => false)) nz tg so pa ru u.2.1 u.2.2.1 u.2.2.2.1 u.2.2.2.2.1 u.2.2.2.2.2 nu)) (wB (dC, dI) vwCl (va_A (w_bc h0 qa qn qx qy cI cF fa ar ln wd ht rw g nu X Y tg so pa ru) sz) (fun u : (Nat → Nat) × (Nat → Nat) × (Nat → Int32) × (Nat → Int32) × (Nat → Int32) × (Nat → Nat → Int32) => (tyB cI cF)) (fun u : (Nat → Nat) × (Nat → Nat) × (Nat → Int32) × (Nat → Int32) × (Nat → Int32) × (Nat → Nat → Int32) => (w_bc h0 qa qn qx qy cI cF fa u.1 u.2.1 u.2.2.1 u.2.2.2.1 u.2.2.2.2.1 u.2.2.2.2.2 nu X Y tg so pa ru))) (va_A (w_bc h0 qa qn qx qy cI cF fa ar ln wd ht rw g nu X Y tg so pa ru) sz)) 1 4000 (va_A (w_bc h0 qa qn qx qy cI cF fa ar ln wd ht rw g nu X Y tg so pa ru) sz) := by
  refine Met.ofW (cc := cX2_form) (maxL := 5) (ret := (some .int)) (by decide +kernel) rfl ?_
  intro p e s m args below meth c s₁ B hml hv
  obtain ⟨rfl, hsz, hP, hK, hD0, hNS⟩ := hv
  have hx := B.exec
  have hb := B.bytes
  have hr := B.returns
  have hts : ∀ w ∈ tblG, w.before _ s = true := fun w h => atoms_spec (ws := wM yX2_form cX2_form 5 (some .int)) B.pre w (List.mem_cons_of_mem _ h)
  have hown : s.vm.findClass RX2 = some m.cls := findClass_of_methodNamed B.named
  have hlocks := B.notSynchronized
  subst hsz
  have hD := hD0.self (sz := s.heap.size)
  generalize hAe : va_A (w_bc h0 qa qn qx qy cI cF fa ar ln wd ht rw g nu X Y tg so pa ru) s.heap.size = A at hD ⊢
  have hA : ∀ q : Nat, s.heap.size ≤ q → A q := fun q h => by rw [← hAe]; exact Or.inr h
  have hS : va_S A s.heap s.heap [] := va_S.rf
  have hP : va_P (dC, dI) vwCl (w_bc h0 qa qn qx qy cI cF fa ar ln wd ht rw g nu X Y tg so pa ru) s.heap := hP
  have hl := lv_entry ([.ref h0, .int f, .int w1, .int h1]) (n := 5) (Nat.le_of_ble_eq_true rfl)
  rw [lg_entry_eq]
  generalize (lg_sl ([.ref h0, .int f, .int w1, .int h1]) ++ List.replicate (5 - (lg_sl ([.ref h0, .int f, .int w1, .int h1])).length) Slot.unset).toArray = ls at hl ⊢
  have hl : lv_has ls 5 [(0, .ref h0), (1, .int f), (2, .int w1), (3, .int h1)] := hl
  have hprod := wn_pos w1.toInt h1.toInt
  obtain ⟨hF, hnu, htg, hso, hpa, hr1, hr2⟩ := id hR
  refine lv_iload_n hx hb dX2_form_0 rfl (lv_at hl 2 rfl) ?_
  refine lv_iload_n hx hb dX2_form_1 rfl (lv_at hl 3 rfl) ?_
  refine vp_callSi (va_Run.run (va_runS (As := [.int w1, .int h1]) (rest := []) ⟨hx, hb, hml, hown, hts⟩ (mX2_wordsNeeded l w1 h1) (va_cwS 2 hts (gA (m3 k89 k90 k1) k91) rfl rfl rfl (by decide +kernel) ⟨Nat.le_of_ble_eq_true rfl, Nat.le_of_ble_eq_true rfl⟩) (prT) rfl rfl hl.1 rfl (lv_room (Nat.le_of_ble_eq_true rfl)) dX2_form_2 ⟨Nat.le_of_ble_eq_true rfl, Nat.le_of_ble_eq_true rfl⟩)) (fun r1 hwr1 => ?_)
  try dsimp only at hwr1
  refine lv_istore (lv' := [(4, .int r1), (0, .ref h0), (1, .int f), (2, .int w1), (3, .int h1)]) hx hb dX2_form_5 hl (by decide) rfl (fun ls hl => ?_)
  refine lv_iload_n hx hb dX2_form_7 rfl (lv_at hl 2 rfl) ?_
  refine vp_callSi (va_Run.run (va_runS (As := [.int f]) (rest := []) ⟨hx, hb, hml, hown, hts⟩ (mX2_isForm l f) (va_cwS 1 hts (gA (m3 k96 k97 k1) k98) rfl rfl rfl (by decide +kernel) ⟨Nat.le_of_ble_eq_true rfl, Nat.le_of_ble_eq_true rfl⟩) (prT) rfl rfl hl.1 rfl (lv_room (Nat.le_of_ble_eq_true rfl)) dX2_form_8 ⟨Nat.le_of_ble_eq_true rfl, Nat.le_of_ble_eq_true rfl⟩)) (fun r2 hwr2 => ?_)
  try dsimp only at hwr2
  refine lv_if_eq (tgt := 20) hx hb dX2_form_11 (by decide) (fun c3 => ?_) (fun c3 => ?_)
  · replace c3 := (ti_eq rfl (by decide : (0 : Int32).toInt = (0 : Int))).mp c3
    refine lv_iconst (v := (-1)) hx hb dX2_form_20 (by decide) ?_
    refine W.widen (k := 1) (n := 4000) (by omega) (by omega) ?_
    refine lv_topi (fun r4 er4 => ?_)
    have hr4 : r4.toInt = (-1 : Int) := by rw [er4]; exact (by decide : (-1 : Int32).toInt = (-1 : Int))
    exact W.iret (v := r4) hx hb hr (fun t9 ht9 hW9 => ⟨⟨r4, (ar, ln, wd, ht, rw, g), rfl, Or.inl ⟨by omega, rfl, by omega⟩, by rw [ht9]; exact hP, va_K.moved hW9.alike hK, hD⟩, hS.F ht9⟩) hS.2.2 dX2_form_21
  · replace c3 := mt (ti_eq rfl (by decide : (0 : Int32).toInt = (0 : Int))).mpr c3
    refine lv_iload hx hb dX2_form_14 (lv_at hl 0 rfl) ?_
    refine lv_iconst (v := (-1)) hx hb dX2_form_16 (by decide) ?_
    refine lv_icmp_ne (tgt := 22) hx hb dX2_form_17 (by decide) (fun c5 => ?_) (fun c5 => ?_)
    · replace c5 := mt (ti_eq rfl (by decide : (-1 : Int32).toInt = (-1 : Int))).mpr c5
      refine lv_aload_n hx hb dX2_form_22 rfl (lv_at hl 1 rfl) ?_
      refine va_get (D := (dC, dI)) (ci := 2) (v := .ref qa) (C := RX2) (T := TX2) (N := 8) hx hb hts inX2 hown hK hP 0 rfl rfl 0 (by decide) (hts _ k60) (fun _ h9 => h9) rfl dX2_form_23 ?_
      refine lv_iload_n hx hb dX2_form_26 rfl (lv_at hl 2 rfl) ?_
      obtain ⟨t, et⟩ : ∃ t : Nat, f.toInt = (t : Int) := ⟨f.toInt.toNat, by omega⟩
      have h4t : t < 4 := by omega
      obtain ⟨fw_t, fh_t, fr_t, f1_t, f2_t, f3_t, f4_t, f5_t, f6_t, f7_t, fB_t⟩ := hF t h4t
      have frd_t : rN wN t = (wN t + 15) / 16 := rfl
      have hm_t : ((rN wN t * hN t : Nat) : Int) = (rw t).toInt * (ht t).toInt := by rw [Int.natCast_mul, fr_t, fh_t]
      refine aaK (v := .ref (fa t)) hx hb hK hP 1 1 rfl rfl (t) (et) (by omega) rfl dX2_form_27 ?_
      refine lv_iload_n hx hb dX2_form_28 rfl (lv_at hl 3 rfl) ?_
      refine lv_iload_n hx hb dX2_form_29 rfl (lv_at hl 4 rfl) ?_
      refine lv_iload hx hb dX2_form_30 (lv_at hl 0 rfl) ?_
      refine cJ2_v (S := Nat × Nat × Int32) (f1 := fun u => .inr (0, [.int w1, .int h1, .int u.2.2, .ref u.1])) (f2 := fun u => .inl (cI, u.2.1, .inl (fun _ => 0))) (bf := fun u => u.1) (5 + t) (9 + t) (by omega) (wb_o h4t) (wb_a h4t) (va_runV (As := [.int w1, .int h1, .int r1]) (rest := []) ⟨hx, hb, hml, hown, hts⟩ (mX0_becomeBlank l w1 h1 r1 (by omega) (by omega) (by omega)) (cwV 3 hts (gA (m4 k99 k100 k101 k2) k102) rfl rfl rfl (by decide +kernel) ⟨Nat.le_of_ble_eq_true rfl, Nat.le_of_ble_eq_true rfl⟩) (pr2 (by omega : 5 + t ≠ 9 + t) hP hK hNS hD rfl (wb_o h4t) (wb_a h4t)) rfl rfl hl.1 rfl (lv_room (Nat.le_of_ble_eq_true rfl)) dX2_form_32 ⟨Nat.le_of_ble_eq_true rfl, Nat.le_of_ble_eq_true rfl⟩) hP hD hS hA (fun r6 H locs hwr6 hP hD hS => ?_)
      obtain ⟨bq, bn, br⟩ := r6
      dsimp only at hwr6
      rw [wb_form h4t] at hP hD
      have hP : va_P (dC, dI) vwCl (w_bc h0 qa qn qx qy cI cF fa (va_up ar t bq) (va_up ln t bn) (va_up wd t w1) (va_up ht t h1) (va_up rw t br) (va_up g t (fun _ => 0)) nu X Y tg so pa ru) H := hP
      have hD : va_D A (w_bc h0 qa qn qx qy cI cF fa (va_up ar t bq) (va_up ln t bn) (va_up wd t w1) (va_up ht t h1) (va_up rw t br) (va_up g t (fun _ => 0)) nu X Y tg so pa ru) := hD
      refine W.widen (k := 1) (n := 4000) (by omega) (by omega) ?_
      refine lv_iload hx hb dX2_form_35 (lv_at hl 0 rfl) ?_
      refine W.widen (k := 1) (n := 4000) (by omega) (by omega) ?_
      exact W.iret (v := r1) hx hb hr (fun t9 ht9 hW9 => ⟨⟨r1, ((va_up ar t bq), (va_up ln t bn), (va_up wd t w1), (va_up ht t h1), (va_up rw t br), (va_up g t (fun _ => 0))), rfl, Or.inr ⟨t, et, h4t, by omega, by omega, by omega, by omega, by omega, by omega, hR.form ⟨by omega, by omega⟩ ⟨by omega, by omega⟩ hwr6.2.2.2 (nd := r1) (by omega) hwr6.1 ⟨hwr6.2.1, hwr6.2.2.1⟩⟩, by rw [ht9]; exact hP, va_K.moved hW9.alike hK, hD⟩, hS.F ht9⟩) hS.2.2 dX2_form_37
    · replace c5 := (ti_eq rfl (by decide : (-1 : Int32).toInt = (-1 : Int))).mp c5
      refine lv_iconst (v := (-1)) hx hb dX2_form_20 (by decide) ?_
      refine W.widen (k := 1) (n := 4000) (by omega) (by omega) ?_
      refine lv_topi (fun r7 er7 => ?_)
      have hr7 : r7.toInt = (-1 : Int) := by rw [er7]; exact (by decide : (-1 : Int32).toInt = (-1 : Int))
      exact W.iret (v := r7) hx hb hr (fun t9 ht9 hW9 => ⟨⟨r7, (ar, ln, wd, ht, rw, g), rfl, Or.inl ⟨by omega, rfl, by omega⟩, by rw [ht9]; exact hP, va_K.moved hW9.alike hK, hD⟩, hS.F ht9⟩) hS.2.2 dX2_form_21
set_option maxHeartbeats 8000000 in
set_option maxRecDepth 100000 in
theorem mX2_put (l : Launch) {dC : Nat → ClassId} {dI : Nat → Nat → Nat} {sz : Nat} {h0 qa qn qx qy : Nat} {cI cF : ClassId} {fa ar ln : Nat → Nat} {wd ht rw : Nat → Int32} {g : Nat → Nat → Int32} {nu : Nat → Int32} {X Y : Int32 × Int32 × Int32} {tg : Nat} {so pa : Option Nat} {ru : Int32} {wN hN : Nat → Nat} {Bt : Nat → Nat → Nat → Bool} {nz : Nat → Int} (f : Int32) (i : Int32) (v : Int32) (hR : RC wN hN Bt nz tg so pa ru ln wd ht rw g nu) : Met l yX2_put (wM yX2_put cX2_put 4 (some .boolean)) ({ frames := 3, cells := 0, slots := 0, locals := 67 }) (va_Pc [.ref h0, .int f, .int i, .int v] (wP (dC, dI) vwCl (tyB cI cF) (w_bc h0 qa qn qx qy cI cF fa ar ln wd ht rw g nu X Y tg so pa ru) sz)) (va_Qi (fun (r : Int32) (u : Nat → Nat → Int32) => (r.toInt = 0 ∧ u = g ∧ ((f.toInt < 0 ∨ 4 ≤ f.toInt) ∨ ∃ t : Nat, f.toInt = (t : Int) ∧ t < 4 ∧ (i.toInt < 0 ∨ ((rN wN t * hN t : Nat) : Int) ≤ i.toInt))) ∨ (∃ t : Nat, f.toInt = (t : Int) ∧ t < 4 ∧ 0 ≤ i.toInt ∧ i.toInt < ((rN wN t * hN t : Nat) : Int) ∧ r.toInt = 1 ∧ RC wN hN (va_up Bt t (putB (rN wN t) i.toInt.toNat v (Bt t))) nz tg so pa ru ln wd ht rw u nu)) (wB (dC, dI) vwCl (va_A (w_bc h0 qa qn qx qy cI cF fa ar ln wd ht rw g nu X Y tg so pa ru) sz) (fun u : Nat → Nat → Int32 => (tyB cI cF)) (fun u : Nat → Nat → Int32 => (w_bc h0 qa qn qx qy cI cF fa ar ln wd ht rw u nu X Y tg so pa ru))) (va_A (w_bc h0 qa qn qx qy cI cF fa ar ln wd ht rw g nu X Y tg so pa ru) sz)) 0 0 (va_A (w_bc h0 qa qn qx qy cI cF fa ar ln wd ht rw g nu X Y tg so pa ru) sz) := by
  refine Met.ofW (cc := cX2_put) (maxL := 4) (ret := (some .boolean)) (by decide +kernel) rfl ?_
  intro p e s m args below meth c s₁ B hml hv
  obtain ⟨rfl, hsz, hP, hK, hD0, hNS⟩ := hv
  have hx := B.exec
  have hb := B.bytes
  have hr := B.returns
  have hts : ∀ w ∈ tblG, w.before _ s = true := fun w h => atoms_spec (ws := wM yX2_put cX2_put 4 (some .boolean)) B.pre w (List.mem_cons_of_mem _ h)
  have hown : s.vm.findClass RX2 = some m.cls := findClass_of_methodNamed B.named
  have hlocks := B.notSynchronized
  subst hsz
  have hD := hD0.self (sz := s.heap.size)
  generalize hAe : va_A (w_bc h0 qa qn qx qy cI cF fa ar ln wd ht rw g nu X Y tg so pa ru) s.heap.size = A at hD ⊢
  have hA : ∀ q : Nat, s.heap.size ≤ q → A q := fun q h => by rw [← hAe]; exact Or.inr h
  have hS : va_S A s.heap s.heap [] := va_S.rf
  have hP : va_P (dC, dI) vwCl (w_bc h0 qa qn qx qy cI cF fa ar ln wd ht rw g nu X Y tg so pa ru) s.heap := hP
  have hl := lv_entry ([.ref h0, .int f, .int i, .int v]) (n := 4) (Nat.le_of_ble_eq_true rfl)
  rw [lg_entry_eq]
  generalize (lg_sl ([.ref h0, .int f, .int i, .int v]) ++ List.replicate (4 - (lg_sl ([.ref h0, .int f, .int i, .int v])).length) Slot.unset).toArray = ls at hl ⊢
  have hl : lv_has ls 4 [(0, .ref h0), (1, .int f), (2, .int i), (3, .int v)] := hl
  obtain ⟨hF, hnu, htg, hso, hpa, hr1, hr2⟩ := id hR
  refine lv_iload_n hx hb dX2_put_0 rfl (lv_at hl 1 rfl) ?_
  refine vp_callSi (va_Run.run (va_runS (As := [.int f]) (rest := []) ⟨hx, hb, hml, hown, hts⟩ (mX2_isForm l f) (va_cwS 1 hts (gA (m3 k96 k97 k1) k98) rfl rfl rfl (by decide +kernel) ⟨Nat.le_of_ble_eq_true rfl, Nat.le_of_ble_eq_true rfl⟩) (prT) rfl rfl hl.1 rfl (lv_room (Nat.le_of_ble_eq_true rfl)) dX2_put_1 ⟨Nat.le_of_ble_eq_true rfl, Nat.le_of_ble_eq_true rfl⟩)) (fun r1 hwr1 => ?_)
  try dsimp only at hwr1
  refine lv_if_eq (tgt := 20) hx hb dX2_put_4 (by decide) (fun c2 => ?_) (fun c2 => ?_)
  · replace c2 := (ti_eq rfl (by decide : (0 : Int32).toInt = (0 : Int))).mp c2
    refine lv_iconst (v := 0) hx hb dX2_put_20 (by decide) ?_
    refine lv_topi (fun r3 er3 => ?_)
    have hr3 : r3.toInt = (0 : Int) := by rw [er3]; exact (by decide : (0 : Int32).toInt = (0 : Int))
    exact W.zret (ty := .boolean) (v := r3) hx hb hr (nar_b (by omega)) (fun t9 ht9 hW9 => ⟨⟨r3, g, rfl, Or.inl ⟨by omega, rfl, Or.inl (by omega)⟩, by rw [ht9]; exact hP, va_K.moved hW9.alike hK, hD⟩, hS.F ht9⟩) hS.2.2 dX2_put_21
  · replace c2 := mt (ti_eq rfl (by decide : (0 : Int32).toInt = (0 : Int))).mpr c2
    refine lv_aload_n hx hb dX2_put_7 rfl (lv_at hl 0 rfl) ?_
    refine va_get (D := (dC, dI)) (ci := 2) (v := .ref qa) (C := RX2) (T := TX2) (N := 8) hx hb hts inX2 hown hK hP 0 rfl rfl 0 (by decide) (hts _ k60) (fun _ h9 => h9) rfl dX2_put_8 ?_
    refine lv_iload_n hx hb dX2_put_11 rfl (lv_at hl 1 rfl) ?_
    obtain ⟨t, et⟩ : ∃ t : Nat, f.toInt = (t : Int) := ⟨f.toInt.toNat, by omega⟩
    have h4t : t < 4 := by omega
    obtain ⟨fw_t, fh_t, fr_t, f1_t, f2_t, f3_t, f4_t, f5_t, f6_t, f7_t, fB_t⟩ := hF t h4t
    have frd_t : rN wN t = (wN t + 15) / 16 := rfl
    have hm_t : ((rN wN t * hN t : Nat) : Int) = (rw t).toInt * (ht t).toInt := by rw [Int.natCast_mul, fr_t, fh_t]
    refine aaK (v := .ref (fa t)) hx hb hK hP 1 1 rfl rfl (t) (et) (by omega) rfl dX2_put_12 ?_
    refine lv_iload_n hx hb dX2_put_13 rfl (lv_at hl 2 rfl) ?_
    refine vp_callSi (va_Run.run (va_runV (As := [.int i]) (rest := []) ⟨hx, hb, hml, hown, hts⟩ (mX0_hasWord l i (wb_o h4t) (by omega) (by omega)) (cwV 1 hts (gA (m4 k117 k118 k119 k2) k120) rfl rfl rfl (by decide +kernel) ⟨Nat.le_of_ble_eq_true rfl, Nat.le_of_ble_eq_true rfl⟩) (prRV hP hK hNS rfl (wb_o h4t)) rfl rfl hl.1 rfl (lv_room (Nat.le_of_ble_eq_true rfl)) dX2_put_14 ⟨Nat.le_of_ble_eq_true rfl, Nat.le_of_ble_eq_true rfl⟩)) (fun r4 hwr4 => ?_)
    try dsimp only at hwr4
    refine lv_if_ne (tgt := 22) hx hb dX2_put_17 (by decide) (fun c5 => ?_) (fun c5 => ?_)
    · replace c5 := mt (ti_eq rfl (by decide : (0 : Int32).toInt = (0 : Int))).mpr c5
      refine lv_aload_n hx hb dX2_put_22 rfl (lv_at hl 0 rfl) ?_
      refine va_get (D := (dC, dI)) (ci := 2) (v := .ref qa) (C := RX2) (T := TX2) (N := 8) hx hb hts inX2 hown hK hP 0 rfl rfl 0 (by decide) (hts _ k60) (fun _ h9 => h9) rfl dX2_put_23 ?_
      refine lv_iload_n hx hb dX2_put_26 rfl (lv_at hl 1 rfl) ?_
      refine aaK (v := .ref (fa t)) hx hb hK hP 1 1 rfl rfl (t) (et) (by omega) rfl dX2_put_27 ?_
      refine lv_iload_n hx hb dX2_put_28 rfl (lv_at hl 2 rfl) ?_
      refine lv_iload_n hx hb dX2_put_29 rfl (lv_at hl 3 rfl) ?_
      refine cJ2_v (S := Int32) (f1 := fun _ => .inr (0, [.int (wd t), .int (ht t), .int (rw t), .ref (ar t)])) (f2 := fun u => .inl (cI, ln t, .inl (upd (g t) i.toInt.toNat u))) (bf := fun _ => ar t) (5 + t) (9 + t) (by omega) (wb_o h4t) (wb_a h4t) (va_runV (As := [.int i, .int v]) (rest := []) ⟨hx, hb, hml, hown, hts⟩ (mX0_writeWord l i v (by omega) (by omega) (by omega)) (cwV 2 hts (gA (m4 k125 k126 k127 k2) k128) rfl rfl rfl (by decide +kernel) ⟨Nat.le_of_ble_eq_true rfl, Nat.le_of_ble_eq_true rfl⟩) (pr2 (by omega : 5 + t ≠ 9 + t) hP hK hNS hD rfl (wb_o h4t) (wb_a h4t)) rfl rfl hl.1 rfl (lv_room (Nat.le_of_ble_eq_true rfl)) dX2_put_30 ⟨Nat.le_of_ble_eq_true rfl, Nat.le_of_ble_eq_true rfl⟩) hP hD hS hA (fun r6 H locs hwr6 hP hD hS => ?_)
      rw [wb_put h4t] at hP hD
      have hP : va_P (dC, dI) vwCl (w_bc h0 qa qn qx qy cI cF fa ar ln wd ht rw (va_up g t (upd (g t) i.toInt.toNat r6)) nu X Y tg so pa ru) H := hP
      have hD : va_D A (w_bc h0 qa qn qx qy cI cF fa ar ln wd ht rw (va_up g t (upd (g t) i.toInt.toNat r6)) nu X Y tg so pa ru) := hD
      refine lv_iconst (v := 1) hx hb dX2_put_33 (by decide) ?_
      refine lv_topi (fun r7 er7 => ?_)
      have hr7 : r7.toInt = (1 : Int) := by rw [er7]; exact (by decide : (1 : Int32).toInt = (1 : Int))
      exact W.zret (ty := .boolean) (v := r7) hx hb hr (nar_b (by omega)) (fun t9 ht9 hW9 => ⟨⟨r7, (va_up g t (upd (g t) i.toInt.toNat r6)), rfl, Or.inr ⟨t, et, h4t, by omega, by omega, by omega, hR.put h4t (by omega) (by rw [Int.toNat_of_nonneg (by omega)]; exact hwr6)⟩, by rw [ht9]; exact hP, va_K.moved hW9.alike hK, hD⟩, hS.F ht9⟩) hS.2.2 dX2_put_34
    · replace c5 := (ti_eq rfl (by decide : (0 : Int32).toInt = (0 : Int))).mp c5
      refine lv_iconst (v := 0) hx hb dX2_put_20 (by decide) ?_
      refine lv_topi (fun r8 er8 => ?_)
      have hr8 : r8.toInt = (0 : Int) := by rw [er8]; exact (by decide : (0 : Int32).toInt = (0 : Int))
      exact W.zret (ty := .boolean) (v := r8) hx hb hr (nar_b (by omega)) (fun t9 ht9 hW9 => ⟨⟨r8, g, rfl, Or.inl ⟨by omega, rfl, Or.inr ⟨t, et, h4t, by omega⟩⟩, by rw [ht9]; exact hP, va_K.moved hW9.alike hK, hD⟩, hS.F ht9⟩) hS.2.2 dX2_put_21
set_option maxHeartbeats 8000000 in
set_option maxRecDepth 100000 in
theorem mX2_copy (l : Launch) {dC : Nat → ClassId} {dI : Nat → Nat → Nat} {sz : Nat} {h0 qa qn qx qy : Nat} {cI cF : ClassId} {fa ar ln : Nat → Nat} {wd ht rw : Nat → Int32} {g : Nat → Nat → Int32} {nu : Nat → Int32} {X Y : Int32 × Int32 × Int32} {tg : Nat} {so pa : Option Nat} {ru : Int32} {wN hN : Nat → Nat} {Bt : Nat → Nat → Nat → Bool} {nz : Nat → Int} (hR : RC wN hN Bt nz tg so pa ru ln wd ht rw g nu) : Met l yX2_copy (wM yX2_copy cX2_copy 1 (some .int)) ({ frames := 5, cells := 0, slots := 0, locals := 122 }) (va_Pc [.ref h0] (wP (dC, dI) vwCl (tyB cI cF) (w_bc h0 qa qn qx qy cI cF fa ar ln wd ht rw g nu X Y tg so pa ru) sz)) (va_Qi (fun (r : Int32) (u : (Int32 × Int32 × Int32) × (Int32 × Int32 × Int32) × (Nat → Nat → Int32)) => (∃ q, pa = some q ∧ ¬ (wN q = 16 ∧ hN q = 16) ∧ r.toInt = -1 ∧ u = (X, Y, g)) ∨ ((∀ q, pa = some q → wN q = 16 ∧ hN q = 16) ∧ r.toInt = cnA wN hN nz tg so ∧ RC wN hN (cpA wN hN nz tg so pa ru Bt) nz tg so pa ru ln wd ht rw u.2.2 nu)) (wB (dC, dI) vwCl (va_A (w_bc h0 qa qn qx qy cI cF fa ar ln wd ht rw g nu X Y tg so pa ru) sz) (fun u : (Int32 × Int32 × Int32) × (Int32 × Int32 × Int32) × (Nat → Nat → Int32) => (tyB cI cF)) (fun u : (Int32 × Int32 × Int32) × (Int32 × Int32 × Int32) × (Nat → Nat → Int32) => (w_bc h0 qa qn qx qy cI cF fa ar ln wd ht rw u.2.2 nu u.1 u.2.1 tg so pa ru))) (va_A (w_bc h0 qa qn qx qy cI cF fa ar ln wd ht rw g nu X Y tg so pa ru) sz)) 0 0 (va_A (w_bc h0 qa qn qx qy cI cF fa ar ln wd ht rw g nu X Y tg so pa ru) sz) := by
  refine Met.ofW (cc := cX2_copy) (maxL := 1) (ret := (some .int)) (by decide +kernel) rfl ?_
  intro p e s m args below meth c s₁ B hml hv
  obtain ⟨rfl, hsz, hP, hK, hD0, hNS⟩ := hv
  have hx := B.exec
  have hb := B.bytes
  have hr := B.returns
  have hts : ∀ w ∈ tblG, w.before _ s = true := fun w h => atoms_spec (ws := wM yX2_copy cX2_copy 1 (some .int)) B.pre w (List.mem_cons_of_mem _ h)
  have hown : s.vm.findClass RX2 = some m.cls := findClass_of_methodNamed B.named
  have hlocks := B.notSynchronized
  subst hsz
  have hD := hD0.self (sz := s.heap.size)
  generalize hAe : va_A (w_bc h0 qa qn qx qy cI cF fa ar ln wd ht rw g nu X Y tg so pa ru) s.heap.size = A at hD ⊢
  have hA : ∀ q : Nat, s.heap.size ≤ q → A q := fun q h => by rw [← hAe]; exact Or.inr h
  have hS : va_S A s.heap s.heap [] := va_S.rf
  have hP : va_P (dC, dI) vwCl (w_bc h0 qa qn qx qy cI cF fa ar ln wd ht rw g nu X Y tg so pa ru) s.heap := hP
  have hl := lv_entry ([.ref h0]) (n := 1) (Nat.le_of_ble_eq_true rfl)
  rw [lg_entry_eq]
  generalize (lg_sl ([.ref h0]) ++ List.replicate (1 - (lg_sl ([.ref h0])).length) Slot.unset).toArray = ls at hl ⊢
  have hl : lv_has ls 1 [(0, .ref h0)] := hl
  obtain ⟨hF, hnu, htg, hso, hpa, hr1, hr2⟩ := id hR
  rcases pa with _ | pv
  · have hpp : ∀ q, (none : Option Nat) = some q → wN q = 16 ∧ hN q = 16 := fun q h => by cases h
    refine lv_aload_n hx hb dX2_copy_0 rfl (lv_at hl 0 rfl) ?_
    refine va_get (D := (dC, dI)) (ci := 2) (v := .null) (C := RX2) (T := TX2) (N := 8) hx hb hts inX2 hown hK hP 0 rfl rfl 6 (by decide) (hts _ k66) (fun _ h9 => h9) rfl dX2_copy_1 ?_
    refine vp_callSi (va_Run.run (va_runS (As := [.null]) (rest := []) ⟨hx, hb, hml, hown, hts⟩ (mX2_fits_n l) (va_cwS 1 hts (gA (m3 k184 k185 k1) k186) rfl rfl rfl (by decide +kernel) ⟨Nat.le_of_ble_eq_true rfl, Nat.le_of_ble_eq_true rfl⟩) (prR hP hK hNS) rfl rfl hl.1 rfl (lv_room (Nat.le_of_ble_eq_true rfl)) dX2_copy_4 ⟨Nat.le_of_ble_eq_true rfl, Nat.le_of_ble_eq_true rfl⟩)) (fun r1 hwr1 => ?_)
    try dsimp only at hwr1
    refine lv_if_eq (tgt := 17) hx hb dX2_copy_7 (by decide) (fun c2 => ?_) (fun c2 => ?_)
    · replace c2 := (ti_eq rfl (by decide : (0 : Int32).toInt = (0 : Int))).mp c2
      refine lv_iconst (v := (-1)) hx hb dX2_copy_17 (by decide) ?_
      refine lv_topi (fun r3 er3 => ?_)
      have hr3 : r3.toInt = (-1 : Int) := by rw [er3]; exact (by decide : (-1 : Int32).toInt = (-1 : Int))
      exact W.iret (v := r3) hx hb hr (fun t9 ht9 hW9 => ⟨⟨r3, (X, Y, g), rfl, False.elim (by omega), by rw [ht9]; exact hP, va_K.moved hW9.alike hK, hD⟩, hS.F ht9⟩) hS.2.2 dX2_copy_18
    · replace c2 := mt (ti_eq rfl (by decide : (0 : Int32).toInt = (0 : Int))).mpr c2
      refine lv_aload_n hx hb dX2_copy_10 rfl (lv_at hl 0 rfl) ?_
      refine cW_i (S := (Int32 × Int32 × Int32) × (Int32 × Int32 × Int32) × (Nat → Nat → Int32)) (va_runV (As := []) (rest := []) ⟨hx, hb, hml, hown, hts⟩ (mX2_copyBits l hR hpp) (cwV 0 hts (gA (m4 k209 k211 ksel1 k1) k212) rfl rfl rfl (by decide +kernel) ⟨Nat.le_of_ble_eq_true rfl, Nat.le_of_ble_eq_true rfl⟩) (prWV hP hK hNS hD rfl (show (w_bc h0 qa qn qx qy cI cF fa ar ln wd ht rw g nu X Y tg so none ru)[0]? = some (h0, .inr (2, [.ref qa, .ref qn, .ref qx, .ref qy, .ref (fa tg), va_rf (so.map fa), .null, .int ru])) from rfl)) rfl rfl hl.1 rfl (lv_room (Nat.le_of_ble_eq_true rfl)) dX2_copy_11 ⟨Nat.le_of_ble_eq_true rfl, Nat.le_of_ble_eq_true rfl⟩) hD hS hA (fun r4 ur4 H locs hwr4 hP hK hD hS => ?_)
      obtain ⟨r4X, r4Y, r4G⟩ := ur4
      dsimp only at hwr4
      have hP : va_P (dC, dI) vwCl (w_bc h0 qa qn qx qy cI cF fa ar ln wd ht rw r4G nu r4X r4Y tg so none ru) H := hP
      have hD : va_D A (w_bc h0 qa qn qx qy cI cF fa ar ln wd ht rw r4G nu r4X r4Y tg so none ru) := hD
      refine lv_goto (tgt := 18) hx hb dX2_copy_14 (by decide) ?_
      exact W.iret (v := r4) hx hb hr (fun t9 ht9 hW9 => ⟨⟨r4, (r4X, r4Y, r4G), rfl, Or.inr ⟨hpp, hwr4.1, hwr4.2⟩, by rw [ht9]; exact hP, va_K.moved hW9.alike hK, hD⟩, hS.F ht9⟩) hS.2.2 dX2_copy_18
  · have h4p := hpa pv rfl
    obtain ⟨fw_pv, fh_pv, fr_pv, f1_pv, f2_pv, f3_pv, f4_pv, f5_pv, f6_pv, f7_pv, fB_pv⟩ := hF pv h4p
    have frd_pv : rN wN pv = (wN pv + 15) / 16 := rfl
    refine lv_aload_n hx hb dX2_copy_0 rfl (lv_at hl 0 rfl) ?_
    refine va_get (D := (dC, dI)) (ci := 2) (v := .ref (fa pv)) (C := RX2) (T := TX2) (N := 8) hx hb hts inX2 hown hK hP 0 rfl rfl 6 (by decide) (hts _ k66) (fun _ h9 => h9) rfl dX2_copy_1 ?_
    refine vp_callSi (va_Run.run (va_runS (As := [.ref (fa pv)]) (rest := []) ⟨hx, hb, hml, hown, hts⟩ (mX2_fits_r l (wb_o h4p)) (va_cwS 1 hts (gA (m3 k184 k185 k1) k186) rfl rfl rfl (by decide +kernel) ⟨Nat.le_of_ble_eq_true rfl, Nat.le_of_ble_eq_true rfl⟩) (prR hP hK hNS) rfl rfl hl.1 rfl (lv_room (Nat.le_of_ble_eq_true rfl)) dX2_copy_4 ⟨Nat.le_of_ble_eq_true rfl, Nat.le_of_ble_eq_true rfl⟩)) (fun r5 hwr5 => ?_)
    try dsimp only at hwr5
    refine lv_if_eq (tgt := 17) hx hb dX2_copy_7 (by decide) (fun c6 => ?_) (fun c6 => ?_)
    · replace c6 := (ti_eq rfl (by decide : (0 : Int32).toInt = (0 : Int))).mp c6
      refine lv_iconst (v := (-1)) hx hb dX2_copy_17 (by decide) ?_
      refine lv_topi (fun r7 er7 => ?_)
      have hr7 : r7.toInt = (-1 : Int) := by rw [er7]; exact (by decide : (-1 : Int32).toInt = (-1 : Int))
      exact W.iret (v := r7) hx hb hr (fun t9 ht9 hW9 => ⟨⟨r7, (X, Y, g), rfl, Or.inl ⟨pv, rfl, fun q => by omega, by omega, rfl⟩, by rw [ht9]; exact hP, va_K.moved hW9.alike hK, hD⟩, hS.F ht9⟩) hS.2.2 dX2_copy_18
    · replace c6 := mt (ti_eq rfl (by decide : (0 : Int32).toInt = (0 : Int))).mpr c6
      refine lv_aload_n hx hb dX2_copy_10 rfl (lv_at hl 0 rfl) ?_
      have hpp : ∀ q, some pv = some q → wN q = 16 ∧ hN q = 16 := fun q h => by cases h; omega
      refine cW_i (S := (Int32 × Int32 × Int32) × (Int32 × Int32 × Int32) × (Nat → Nat → Int32)) (va_runV (As := []) (rest := []) ⟨hx, hb, hml, hown, hts⟩ (mX2_copyBits l hR hpp) (cwV 0 hts (gA (m4 k209 k211 ksel1 k1) k212) rfl rfl rfl (by decide +kernel) ⟨Nat.le_of_ble_eq_true rfl, Nat.le_of_ble_eq_true rfl⟩) (prWV hP hK hNS hD rfl (show (w_bc h0 qa qn qx qy cI cF fa ar ln wd ht rw g nu X Y tg so (some pv) ru)[0]? = some (h0, .inr (2, [.ref qa, .ref qn, .ref qx, .ref qy, .ref (fa tg), va_rf (so.map fa), .ref (fa pv), .int ru])) from rfl)) rfl rfl hl.1 rfl (lv_room (Nat.le_of_ble_eq_true rfl)) dX2_copy_11 ⟨Nat.le_of_ble_eq_true rfl, Nat.le_of_ble_eq_true rfl⟩) hD hS hA (fun r8 ur8 H locs hwr8 hP hK hD hS => ?_)
      obtain ⟨r8X, r8Y, r8G⟩ := ur8
      dsimp only at hwr8
      have hP : va_P (dC, dI) vwCl (w_bc h0 qa qn qx qy cI cF fa ar ln wd ht rw r8G nu r8X r8Y tg so (some pv) ru) H := hP
      have hD : va_D A (w_bc h0 qa qn qx qy cI cF fa ar ln wd ht rw r8G nu r8X r8Y tg so (some pv) ru) := hD
      refine lv_goto (tgt := 18) hx hb dX2_copy_14 (by decide) ?_
      exact W.iret (v := r8) hx hb hr (fun t9 ht9 hW9 => ⟨⟨r8, (r8X, r8Y, r8G), rfl, Or.inr ⟨hpp, hwr8.1, hwr8.2⟩, by rw [ht9]; exact hP, va_K.moved hW9.alike hK, hD⟩, hS.F ht9⟩) hS.2.2 dX2_copy_18
set_option maxHeartbeats 8000000 in
set_option maxRecDepth 100000 in
theorem mX2_line (l : Launch) {dC : Nat → ClassId} {dI : Nat → Nat → Nat} {sz : Nat} {h0 qa qn qx qy : Nat} {cI cF : ClassId} {fa ar ln : Nat → Nat} {wd ht rw : Nat → Int32} {g : Nat → Nat → Int32} {nu : Nat → Int32} {X Y : Int32 × Int32 × Int32} {tg : Nat} {so pa : Option Nat} {ru : Int32} {wN hN : Nat → Nat} {Bt : Nat → Nat → Nat → Bool} {nz : Nat → Int} (dx : Int32) (dy : Int32) (hR : RC wN hN Bt nz tg so pa ru ln wd ht rw g nu) : Met l yX2_line (wM yX2_line cX2_line 3 (some .int)) ({ frames := 6, cells := 0, slots := 0, locals := 149 }) (va_Pc [.ref h0, .int dx, .int dy] (wP (dC, dI) vwCl (tyB cI cF) (w_bc h0 qa qn qx qy cI cF fa ar ln wd ht rw g nu X Y tg so pa ru) sz)) (va_Qi (fun (r : Int32) (u : (Nat → Int32) × (Int32 × Int32 × Int32) × (Int32 × Int32 × Int32) × (Nat → Nat → Int32)) => (r.toInt = -1 ∧ u = (nu, X, Y, g) ∧ ((dx.toInt < -2000 ∨ 2000 < dx.toInt ∨ dy.toInt < -2000 ∨ 2000 < dy.toInt) ∨ ∃ q, pa = some q ∧ ¬ (wN q = 16 ∧ hN q = 16))) ∨ ((-2000 ≤ dx.toInt ∧ dx.toInt ≤ 2000) ∧ (-2000 ≤ dy.toInt ∧ dy.toInt ≤ 2000) ∧ (∀ q, pa = some q → wN q = 16 ∧ hN q = 16) ∧ ((max dy.toInt (-dy.toInt) < max dx.toInt (-dx.toInt) ∧ r = (lnA wN hN tg so pa ru 0 dx.toInt dy.toInt nz Bt).2.2 ∧ RC wN hN (lnA wN hN tg so pa ru 0 dx.toInt dy.toInt nz Bt).2.1 (lnA wN hN tg so pa ru 0 dx.toInt dy.toInt nz Bt).1 tg so pa ru ln wd ht rw u.2.2.2 u.1) ∨ (¬ max dy.toInt (-dy.toInt) < max dx.toInt (-dx.toInt) ∧ r = (lnA wN hN tg so pa ru 1 dy.toInt dx.toInt nz Bt).2.2 ∧ RC wN hN (lnA wN hN tg so pa ru 1 dy.toInt dx.toInt nz Bt).2.1 (lnA wN hN tg so pa ru 1 dy.toInt dx.toInt nz Bt).1 tg so pa ru ln wd ht rw u.2.2.2 u.1)))) (wB (dC, dI) vwCl (va_A (w_bc h0 qa qn qx qy cI cF fa ar ln wd ht rw g nu X Y tg so pa ru) sz) (fun u : (Nat → Int32) × (Int32 × Int32 × Int32) × (Int32 × Int32 × Int32) × (Nat → Nat → Int32) => (tyB cI cF)) (fun u : (Nat → Int32) × (Int32 × Int32 × Int32) × (Int32 × Int32 × Int32) × (Nat → Nat → Int32) => (w_bc h0 qa qn qx qy cI cF fa ar ln wd ht rw u.2.2.2 u.1 u.2.1 u.2.2.1 tg so pa ru))) (va_A (w_bc h0 qa qn qx qy cI cF fa ar ln wd ht rw g nu X Y tg so pa ru) sz)) 0 0 (va_A (w_bc h0 qa qn qx qy cI cF fa ar ln wd ht rw g nu X Y tg so pa ru) sz) := by
  refine Met.ofW (cc := cX2_line) (maxL := 3) (ret := (some .int)) (by decide +kernel) rfl ?_
  intro p e s m args below meth c s₁ B hml hv
  obtain ⟨rfl, hsz, hP, hK, hD0, hNS⟩ := hv
  have hx := B.exec
  have hb := B.bytes
  have hr := B.returns
  have hts : ∀ w ∈ tblG, w.before _ s = true := fun w h => atoms_spec (ws := wM yX2_line cX2_line 3 (some .int)) B.pre w (List.mem_cons_of_mem _ h)
  have hown : s.vm.findClass RX2 = some m.cls := findClass_of_methodNamed B.named
  have hlocks := B.notSynchronized
  subst hsz
  have hD := hD0.self (sz := s.heap.size)
  generalize hAe : va_A (w_bc h0 qa qn qx qy cI cF fa ar ln wd ht rw g nu X Y tg so pa ru) s.heap.size = A at hD ⊢
  have hA : ∀ q : Nat, s.heap.size ≤ q → A q := fun q h => by rw [← hAe]; exact Or.inr h
  have hS : va_S A s.heap s.heap [] := va_S.rf
  have hP : va_P (dC, dI) vwCl (w_bc h0 qa qn qx qy cI cF fa ar ln wd ht rw g nu X Y tg so pa ru) s.heap := hP
  have hl := lv_entry ([.ref h0, .int dx, .int dy]) (n := 3) (Nat.le_of_ble_eq_true rfl)
  rw [lg_entry_eq]
  generalize (lg_sl ([.ref h0, .int dx, .int dy]) ++ List.replicate (3 - (lg_sl ([.ref h0, .int dx, .int dy])).length) Slot.unset).toArray = ls at hl ⊢
  have hl : lv_has ls 3 [(0, .ref h0), (1, .int dx), (2, .int dy)] := hl
  obtain ⟨hF, hnu, htg, hso, hpa, hr1, hr2⟩ := id hR
  rcases pa with _ | pv
  · have hpp : ∀ q, (none : Option Nat) = some q → wN q = 16 ∧ hN q = 16 := fun q h => by cases h
    refine lv_iload_n hx hb dX2_line_0 rfl (lv_at hl 1 rfl) ?_
    refine vp_callSi (va_Run.run (va_runS (As := [.int dx]) (rest := []) ⟨hx, hb, hml, hown, hts⟩ (mX2_isWay l dx) (va_cwS 1 hts (gA (m3 k267 k268 k1) k269) rfl rfl rfl (by decide +kernel) ⟨Nat.le_of_ble_eq_true rfl, Nat.le_of_ble_eq_true rfl⟩) (prT) rfl rfl hl.1 rfl (lv_room (Nat.le_of_ble_eq_true rfl)) dX2_line_1 ⟨Nat.le_of_ble_eq_true rfl, Nat.le_of_ble_eq_true rfl⟩)) (fun r1 hwr1 => ?_)
    try dsimp only at hwr1
    refine lv_if_eq (tgt := 24) hx hb dX2_line_4 (by decide) (fun c2 => ?_) (fun c2 => ?_)
    · replace c2 := (ti_eq rfl (by decide : (0 : Int32).toInt = (0 : Int))).mp c2
      refine lv_iconst (v := (-1)) hx hb dX2_line_24 (by decide) ?_
      refine lv_topi (fun r3 er3 => ?_)
      have hr3 : r3.toInt = (-1 : Int) := by rw [er3]; exact (by decide : (-1 : Int32).toInt = (-1 : Int))
      exact W.iret (v := r3) hx hb hr (fun t9 ht9 hW9 => ⟨⟨r3, (nu, X, Y, g), rfl, Or.inl ⟨by omega, rfl, Or.inl (by omega)⟩, by rw [ht9]; exact hP, va_K.moved hW9.alike hK, hD⟩, hS.F ht9⟩) hS.2.2 dX2_line_25
    · replace c2 := mt (ti_eq rfl (by decide : (0 : Int32).toInt = (0 : Int))).mpr c2
      refine lv_iload_n hx hb dX2_line_7 rfl (lv_at hl 2 rfl) ?_
      refine vp_callSi (va_Run.run (va_runS (As := [.int dy]) (rest := []) ⟨hx, hb, hml, hown, hts⟩ (mX2_isWay l dy) (va_cwS 1 hts (gA (m3 k267 k268 k1) k269) rfl rfl rfl (by decide +kernel) ⟨Nat.le_of_ble_eq_true rfl, Nat.le_of_ble_eq_true rfl⟩) (prT) rfl rfl hl.1 rfl (lv_room (Nat.le_of_ble_eq_true rfl)) dX2_line_8 ⟨Nat.le_of_ble_eq_true rfl, Nat.le_of_ble_eq_true rfl⟩)) (fun r4 hwr4 => ?_)
      try dsimp only at hwr4
      refine lv_if_eq (tgt := 24) hx hb dX2_line_11 (by decide) (fun c5 => ?_) (fun c5 => ?_)
      · replace c5 := (ti_eq rfl (by decide : (0 : Int32).toInt = (0 : Int))).mp c5
        refine lv_iconst (v := (-1)) hx hb dX2_line_24 (by decide) ?_
        refine lv_topi (fun r6 er6 => ?_)
        have hr6 : r6.toInt = (-1 : Int) := by rw [er6]; exact (by decide : (-1 : Int32).toInt = (-1 : Int))
        exact W.iret (v := r6) hx hb hr (fun t9 ht9 hW9 => ⟨⟨r6, (nu, X, Y, g), rfl, Or.inl ⟨by omega, rfl, Or.inl (by omega)⟩, by rw [ht9]; exact hP, va_K.moved hW9.alike hK, hD⟩, hS.F ht9⟩) hS.2.2 dX2_line_25
      · replace c5 := mt (ti_eq rfl (by decide : (0 : Int32).toInt = (0 : Int))).mpr c5
        refine lv_aload_n hx hb dX2_line_14 rfl (lv_at hl 0 rfl) ?_
        refine va_get (D := (dC, dI)) (ci := 2) (v := .null) (C := RX2) (T := TX2) (N := 8) hx hb hts inX2 hown hK hP 0 rfl rfl 6 (by decide) (hts _ k66) (fun _ h9 => h9) rfl dX2_line_15 ?_
        refine vp_callSi (va_Run.run (va_runS (As := [.null]) (rest := []) ⟨hx, hb, hml, hown, hts⟩ (mX2_fits_n l) (va_cwS 1 hts (gA (m3 k184 k185 k1) k186) rfl rfl rfl (by decide +kernel) ⟨Nat.le_of_ble_eq_true rfl, Nat.le_of_ble_eq_true rfl⟩) (prR hP hK hNS) rfl rfl hl.1 rfl (lv_room (Nat.le_of_ble_eq_true rfl)) dX2_line_18 ⟨Nat.le_of_ble_eq_true rfl, Nat.le_of_ble_eq_true rfl⟩)) (fun r7 hwr7 => ?_)
        try dsimp only at hwr7
        refine lv_if_ne (tgt := 26) hx hb dX2_line_21 (by decide) (fun c8 => ?_) (fun c8 => ?_)
        · replace c8 := mt (ti_eq rfl (by decide : (0 : Int32).toInt = (0 : Int))).mpr c8
          refine lv_iload_n hx hb dX2_line_26 rfl (lv_at hl 1 rfl) ?_
          refine va_mabs hx hb (hml.trans hl.1.symm) hown (hts _ k270) (hts _ k271) (hts _ k5) (hts _ k272) (Nat.le_of_ble_eq_true rfl) (Nat.le_of_ble_eq_true rfl) (Nat.le_of_ble_eq_true rfl) (Nat.le_of_ble_eq_true rfl) dX2_line_27 ?_
          refine lv_topi (fun x9 ex9 => ?_)
          have hx9 : x9.toInt = max (dx.toInt) (-(dx.toInt)) := by rw [ex9]; exact ti_abs rfl (by omega)
          refine lv_iload_n hx hb dX2_line_30 rfl (lv_at hl 2 rfl) ?_
          refine va_mabs hx hb (hml.trans hl.1.symm) hown (hts _ k270) (hts _ k271) (hts _ k5) (hts _ k272) (Nat.le_of_ble_eq_true rfl) (Nat.le_of_ble_eq_true rfl) (Nat.le_of_ble_eq_true rfl) (Nat.le_of_ble_eq_true rfl) dX2_line_31 ?_
          refine lv_topi (fun x10 ex10 => ?_)
          have hx10 : x10.toInt = max (dy.toInt) (-(dy.toInt)) := by rw [ex10]; exact ti_abs rfl (by omega)
          refine lv_icmp_le (tgt := 45) hx hb dX2_line_34 (by decide) (fun c11 => ?_) (fun c11 => ?_)
          · replace c11 := (ti_le rfl rfl).mp c11
            refine lv_aload_n hx hb dX2_line_45 rfl (lv_at hl 0 rfl) ?_
            refine lv_iconst (v := 1) hx hb dX2_line_46 (by decide) ?_
            refine lv_iload_n hx hb dX2_line_47 rfl (lv_at hl 2 rfl) ?_
            refine lv_iload_n hx hb dX2_line_48 rfl (lv_at hl 1 rfl) ?_
            have hk_1 : (1 : Int32).toInt = (1 : Int) := by decide
            refine cW_i (S := (Nat → Int32) × (Int32 × Int32 × Int32) × (Int32 × Int32 × Int32) × (Nat → Nat → Int32)) (va_runV (As := [.int (1 : Int32), .int dy, .int dx]) (rest := []) ⟨hx, hb, hml, hown, hts⟩ (mX2_drawAlong l (1 : Int32) dy dx hR hpp (an := 1) (by decide) (by decide) (by omega) (by omega) (by omega)) (cwV 3 hts (gA (m4 k273 k275 ksel7 k1) k276) rfl rfl rfl (by decide +kernel) ⟨Nat.le_of_ble_eq_true rfl, Nat.le_of_ble_eq_true rfl⟩) (prWV hP hK hNS hD rfl (show (w_bc h0 qa qn qx qy cI cF fa ar ln wd ht rw g nu X Y tg so none ru)[0]? = some (h0, .inr (2, [.ref qa, .ref qn, .ref qx, .ref qy, .ref (fa tg), va_rf (so.map fa), .null, .int ru])) from rfl)) rfl rfl hl.1 rfl (lv_room (Nat.le_of_ble_eq_true rfl)) dX2_line_49 ⟨Nat.le_of_ble_eq_true rfl, Nat.le_of_ble_eq_true rfl⟩) hD hS hA (fun r12 ur12 H locs hwr12 hP hK hD hS => ?_)
            obtain ⟨nr12, Xr12, Yr12, gr12⟩ := ur12
            dsimp only at hwr12
            have hP : va_P (dC, dI) vwCl (w_bc h0 qa qn qx qy cI cF fa ar ln wd ht rw gr12 nr12 Xr12 Yr12 tg so none ru) H := hP
            have hD : va_D A (w_bc h0 qa qn qx qy cI cF fa ar ln wd ht rw gr12 nr12 Xr12 Yr12 tg so none ru) := hD
            exact W.iret (v := r12) hx hb hr (fun t9 ht9 hW9 => ⟨⟨r12, (nr12, Xr12, Yr12, gr12), rfl, Or.inr ⟨by omega, by omega, hpp, Or.inr ⟨by omega, hwr12.1, hwr12.2⟩⟩, by rw [ht9]; exact hP, va_K.moved hW9.alike hK, hD⟩, hS.F ht9⟩) hS.2.2 dX2_line_52
          · replace c11 := mt (ti_le rfl rfl).mpr c11
            refine lv_aload_n hx hb dX2_line_37 rfl (lv_at hl 0 rfl) ?_
            refine lv_iconst (v := 0) hx hb dX2_line_38 (by decide) ?_
            refine lv_iload_n hx hb dX2_line_39 rfl (lv_at hl 1 rfl) ?_
            refine lv_iload_n hx hb dX2_line_40 rfl (lv_at hl 2 rfl) ?_
            have hk_0 : (0 : Int32).toInt = (0 : Int) := by decide
            refine cW_i (S := (Nat → Int32) × (Int32 × Int32 × Int32) × (Int32 × Int32 × Int32) × (Nat → Nat → Int32)) (va_runV (As := [.int (0 : Int32), .int dx, .int dy]) (rest := []) ⟨hx, hb, hml, hown, hts⟩ (mX2_drawAlong l (0 : Int32) dx dy hR hpp (an := 0) (by decide) (by decide) (by omega) (by omega) (by omega)) (cwV 3 hts (gA (m4 k273 k275 ksel7 k1) k276) rfl rfl rfl (by decide +kernel) ⟨Nat.le_of_ble_eq_true rfl, Nat.le_of_ble_eq_true rfl⟩) (prWV hP hK hNS hD rfl (show (w_bc h0 qa qn qx qy cI cF fa ar ln wd ht rw g nu X Y tg so none ru)[0]? = some (h0, .inr (2, [.ref qa, .ref qn, .ref qx, .ref qy, .ref (fa tg), va_rf (so.map fa), .null, .int ru])) from rfl)) rfl rfl hl.1 rfl (lv_room (Nat.le_of_ble_eq_true rfl)) dX2_line_41 ⟨Nat.le_of_ble_eq_true rfl, Nat.le_of_ble_eq_true rfl⟩) hD hS hA (fun r13 ur13 H locs hwr13 hP hK hD hS => ?_)
            obtain ⟨nr13, Xr13, Yr13, gr13⟩ := ur13
            dsimp only at hwr13
            have hP : va_P (dC, dI) vwCl (w_bc h0 qa qn qx qy cI cF fa ar ln wd ht rw gr13 nr13 Xr13 Yr13 tg so none ru) H := hP
            have hD : va_D A (w_bc h0 qa qn qx qy cI cF fa ar ln wd ht rw gr13 nr13 Xr13 Yr13 tg so none ru) := hD
            exact W.iret (v := r13) hx hb hr (fun t9 ht9 hW9 => ⟨⟨r13, (nr13, Xr13, Yr13, gr13), rfl, Or.inr ⟨by omega, by omega, hpp, Or.inl ⟨by omega, hwr13.1, hwr13.2⟩⟩, by rw [ht9]; exact hP, va_K.moved hW9.alike hK, hD⟩, hS.F ht9⟩) hS.2.2 dX2_line_44
        · replace c8 := (ti_eq rfl (by decide : (0 : Int32).toInt = (0 : Int))).mp c8
          refine lv_iconst (v := (-1)) hx hb dX2_line_24 (by decide) ?_
          refine lv_topi (fun r14 er14 => ?_)
          have hr14 : r14.toInt = (-1 : Int) := by rw [er14]; exact (by decide : (-1 : Int32).toInt = (-1 : Int))
          exact W.iret (v := r14) hx hb hr (fun t9 ht9 hW9 => ⟨⟨r14, (nu, X, Y, g), rfl, Or.inl ⟨by omega, rfl, Or.inl (by omega)⟩, by rw [ht9]; exact hP, va_K.moved hW9.alike hK, hD⟩, hS.F ht9⟩) hS.2.2 dX2_line_25
  · have h4p := hpa pv rfl
    obtain ⟨fw_pv, fh_pv, fr_pv, f1_pv, f2_pv, f3_pv, f4_pv, f5_pv, f6_pv, f7_pv, fB_pv⟩ := hF pv h4p
    have frd_pv : rN wN pv = (wN pv + 15) / 16 := rfl
    refine lv_iload_n hx hb dX2_line_0 rfl (lv_at hl 1 rfl) ?_
    refine vp_callSi (va_Run.run (va_runS (As := [.int dx]) (rest := []) ⟨hx, hb, hml, hown, hts⟩ (mX2_isWay l dx) (va_cwS 1 hts (gA (m3 k267 k268 k1) k269) rfl rfl rfl (by decide +kernel) ⟨Nat.le_of_ble_eq_true rfl, Nat.le_of_ble_eq_true rfl⟩) (prT) rfl rfl hl.1 rfl (lv_room (Nat.le_of_ble_eq_true rfl)) dX2_line_1 ⟨Nat.le_of_ble_eq_true rfl, Nat.le_of_ble_eq_true rfl⟩)) (fun r15 hwr15 => ?_)
    try dsimp only at hwr15
    refine lv_if_eq (tgt := 24) hx hb dX2_line_4 (by decide) (fun c16 => ?_) (fun c16 => ?_)
    · replace c16 := (ti_eq rfl (by decide : (0 : Int32).toInt = (0 : Int))).mp c16
      refine lv_iconst (v := (-1)) hx hb dX2_line_24 (by decide) ?_
      refine lv_topi (fun r17 er17 => ?_)
      have hr17 : r17.toInt = (-1 : Int) := by rw [er17]; exact (by decide : (-1 : Int32).toInt = (-1 : Int))
      exact W.iret (v := r17) hx hb hr (fun t9 ht9 hW9 => ⟨⟨r17, (nu, X, Y, g), rfl, Or.inl ⟨by omega, rfl, by first | exact Or.inl (by omega) | exact Or.inr ⟨pv, rfl, fun q => by omega⟩⟩, by rw [ht9]; exact hP, va_K.moved hW9.alike hK, hD⟩, hS.F ht9⟩) hS.2.2 dX2_line_25
    · replace c16 := mt (ti_eq rfl (by decide : (0 : Int32).toInt = (0 : Int))).mpr c16
      refine lv_iload_n hx hb dX2_line_7 rfl (lv_at hl 2 rfl) ?_
      refine vp_callSi (va_Run.run (va_runS (As := [.int dy]) (rest := []) ⟨hx, hb, hml, hown, hts⟩ (mX2_isWay l dy) (va_cwS 1 hts (gA (m3 k267 k268 k1) k269) rfl rfl rfl (by decide +kernel) ⟨Nat.le_of_ble_eq_true rfl, Nat.le_of_ble_eq_true rfl⟩) (prT) rfl rfl hl.1 rfl (lv_room (Nat.le_of_ble_eq_true rfl)) dX2_line_8 ⟨Nat.le_of_ble_eq_true rfl, Nat.le_of_ble_eq_true rfl⟩)) (fun r18 hwr18 => ?_)
      try dsimp only at hwr18
      refine lv_if_eq (tgt := 24) hx hb dX2_line_11 (by decide) (fun c19 => ?_) (fun c19 => ?_)
      · replace c19 := (ti_eq rfl (by decide : (0 : Int32).toInt = (0 : Int))).mp c19
        refine lv_iconst (v := (-1)) hx hb dX2_line_24 (by decide) ?_
        refine lv_topi (fun r20 er20 => ?_)
        have hr20 : r20.toInt = (-1 : Int) := by rw [er20]; exact (by decide : (-1 : Int32).toInt = (-1 : Int))
        exact W.iret (v := r20) hx hb hr (fun t9 ht9 hW9 => ⟨⟨r20, (nu, X, Y, g), rfl, Or.inl ⟨by omega, rfl, by first | exact Or.inl (by omega) | exact Or.inr ⟨pv, rfl, fun q => by omega⟩⟩, by rw [ht9]; exact hP, va_K.moved hW9.alike hK, hD⟩, hS.F ht9⟩) hS.2.2 dX2_line_25
      · replace c19 := mt (ti_eq rfl (by decide : (0 : Int32).toInt = (0 : Int))).mpr c19
        refine lv_aload_n hx hb dX2_line_14 rfl (lv_at hl 0 rfl) ?_
        refine va_get (D := (dC, dI)) (ci := 2) (v := .ref (fa pv)) (C := RX2) (T := TX2) (N := 8) hx hb hts inX2 hown hK hP 0 rfl rfl 6 (by decide) (hts _ k66) (fun _ h9 => h9) rfl dX2_line_15 ?_
        refine vp_callSi (va_Run.run (va_runS (As := [.ref (fa pv)]) (rest := []) ⟨hx, hb, hml, hown, hts⟩ (mX2_fits_r l (wb_o h4p)) (va_cwS 1 hts (gA (m3 k184 k185 k1) k186) rfl rfl rfl (by decide +kernel) ⟨Nat.le_of_ble_eq_true rfl, Nat.le_of_ble_eq_true rfl⟩) (prR hP hK hNS) rfl rfl hl.1 rfl (lv_room (Nat.le_of_ble_eq_true rfl)) dX2_line_18 ⟨Nat.le_of_ble_eq_true rfl, Nat.le_of_ble_eq_true rfl⟩)) (fun r21 hwr21 => ?_)
        try dsimp only at hwr21
        refine lv_if_ne (tgt := 26) hx hb dX2_line_21 (by decide) (fun c22 => ?_) (fun c22 => ?_)
        · replace c22 := mt (ti_eq rfl (by decide : (0 : Int32).toInt = (0 : Int))).mpr c22
          have hpp : ∀ q, some pv = some q → wN q = 16 ∧ hN q = 16 := fun q h => by cases h; omega
          refine lv_iload_n hx hb dX2_line_26 rfl (lv_at hl 1 rfl) ?_
          refine va_mabs hx hb (hml.trans hl.1.symm) hown (hts _ k270) (hts _ k271) (hts _ k5) (hts _ k272) (Nat.le_of_ble_eq_true rfl) (Nat.le_of_ble_eq_true rfl) (Nat.le_of_ble_eq_true rfl) (Nat.le_of_ble_eq_true rfl) dX2_line_27 ?_
          refine lv_topi (fun x23 ex23 => ?_)
          have hx23 : x23.toInt = max (dx.toInt) (-(dx.toInt)) := by rw [ex23]; exact ti_abs rfl (by omega)
          refine lv_iload_n hx hb dX2_line_30 rfl (lv_at hl 2 rfl) ?_
          refine va_mabs hx hb (hml.trans hl.1.symm) hown (hts _ k270) (hts _ k271) (hts _ k5) (hts _ k272) (Nat.le_of_ble_eq_true rfl) (Nat.le_of_ble_eq_true rfl) (Nat.le_of_ble_eq_true rfl) (Nat.le_of_ble_eq_true rfl) dX2_line_31 ?_
          refine lv_topi (fun x24 ex24 => ?_)
          have hx24 : x24.toInt = max (dy.toInt) (-(dy.toInt)) := by rw [ex24]; exact ti_abs rfl (by omega)
          refine lv_icmp_le (tgt := 45) hx hb dX2_line_34 (by decide) (fun c25 => ?_) (fun c25 => ?_)
          · replace c25 := (ti_le rfl rfl).mp c25
            refine lv_aload_n hx hb dX2_line_45 rfl (lv_at hl 0 rfl) ?_
            refine lv_iconst (v := 1) hx hb dX2_line_46 (by decide) ?_
            refine lv_iload_n hx hb dX2_line_47 rfl (lv_at hl 2 rfl) ?_
            refine lv_iload_n hx hb dX2_line_48 rfl (lv_at hl 1 rfl) ?_
            have hk_1 : (1 : Int32).toInt = (1 : Int) := by decide
            refine cW_i (S := (Nat → Int32) × (Int32 × Int32 × Int32) × (Int32 × Int32 × Int32) × (Nat → Nat → Int32)) (va_runV (As := [.int (1 : Int32), .int dy, .int dx]) (rest := []) ⟨hx, hb, hml, hown, hts⟩ (mX2_drawAlong l (1 : Int32) dy dx hR hpp (an := 1) (by decide) (by decide) (by omega) (by omega) (by omega)) (cwV 3 hts (gA (m4 k273 k275 ksel7 k1) k276) rfl rfl rfl (by decide +kernel) ⟨Nat.le_of_ble_eq_true rfl, Nat.le_of_ble_eq_true rfl⟩) (prWV hP hK hNS hD rfl (show (w_bc h0 qa qn qx qy cI cF fa ar ln wd ht rw g nu X Y tg so (some pv) ru)[0]? = some (h0, .inr (2, [.ref qa, .ref qn, .ref qx, .ref qy, .ref (fa tg), va_rf (so.map fa), .ref (fa pv), .int ru])) from rfl)) rfl rfl hl.1 rfl (lv_room (Nat.le_of_ble_eq_true rfl)) dX2_line_49 ⟨Nat.le_of_ble_eq_true rfl, Nat.le_of_ble_eq_true rfl⟩) hD hS hA (fun r26 ur26 H locs hwr26 hP hK hD hS => ?_)
            obtain ⟨nr26, Xr26, Yr26, gr26⟩ := ur26
            dsimp only at hwr26
            have hP : va_P (dC, dI) vwCl (w_bc h0 qa qn qx qy cI cF fa ar ln wd ht rw gr26 nr26 Xr26 Yr26 tg so (some pv) ru) H := hP
            have hD : va_D A (w_bc h0 qa qn qx qy cI cF fa ar ln wd ht rw gr26 nr26 Xr26 Yr26 tg so (some pv) ru) := hD
            exact W.iret (v := r26) hx hb hr (fun t9 ht9 hW9 => ⟨⟨r26, (nr26, Xr26, Yr26, gr26), rfl, Or.inr ⟨by omega, by omega, hpp, Or.inr ⟨by omega, hwr26.1, hwr26.2⟩⟩, by rw [ht9]; exact hP, va_K.moved hW9.alike hK, hD⟩, hS.F ht9⟩) hS.2.2 dX2_line_52
          · replace c25 := mt (ti_le rfl rfl).mpr c25
            refine lv_aload_n hx hb dX2_line_37 rfl (lv_at hl 0 rfl) ?_
            refine lv_iconst (v := 0) hx hb dX2_line_38 (by decide) ?_
            refine lv_iload_n hx hb dX2_line_39 rfl (lv_at hl 1 rfl) ?_
            refine lv_iload_n hx hb dX2_line_40 rfl (lv_at hl 2 rfl) ?_
            have hk_0 : (0 : Int32).toInt = (0 : Int) := by decide
            refine cW_i (S := (Nat → Int32) × (Int32 × Int32 × Int32) × (Int32 × Int32 × Int32) × (Nat → Nat → Int32)) (va_runV (As := [.int (0 : Int32), .int dx, .int dy]) (rest := []) ⟨hx, hb, hml, hown, hts⟩ (mX2_drawAlong l (0 : Int32) dx dy hR hpp (an := 0) (by decide) (by decide) (by omega) (by omega) (by omega)) (cwV 3 hts (gA (m4 k273 k275 ksel7 k1) k276) rfl rfl rfl (by decide +kernel) ⟨Nat.le_of_ble_eq_true rfl, Nat.le_of_ble_eq_true rfl⟩) (prWV hP hK hNS hD rfl (show (w_bc h0 qa qn qx qy cI cF fa ar ln wd ht rw g nu X Y tg so (some pv) ru)[0]? = some (h0, .inr (2, [.ref qa, .ref qn, .ref qx, .ref qy, .ref (fa tg), va_rf (so.map fa), .ref (fa pv), .int ru])) from rfl)) rfl rfl hl.1 rfl (lv_room (Nat.le_of_ble_eq_true rfl)) dX2_line_41 ⟨Nat.le_of_ble_eq_true rfl, Nat.le_of_ble_eq_true rfl⟩) hD hS hA (fun r27 ur27 H locs hwr27 hP hK hD hS => ?_)
            obtain ⟨nr27, Xr27, Yr27, gr27⟩ := ur27
            dsimp only at hwr27
            have hP : va_P (dC, dI) vwCl (w_bc h0 qa qn qx qy cI cF fa ar ln wd ht rw gr27 nr27 Xr27 Yr27 tg so (some pv) ru) H := hP
            have hD : va_D A (w_bc h0 qa qn qx qy cI cF fa ar ln wd ht rw gr27 nr27 Xr27 Yr27 tg so (some pv) ru) := hD
            exact W.iret (v := r27) hx hb hr (fun t9 ht9 hW9 => ⟨⟨r27, (nr27, Xr27, Yr27, gr27), rfl, Or.inr ⟨by omega, by omega, hpp, Or.inl ⟨by omega, hwr27.1, hwr27.2⟩⟩, by rw [ht9]; exact hP, va_K.moved hW9.alike hK, hD⟩, hS.F ht9⟩) hS.2.2 dX2_line_44
        · replace c22 := (ti_eq rfl (by decide : (0 : Int32).toInt = (0 : Int))).mp c22
          refine lv_iconst (v := (-1)) hx hb dX2_line_24 (by decide) ?_
          refine lv_topi (fun r28 er28 => ?_)
          have hr28 : r28.toInt = (-1 : Int) := by rw [er28]; exact (by decide : (-1 : Int32).toInt = (-1 : Int))
          exact W.iret (v := r28) hx hb hr (fun t9 ht9 hW9 => ⟨⟨r28, (nu, X, Y, g), rfl, Or.inl ⟨by omega, rfl, by first | exact Or.inl (by omega) | exact Or.inr ⟨pv, rfl, fun q => by omega⟩⟩, by rw [ht9]; exact hP, va_K.moved hW9.alike hK, hD⟩, hS.F ht9⟩) hS.2.2 dX2_line_25
