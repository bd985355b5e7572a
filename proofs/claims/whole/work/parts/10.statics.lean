set_option maxHeartbeats 8000000 in
set_option maxRecDepth 100000 in
theorem mX2_isForm (l : Launch) (f : Int32) : Met l yX2_isForm (wM yX2_isForm cX2_isForm 1 (some .boolean)) ({ frames := 0, cells := 0, slots := 0, locals := 0 }) (va_Pc [.int f] (fun _ => True)) (vp_Si (fun r => (r.toInt = 1 ∧ 0 ≤ f.toInt ∧ f.toInt < 4) ∨ (r.toInt = 0 ∧ (f.toInt < 0 ∨ 4 ≤ f.toInt)))) 0 0 (fun _ => False) := by
  refine Met.ofW (cc := cX2_isForm) (maxL := 1) (ret := (some .boolean)) (by decide +kernel) rfl ?_
  intro p e s m args below meth c s₁ B hml hv
  obtain ⟨rfl, -⟩ := hv
  have hx := B.exec
  have hb := B.bytes
  have hr := B.returns
  have hts : ∀ w ∈ tblG, w.before _ s = true := fun w h => atoms_spec (ws := wM yX2_isForm cX2_isForm 1 (some .boolean)) B.pre w (List.mem_cons_of_mem _ h)
  have hown : s.vm.findClass RX2 = some m.cls := findClass_of_methodNamed B.named
  have hlocks := B.notSynchronized
  have hl := lv_entry ([.int f]) (n := 1) (Nat.le_of_ble_eq_true rfl)
  rw [lg_entry_eq]
  generalize (lg_sl ([.int f]) ++ List.replicate (1 - (lg_sl ([.int f])).length) Slot.unset).toArray = ls at hl ⊢
  have hl : lv_has ls 1 [(0, .int f)] := hl
  refine lv_iload_n hx hb dX2_isForm_0 rfl (lv_at hl 0 rfl) ?_
  refine lv_if_lt (tgt := 13) hx hb dX2_isForm_1 (by decide) (fun c1 => ?_) (fun c1 => ?_)
  · replace c1 := (ti_lt rfl (by decide : (0 : Int32).toInt = (0 : Int))).mp c1
    refine lv_iconst (v := 0) hx hb dX2_isForm_13 (by decide) ?_
    refine lv_topi (fun r2 er2 => ?_)
    have hr2 : r2.toInt = (0 : Int) := by rw [er2]; exact (by decide : (0 : Int32).toInt = (0 : Int))
    exact W.zret (ty := .boolean) (v := r2) hx hb hr (nar_b (by omega)) (fun t9 ht9 _ => ⟨r2, rfl, by omega, ht9⟩) (fun _ h => absurd h List.not_mem_nil) dX2_isForm_14
  · replace c1 := mt (ti_lt rfl (by decide : (0 : Int32).toInt = (0 : Int))).mpr c1
    refine lv_iload_n hx hb dX2_isForm_4 rfl (lv_at hl 0 rfl) ?_
    refine lv_iconst (v := 4) hx hb dX2_isForm_5 (by decide) ?_
    refine lv_icmp_ge (tgt := 13) hx hb dX2_isForm_6 (by decide) (fun c3 => ?_) (fun c3 => ?_)
    · replace c3 := (ti_le (by decide : (4 : Int32).toInt = (4 : Int)) rfl).mp c3
      refine lv_iconst (v := 0) hx hb dX2_isForm_13 (by decide) ?_
      refine lv_topi (fun r4 er4 => ?_)
      have hr4 : r4.toInt = (0 : Int) := by rw [er4]; exact (by decide : (0 : Int32).toInt = (0 : Int))
      exact W.zret (ty := .boolean) (v := r4) hx hb hr (nar_b (by omega)) (fun t9 ht9 _ => ⟨r4, rfl, by omega, ht9⟩) (fun _ h => absurd h List.not_mem_nil) dX2_isForm_14
    · replace c3 := mt (ti_le (by decide : (4 : Int32).toInt = (4 : Int)) rfl).mpr c3
      refine lv_iconst (v := 1) hx hb dX2_isForm_9 (by decide) ?_
      refine lv_goto (tgt := 14) hx hb dX2_isForm_10 (by decide) ?_
      refine lv_topi (fun r5 er5 => ?_)
      have hr5 : r5.toInt = (1 : Int) := by rw [er5]; exact (by decide : (1 : Int32).toInt = (1 : Int))
      exact W.zret (ty := .boolean) (v := r5) hx hb hr (nar_b (by omega)) (fun t9 ht9 _ => ⟨r5, rfl, by omega, ht9⟩) (fun _ h => absurd h List.not_mem_nil) dX2_isForm_14
set_option maxHeartbeats 8000000 in
set_option maxRecDepth 100000 in
theorem mX2_isFormOrNone (l : Launch) (f : Int32) : Met l yX2_isFormOrNone (wM yX2_isFormOrNone cX2_isFormOrNone 1 (some .boolean)) ({ frames := 1, cells := 0, slots := 0, locals := 20 }) (va_Pc [.int f] (fun _ => True)) (vp_Si (fun r => (r.toInt = 1 ∧ -1 ≤ f.toInt ∧ f.toInt < 4) ∨ (r.toInt = 0 ∧ (f.toInt < -1 ∨ 4 ≤ f.toInt)))) 0 0 (fun _ => False) := by
  refine Met.ofW (cc := cX2_isFormOrNone) (maxL := 1) (ret := (some .boolean)) (by decide +kernel) rfl ?_
  intro p e s m args below meth c s₁ B hml hv
  obtain ⟨rfl, -⟩ := hv
  have hx := B.exec
  have hb := B.bytes
  have hr := B.returns
  have hts : ∀ w ∈ tblG, w.before _ s = true := fun w h => atoms_spec (ws := wM yX2_isFormOrNone cX2_isFormOrNone 1 (some .boolean)) B.pre w (List.mem_cons_of_mem _ h)
  have hown : s.vm.findClass RX2 = some m.cls := findClass_of_methodNamed B.named
  have hlocks := B.notSynchronized
  have hl := lv_entry ([.int f]) (n := 1) (Nat.le_of_ble_eq_true rfl)
  rw [lg_entry_eq]
  generalize (lg_sl ([.int f]) ++ List.replicate (1 - (lg_sl ([.int f])).length) Slot.unset).toArray = ls at hl ⊢
  have hl : lv_has ls 1 [(0, .int f)] := hl
  refine lv_iload_n hx hb dX2_isFormOrNone_0 rfl (lv_at hl 0 rfl) ?_
  refine lv_iconst (v := (-1)) hx hb dX2_isFormOrNone_1 (by decide) ?_
  refine lv_icmp_eq (tgt := 12) hx hb dX2_isFormOrNone_2 (by decide) (fun c1 => ?_) (fun c1 => ?_)
  · replace c1 := (ti_eq rfl (by decide : (-1 : Int32).toInt = (-1 : Int))).mp c1
    refine lv_iconst (v := 1) hx hb dX2_isFormOrNone_12 (by decide) ?_
    refine lv_goto (tgt := 17) hx hb dX2_isFormOrNone_13 (by decide) ?_
    refine lv_topi (fun r2 er2 => ?_)
    have hr2 : r2.toInt = (1 : Int) := by rw [er2]; exact (by decide : (1 : Int32).toInt = (1 : Int))
    exact W.zret (ty := .boolean) (v := r2) hx hb hr (nar_b (by omega)) (fun t9 ht9 _ => ⟨r2, rfl, by omega, ht9⟩) (fun _ h => absurd h List.not_mem_nil) dX2_isFormOrNone_17
  · replace c1 := mt (ti_eq rfl (by decide : (-1 : Int32).toInt = (-1 : Int))).mpr c1
    refine lv_iload_n hx hb dX2_isFormOrNone_5 rfl (lv_at hl 0 rfl) ?_
    refine vp_callSi (va_Run.run (va_runS (As := [.int f]) (rest := []) ⟨hx, hb, hml, hown, hts⟩ (mX2_isForm l f) (va_cwS 1 hts (gA (m3 k96 k97 k1) k98) rfl rfl rfl (by decide +kernel) ⟨Nat.le_of_ble_eq_true rfl, Nat.le_of_ble_eq_true rfl⟩) (prT) rfl rfl hl.1 rfl (lv_room (Nat.le_of_ble_eq_true rfl)) dX2_isFormOrNone_6 ⟨Nat.le_of_ble_eq_true rfl, Nat.le_of_ble_eq_true rfl⟩)) (fun r3 hwr3 => ?_)
    try dsimp only at hwr3
    refine lv_if_eq (tgt := 16) hx hb dX2_isFormOrNone_9 (by decide) (fun c4 => ?_) (fun c4 => ?_)
    · replace c4 := (ti_eq rfl (by decide : (0 : Int32).toInt = (0 : Int))).mp c4
      refine lv_iconst (v := 0) hx hb dX2_isFormOrNone_16 (by decide) ?_
      refine lv_topi (fun r5 er5 => ?_)
      have hr5 : r5.toInt = (0 : Int) := by rw [er5]; exact (by decide : (0 : Int32).toInt = (0 : Int))
      exact W.zret (ty := .boolean) (v := r5) hx hb hr (nar_b (by omega)) (fun t9 ht9 _ => ⟨r5, rfl, by omega, ht9⟩) (fun _ h => absurd h List.not_mem_nil) dX2_isFormOrNone_17
    · replace c4 := mt (ti_eq rfl (by decide : (0 : Int32).toInt = (0 : Int))).mpr c4
      refine lv_iconst (v := 1) hx hb dX2_isFormOrNone_12 (by decide) ?_
      refine lv_goto (tgt := 17) hx hb dX2_isFormOrNone_13 (by decide) ?_
      refine lv_topi (fun r6 er6 => ?_)
      have hr6 : r6.toInt = (1 : Int) := by rw [er6]; exact (by decide : (1 : Int32).toInt = (1 : Int))
      exact W.zret (ty := .boolean) (v := r6) hx hb hr (nar_b (by omega)) (fun t9 ht9 _ => ⟨r6, rfl, by omega, ht9⟩) (fun _ h => absurd h List.not_mem_nil) dX2_isFormOrNone_17
set_option maxHeartbeats 8000000 in
set_option maxRecDepth 100000 in
theorem mX2_isPair (l : Launch) (f : Int32) : Met l yX2_isPair (wM yX2_isPair cX2_isPair 1 (some .boolean)) ({ frames := 0, cells := 0, slots := 0, locals := 0 }) (va_Pc [.int f] (fun _ => True)) (vp_Si (fun r => (r.toInt = 1 ∧ 0 ≤ f.toInt ∧ f.toInt < 5) ∨ (r.toInt = 0 ∧ (f.toInt < 0 ∨ 5 ≤ f.toInt)))) 0 0 (fun _ => False) := by
  refine Met.ofW (cc := cX2_isPair) (maxL := 1) (ret := (some .boolean)) (by decide +kernel) rfl ?_
  intro p e s m args below meth c s₁ B hml hv
  obtain ⟨rfl, -⟩ := hv
  have hx := B.exec
  have hb := B.bytes
  have hr := B.returns
  have hts : ∀ w ∈ tblG, w.before _ s = true := fun w h => atoms_spec (ws := wM yX2_isPair cX2_isPair 1 (some .boolean)) B.pre w (List.mem_cons_of_mem _ h)
  have hown : s.vm.findClass RX2 = some m.cls := findClass_of_methodNamed B.named
  have hlocks := B.notSynchronized
  have hl := lv_entry ([.int f]) (n := 1) (Nat.le_of_ble_eq_true rfl)
  rw [lg_entry_eq]
  generalize (lg_sl ([.int f]) ++ List.replicate (1 - (lg_sl ([.int f])).length) Slot.unset).toArray = ls at hl ⊢
  have hl : lv_has ls 1 [(0, .int f)] := hl
  refine lv_iload_n hx hb dX2_isPair_0 rfl (lv_at hl 0 rfl) ?_
  refine lv_if_lt (tgt := 13) hx hb dX2_isPair_1 (by decide) (fun c1 => ?_) (fun c1 => ?_)
  · replace c1 := (ti_lt rfl (by decide : (0 : Int32).toInt = (0 : Int))).mp c1
    refine lv_iconst (v := 0) hx hb dX2_isPair_13 (by decide) ?_
    refine lv_topi (fun r2 er2 => ?_)
    have hr2 : r2.toInt = (0 : Int) := by rw [er2]; exact (by decide : (0 : Int32).toInt = (0 : Int))
    exact W.zret (ty := .boolean) (v := r2) hx hb hr (nar_b (by omega)) (fun t9 ht9 _ => ⟨r2, rfl, by omega, ht9⟩) (fun _ h => absurd h List.not_mem_nil) dX2_isPair_14
  · replace c1 := mt (ti_lt rfl (by decide : (0 : Int32).toInt = (0 : Int))).mpr c1
    refine lv_iload_n hx hb dX2_isPair_4 rfl (lv_at hl 0 rfl) ?_
    refine lv_iconst (v := 5) hx hb dX2_isPair_5 (by decide) ?_
    refine lv_icmp_ge (tgt := 13) hx hb dX2_isPair_6 (by decide) (fun c3 => ?_) (fun c3 => ?_)
    · replace c3 := (ti_le (by decide : (5 : Int32).toInt = (5 : Int)) rfl).mp c3
      refine lv_iconst (v := 0) hx hb dX2_isPair_13 (by decide) ?_
      refine lv_topi (fun r4 er4 => ?_)
      have hr4 : r4.toInt = (0 : Int) := by rw [er4]; exact (by decide : (0 : Int32).toInt = (0 : Int))
      exact W.zret (ty := .boolean) (v := r4) hx hb hr (nar_b (by omega)) (fun t9 ht9 _ => ⟨r4, rfl, by omega, ht9⟩) (fun _ h => absurd h List.not_mem_nil) dX2_isPair_14
    · replace c3 := mt (ti_le (by decide : (5 : Int32).toInt = (5 : Int)) rfl).mpr c3
      refine lv_iconst (v := 1) hx hb dX2_isPair_9 (by decide) ?_
      refine lv_goto (tgt := 14) hx hb dX2_isPair_10 (by decide) ?_
      refine lv_topi (fun r5 er5 => ?_)
      have hr5 : r5.toInt = (1 : Int) := by rw [er5]; exact (by decide : (1 : Int32).toInt = (1 : Int))
      exact W.zret (ty := .boolean) (v := r5) hx hb hr (nar_b (by omega)) (fun t9 ht9 _ => ⟨r5, rfl, by omega, ht9⟩) (fun _ h => absurd h List.not_mem_nil) dX2_isPair_14
set_option maxHeartbeats 8000000 in
set_option maxRecDepth 100000 in
theorem mX2_isNumber (l : Launch) (f : Int32) : Met l yX2_isNumber (wM yX2_isNumber cX2_isNumber 1 (some .boolean)) ({ frames := 0, cells := 0, slots := 0, locals := 0 }) (va_Pc [.int f] (fun _ => True)) (vp_Si (fun r => (r.toInt = 1 ∧ -32768 ≤ f.toInt ∧ f.toInt ≤ 32767) ∨ (r.toInt = 0 ∧ (f.toInt < -32768 ∨ 32767 < f.toInt)))) 0 0 (fun _ => False) := by
  refine Met.ofW (cc := cX2_isNumber) (maxL := 1) (ret := (some .boolean)) (by decide +kernel) rfl ?_
  intro p e s m args below meth c s₁ B hml hv
  obtain ⟨rfl, -⟩ := hv
  have hx := B.exec
  have hb := B.bytes
  have hr := B.returns
  have hts : ∀ w ∈ tblG, w.before _ s = true := fun w h => atoms_spec (ws := wM yX2_isNumber cX2_isNumber 1 (some .boolean)) B.pre w (List.mem_cons_of_mem _ h)
  have hown : s.vm.findClass RX2 = some m.cls := findClass_of_methodNamed B.named
  have hlocks := B.notSynchronized
  have hl := lv_entry ([.int f]) (n := 1) (Nat.le_of_ble_eq_true rfl)
  rw [lg_entry_eq]
  generalize (lg_sl ([.int f]) ++ List.replicate (1 - (lg_sl ([.int f])).length) Slot.unset).toArray = ls at hl ⊢
  have hl : lv_has ls 1 [(0, .int f)] := hl
  refine lv_iload_n hx hb dX2_isNumber_0 rfl (lv_at hl 0 rfl) ?_
  refine lv_sipush (v := (-32768)) hx hb dX2_isNumber_1 (by decide) ?_
  refine lv_icmp_lt (tgt := 18) hx hb dX2_isNumber_4 (by decide) (fun c1 => ?_) (fun c1 => ?_)
  · replace c1 := (ti_lt rfl (by decide : (-32768 : Int32).toInt = (-32768 : Int))).mp c1
    refine lv_iconst (v := 0) hx hb dX2_isNumber_18 (by decide) ?_
    refine lv_topi (fun r2 er2 => ?_)
    have hr2 : r2.toInt = (0 : Int) := by rw [er2]; exact (by decide : (0 : Int32).toInt = (0 : Int))
    exact W.zret (ty := .boolean) (v := r2) hx hb hr (nar_b (by omega)) (fun t9 ht9 _ => ⟨r2, rfl, by omega, ht9⟩) (fun _ h => absurd h List.not_mem_nil) dX2_isNumber_19
  · replace c1 := mt (ti_lt rfl (by decide : (-32768 : Int32).toInt = (-32768 : Int))).mpr c1
    refine lv_iload_n hx hb dX2_isNumber_7 rfl (lv_at hl 0 rfl) ?_
    refine lv_sipush (v := (32767)) hx hb dX2_isNumber_8 (by decide) ?_
    refine lv_icmp_gt (tgt := 18) hx hb dX2_isNumber_11 (by decide) (fun c3 => ?_) (fun c3 => ?_)
    · replace c3 := (ti_lt (by decide : (32767 : Int32).toInt = (32767 : Int)) rfl).mp c3
      refine lv_iconst (v := 0) hx hb dX2_isNumber_18 (by decide) ?_
      refine lv_topi (fun r4 er4 => ?_)
      have hr4 : r4.toInt = (0 : Int) := by rw [er4]; exact (by decide : (0 : Int32).toInt = (0 : Int))
      exact W.zret (ty := .boolean) (v := r4) hx hb hr (nar_b (by omega)) (fun t9 ht9 _ => ⟨r4, rfl, by omega, ht9⟩) (fun _ h => absurd h List.not_mem_nil) dX2_isNumber_19
    · replace c3 := mt (ti_lt (by decide : (32767 : Int32).toInt = (32767 : Int)) rfl).mpr c3
      refine lv_iconst (v := 1) hx hb dX2_isNumber_14 (by decide) ?_
      refine lv_goto (tgt := 19) hx hb dX2_isNumber_15 (by decide) ?_
      refine lv_topi (fun r5 er5 => ?_)
      have hr5 : r5.toInt = (1 : Int) := by rw [er5]; exact (by decide : (1 : Int32).toInt = (1 : Int))
      exact W.zret (ty := .boolean) (v := r5) hx hb hr (nar_b (by omega)) (fun t9 ht9 _ => ⟨r5, rfl, by omega, ht9⟩) (fun _ h => absurd h List.not_mem_nil) dX2_isNumber_19
set_option maxHeartbeats 8000000 in
set_option maxRecDepth 100000 in
theorem mX2_isWay (l : Launch) (f : Int32) : Met l yX2_isWay (wM yX2_isWay cX2_isWay 1 (some .boolean)) ({ frames := 0, cells := 0, slots := 0, locals := 0 }) (va_Pc [.int f] (fun _ => True)) (vp_Si (fun r => (r.toInt = 1 ∧ -2000 ≤ f.toInt ∧ f.toInt ≤ 2000) ∨ (r.toInt = 0 ∧ (f.toInt < -2000 ∨ 2000 < f.toInt)))) 0 0 (fun _ => False) := by
  refine Met.ofW (cc := cX2_isWay) (maxL := 1) (ret := (some .boolean)) (by decide +kernel) rfl ?_
  intro p e s m args below meth c s₁ B hml hv
  obtain ⟨rfl, -⟩ := hv
  have hx := B.exec
  have hb := B.bytes
  have hr := B.returns
  have hts : ∀ w ∈ tblG, w.before _ s = true := fun w h => atoms_spec (ws := wM yX2_isWay cX2_isWay 1 (some .boolean)) B.pre w (List.mem_cons_of_mem _ h)
  have hown : s.vm.findClass RX2 = some m.cls := findClass_of_methodNamed B.named
  have hlocks := B.notSynchronized
  have hl := lv_entry ([.int f]) (n := 1) (Nat.le_of_ble_eq_true rfl)
  rw [lg_entry_eq]
  generalize (lg_sl ([.int f]) ++ List.replicate (1 - (lg_sl ([.int f])).length) Slot.unset).toArray = ls at hl ⊢
  have hl : lv_has ls 1 [(0, .int f)] := hl
  refine lv_iload_n hx hb dX2_isWay_0 rfl (lv_at hl 0 rfl) ?_
  refine lv_sipush (v := (-2000)) hx hb dX2_isWay_1 (by decide) ?_
  refine lv_icmp_lt (tgt := 18) hx hb dX2_isWay_4 (by decide) (fun c1 => ?_) (fun c1 => ?_)
  · replace c1 := (ti_lt rfl (by decide : (-2000 : Int32).toInt = (-2000 : Int))).mp c1
    refine lv_iconst (v := 0) hx hb dX2_isWay_18 (by decide) ?_
    refine lv_topi (fun r2 er2 => ?_)
    have hr2 : r2.toInt = (0 : Int) := by rw [er2]; exact (by decide : (0 : Int32).toInt = (0 : Int))
    exact W.zret (ty := .boolean) (v := r2) hx hb hr (nar_b (by omega)) (fun t9 ht9 _ => ⟨r2, rfl, by omega, ht9⟩) (fun _ h => absurd h List.not_mem_nil) dX2_isWay_19
  · replace c1 := mt (ti_lt rfl (by decide : (-2000 : Int32).toInt = (-2000 : Int))).mpr c1
    refine lv_iload_n hx hb dX2_isWay_7 rfl (lv_at hl 0 rfl) ?_
    refine lv_sipush (v := (2000)) hx hb dX2_isWay_8 (by decide) ?_
    refine lv_icmp_gt (tgt := 18) hx hb dX2_isWay_11 (by decide) (fun c3 => ?_) (fun c3 => ?_)
    · replace c3 := (ti_lt (by decide : (2000 : Int32).toInt = (2000 : Int)) rfl).mp c3
      refine lv_iconst (v := 0) hx hb dX2_isWay_18 (by decide) ?_
      refine lv_topi (fun r4 er4 => ?_)
      have hr4 : r4.toInt = (0 : Int) := by rw [er4]; exact (by decide : (0 : Int32).toInt = (0 : Int))
      exact W.zret (ty := .boolean) (v := r4) hx hb hr (nar_b (by omega)) (fun t9 ht9 _ => ⟨r4, rfl, by omega, ht9⟩) (fun _ h => absurd h List.not_mem_nil) dX2_isWay_19
    · replace c3 := mt (ti_lt (by decide : (2000 : Int32).toInt = (2000 : Int)) rfl).mpr c3
      refine lv_iconst (v := 1) hx hb dX2_isWay_14 (by decide) ?_
      refine lv_goto (tgt := 19) hx hb dX2_isWay_15 (by decide) ?_
      refine lv_topi (fun r5 er5 => ?_)
      have hr5 : r5.toInt = (1 : Int) := by rw [er5]; exact (by decide : (1 : Int32).toInt = (1 : Int))
      exact W.zret (ty := .boolean) (v := r5) hx hb hr (nar_b (by omega)) (fun t9 ht9 _ => ⟨r5, rfl, by omega, ht9⟩) (fun _ h => absurd h List.not_mem_nil) dX2_isWay_19
set_option maxHeartbeats 8000000 in
set_option maxRecDepth 100000 in
theorem mX2_signOf (l : Launch) (f : Int32) : Met l yX2_signOf (wM yX2_signOf cX2_signOf 1 (some .int)) ({ frames := 0, cells := 0, slots := 0, locals := 0 }) (va_Pc [.int f] (fun _ => True)) (vp_Si (fun r => (r.toInt = 1 ∧ 0 < f.toInt) ∨ (r.toInt = -1 ∧ f.toInt < 0) ∨ (r.toInt = 0 ∧ f.toInt = 0))) 0 0 (fun _ => False) := by
  refine Met.ofW (cc := cX2_signOf) (maxL := 1) (ret := (some .int)) (by decide +kernel) rfl ?_
  intro p e s m args below meth c s₁ B hml hv
  obtain ⟨rfl, -⟩ := hv
  have hx := B.exec
  have hb := B.bytes
  have hr := B.returns
  have hts : ∀ w ∈ tblG, w.before _ s = true := fun w h => atoms_spec (ws := wM yX2_signOf cX2_signOf 1 (some .int)) B.pre w (List.mem_cons_of_mem _ h)
  have hown : s.vm.findClass RX2 = some m.cls := findClass_of_methodNamed B.named
  have hlocks := B.notSynchronized
  have hl := lv_entry ([.int f]) (n := 1) (Nat.le_of_ble_eq_true rfl)
  rw [lg_entry_eq]
  generalize (lg_sl ([.int f]) ++ List.replicate (1 - (lg_sl ([.int f])).length) Slot.unset).toArray = ls at hl ⊢
  have hl : lv_has ls 1 [(0, .int f)] := hl
  refine lv_iload_n hx hb dX2_signOf_0 rfl (lv_at hl 0 rfl) ?_
  refine lv_if_le (tgt := 8) hx hb dX2_signOf_1 (by decide) (fun c1 => ?_) (fun c1 => ?_)
  · replace c1 := (ti_le rfl (by decide : (0 : Int32).toInt = (0 : Int))).mp c1
    refine lv_iload_n hx hb dX2_signOf_8 rfl (lv_at hl 0 rfl) ?_
    refine lv_if_ge (tgt := 16) hx hb dX2_signOf_9 (by decide) (fun c2 => ?_) (fun c2 => ?_)
    · replace c2 := (ti_le (by decide : (0 : Int32).toInt = (0 : Int)) rfl).mp c2
      refine lv_iconst (v := 0) hx hb dX2_signOf_16 (by decide) ?_
      refine lv_topi (fun r3 er3 => ?_)
      have hr3 : r3.toInt = (0 : Int) := by rw [er3]; exact (by decide : (0 : Int32).toInt = (0 : Int))
      exact W.iret (v := r3) hx hb hr (fun t9 ht9 _ => ⟨r3, rfl, by omega, ht9⟩) (fun _ h => absurd h List.not_mem_nil) dX2_signOf_17
    · replace c2 := mt (ti_le (by decide : (0 : Int32).toInt = (0 : Int)) rfl).mpr c2
      refine lv_iconst (v := (-1)) hx hb dX2_signOf_12 (by decide) ?_
      refine lv_goto (tgt := 17) hx hb dX2_signOf_13 (by decide) ?_
      refine lv_topi (fun r4 er4 => ?_)
      have hr4 : r4.toInt = (-1 : Int) := by rw [er4]; exact (by decide : (-1 : Int32).toInt = (-1 : Int))
      exact W.iret (v := r4) hx hb hr (fun t9 ht9 _ => ⟨r4, rfl, by omega, ht9⟩) (fun _ h => absurd h List.not_mem_nil) dX2_signOf_17
  · replace c1 := mt (ti_le rfl (by decide : (0 : Int32).toInt = (0 : Int))).mpr c1
    refine lv_iconst (v := 1) hx hb dX2_signOf_4 (by decide) ?_
    refine lv_goto (tgt := 17) hx hb dX2_signOf_5 (by decide) ?_
    refine lv_topi (fun r5 er5 => ?_)
    have hr5 : r5.toInt = (1 : Int) := by rw [er5]; exact (by decide : (1 : Int32).toInt = (1 : Int))
    exact W.iret (v := r5) hx hb hr (fun t9 ht9 _ => ⟨r5, rfl, by omega, ht9⟩) (fun _ h => absurd h List.not_mem_nil) dX2_signOf_17
set_option maxHeartbeats 8000000 in
set_option maxRecDepth 100000 in
theorem mX2_wordsPerRow (l : Launch) (w : Int32) (h0 : 0 ≤ w.toInt) (h1 : w.toInt ≤ 1000000) : Met l yX2_wordsPerRow (wM yX2_wordsPerRow cX2_wordsPerRow 1 (some .int)) ({ frames := 0, cells := 0, slots := 0, locals := 0 }) (va_Pc [.int w] (fun _ => True)) (vp_Si (fun r => r.toInt = (w.toInt + 15) / 16)) 0 0 (fun _ => False) := by
  refine Met.ofW (cc := cX2_wordsPerRow) (maxL := 1) (ret := (some .int)) (by decide +kernel) rfl ?_
  intro p e s m args below meth c s₁ B hml hv
  obtain ⟨rfl, -⟩ := hv
  have hx := B.exec
  have hb := B.bytes
  have hr := B.returns
  have hts : ∀ w ∈ tblG, w.before _ s = true := fun w h => atoms_spec (ws := wM yX2_wordsPerRow cX2_wordsPerRow 1 (some .int)) B.pre w (List.mem_cons_of_mem _ h)
  have hown : s.vm.findClass RX2 = some m.cls := findClass_of_methodNamed B.named
  have hlocks := B.notSynchronized
  have hl := lv_entry ([.int w]) (n := 1) (Nat.le_of_ble_eq_true rfl)
  rw [lg_entry_eq]
  generalize (lg_sl ([.int w]) ++ List.replicate (1 - (lg_sl ([.int w])).length) Slot.unset).toArray = ls at hl ⊢
  have hl : lv_has ls 1 [(0, .int w)] := hl
  refine lv_iload_n hx hb dX2_wordsPerRow_0 rfl (lv_at hl 0 rfl) ?_
  refine lv_bipush (v := (16)) hx hb dX2_wordsPerRow_1 (by decide) ?_
  refine lv_iadd hx hb dX2_wordsPerRow_3 ?_
  refine lv_topi (fun x1 ex1 => ?_)
  have hx1 : x1.toInt = w.toInt + (16 : Int) := by rw [ex1]; exact ti_add rfl (by decide : (16 : Int32).toInt = (16 : Int)) (by omega) (by omega)
  refine lv_iconst (v := 1) hx hb dX2_wordsPerRow_4 (by decide) ?_
  refine lv_isub hx hb dX2_wordsPerRow_5 ?_
  refine lv_topi (fun x2 ex2 => ?_)
  have hx2 : x2.toInt = x1.toInt - (1 : Int) := by rw [ex2]; exact ti_sub rfl (by decide : (1 : Int32).toInt = (1 : Int)) (by omega) (by omega)
  refine lv_bipush (v := (16)) hx hb dX2_wordsPerRow_6 (by decide) ?_
  refine lv_idiv hx hb dX2_wordsPerRow_8 (by decide) ?_
  refine lv_topi (fun x3 ex3 => ?_)
  have hx3 : x3.toInt = x2.toInt / (16 : Int) := by rw [ex3]; exact ti_div rfl (by decide : (16 : Int32).toInt = (16 : Int)) (by omega) (by omega)
  exact W.iret (v := x3) hx hb hr (fun t9 ht9 _ => ⟨x3, rfl, by omega, ht9⟩) (fun _ h => absurd h List.not_mem_nil) dX2_wordsPerRow_9
set_option maxHeartbeats 8000000 in
set_option maxRecDepth 100000 in
theorem mX2_wordsNeeded (l : Launch) (w : Int32) (h : Int32) : Met l yX2_wordsNeeded (wM yX2_wordsNeeded cX2_wordsNeeded 3 (some .int)) ({ frames := 1, cells := 0, slots := 0, locals := 20 }) (va_Pc [.int w, .int h] (fun _ => True)) (vp_Si (fun r => (r.toInt = ((w.toInt + 15) / 16) * h.toInt ∧ 1 ≤ w.toInt ∧ 1 ≤ h.toInt ∧ w.toInt ≤ 64000 ∧ h.toInt ≤ 4000 ∧ ((w.toInt + 15) / 16) * h.toInt ≤ 4000) ∨ (r.toInt = -1 ∧ (w.toInt < 1 ∨ h.toInt < 1 ∨ 64000 < w.toInt ∨ 4000 < h.toInt ∨ 4000 < ((w.toInt + 15) / 16) * h.toInt)))) 0 0 (fun _ => False) := by
  refine Met.ofW (cc := cX2_wordsNeeded) (maxL := 3) (ret := (some .int)) (by decide +kernel) rfl ?_
  intro p e s m args below meth c s₁ B hml hv
  obtain ⟨rfl, -⟩ := hv
  have hx := B.exec
  have hb := B.bytes
  have hr := B.returns
  have hts : ∀ w ∈ tblG, w.before _ s = true := fun w h => atoms_spec (ws := wM yX2_wordsNeeded cX2_wordsNeeded 3 (some .int)) B.pre w (List.mem_cons_of_mem _ h)
  have hown : s.vm.findClass RX2 = some m.cls := findClass_of_methodNamed B.named
  have hlocks := B.notSynchronized
  have hl := lv_entry ([.int w, .int h]) (n := 3) (Nat.le_of_ble_eq_true rfl)
  rw [lg_entry_eq]
  generalize (lg_sl ([.int w, .int h]) ++ List.replicate (3 - (lg_sl ([.int w, .int h])).length) Slot.unset).toArray = ls at hl ⊢
  have hl : lv_has ls 3 [(0, .int w), (1, .int h)] := hl
  refine lv_iload_n hx hb dX2_wordsNeeded_0 rfl (lv_at hl 0 rfl) ?_
  refine lv_iconst (v := 1) hx hb dX2_wordsNeeded_1 (by decide) ?_
  refine lv_icmp_lt (tgt := 23) hx hb dX2_wordsNeeded_2 (by decide) (fun c1 => ?_) (fun c1 => ?_)
  · replace c1 := (ti_lt rfl (by decide : (1 : Int32).toInt = (1 : Int))).mp c1
    refine lv_iconst (v := (-1)) hx hb dX2_wordsNeeded_23 (by decide) ?_
    refine lv_topi (fun r2 er2 => ?_)
    have hr2 : r2.toInt = (-1 : Int) := by rw [er2]; exact (by decide : (-1 : Int32).toInt = (-1 : Int))
    exact W.iret (v := r2) hx hb hr (fun t9 ht9 _ => ⟨r2, rfl, by omega, ht9⟩) (fun _ h => absurd h List.not_mem_nil) dX2_wordsNeeded_24
  · replace c1 := mt (ti_lt rfl (by decide : (1 : Int32).toInt = (1 : Int))).mpr c1
    refine lv_iload_n hx hb dX2_wordsNeeded_5 rfl (lv_at hl 1 rfl) ?_
    refine lv_iconst (v := 1) hx hb dX2_wordsNeeded_6 (by decide) ?_
    refine lv_icmp_lt (tgt := 23) hx hb dX2_wordsNeeded_7 (by decide) (fun c3 => ?_) (fun c3 => ?_)
    · replace c3 := (ti_lt rfl (by decide : (1 : Int32).toInt = (1 : Int))).mp c3
      refine lv_iconst (v := (-1)) hx hb dX2_wordsNeeded_23 (by decide) ?_
      refine lv_topi (fun r4 er4 => ?_)
      have hr4 : r4.toInt = (-1 : Int) := by rw [er4]; exact (by decide : (-1 : Int32).toInt = (-1 : Int))
      exact W.iret (v := r4) hx hb hr (fun t9 ht9 _ => ⟨r4, rfl, by omega, ht9⟩) (fun _ h => absurd h List.not_mem_nil) dX2_wordsNeeded_24
    · replace c3 := mt (ti_lt rfl (by decide : (1 : Int32).toInt = (1 : Int))).mpr c3
      refine lv_iload_n hx hb dX2_wordsNeeded_10 rfl (lv_at hl 0 rfl) ?_
      refine lv_ldc (own := RX2) (v := (64000)) hx hb hown (hts _ k92) dX2_wordsNeeded_11 ?_
      refine lv_icmp_gt (tgt := 23) hx hb dX2_wordsNeeded_13 (by decide) (fun c5 => ?_) (fun c5 => ?_)
      · replace c5 := (ti_lt (by decide : (64000 : Int32).toInt = (64000 : Int)) rfl).mp c5
        refine lv_iconst (v := (-1)) hx hb dX2_wordsNeeded_23 (by decide) ?_
        refine lv_topi (fun r6 er6 => ?_)
        have hr6 : r6.toInt = (-1 : Int) := by rw [er6]; exact (by decide : (-1 : Int32).toInt = (-1 : Int))
        exact W.iret (v := r6) hx hb hr (fun t9 ht9 _ => ⟨r6, rfl, by omega, ht9⟩) (fun _ h => absurd h List.not_mem_nil) dX2_wordsNeeded_24
      · replace c5 := mt (ti_lt (by decide : (64000 : Int32).toInt = (64000 : Int)) rfl).mpr c5
        refine lv_iload_n hx hb dX2_wordsNeeded_16 rfl (lv_at hl 1 rfl) ?_
        refine lv_sipush (v := (4000)) hx hb dX2_wordsNeeded_17 (by decide) ?_
        refine lv_icmp_le (tgt := 25) hx hb dX2_wordsNeeded_20 (by decide) (fun c7 => ?_) (fun c7 => ?_)
        · replace c7 := (ti_le rfl (by decide : (4000 : Int32).toInt = (4000 : Int))).mp c7
          refine lv_iload_n hx hb dX2_wordsNeeded_25 rfl (lv_at hl 0 rfl) ?_
          refine vp_callSi (va_Run.run (va_runS (As := [.int w]) (rest := []) ⟨hx, hb, hml, hown, hts⟩ (mX2_wordsPerRow l w (by omega) (by omega)) (va_cwS 1 hts (gA (m3 k93 k94 k1) k95) rfl rfl rfl (by decide +kernel) ⟨Nat.le_of_ble_eq_true rfl, Nat.le_of_ble_eq_true rfl⟩) (prT) rfl rfl hl.1 rfl (lv_room (Nat.le_of_ble_eq_true rfl)) dX2_wordsNeeded_26 ⟨Nat.le_of_ble_eq_true rfl, Nat.le_of_ble_eq_true rfl⟩)) (fun r8 hwr8 => ?_)
          try dsimp only at hwr8
          refine lv_iload_n hx hb dX2_wordsNeeded_29 rfl (lv_at hl 1 rfl) ?_
          have hmb := mul_bd (a := r8.toInt) (b := h.toInt) (A := 4000) (B := 4000) (by omega) (by omega) (by omega) (by omega)
          refine lv_imul hx hb dX2_wordsNeeded_30 ?_
          refine lv_topi (fun x9 ex9 => ?_)
          have hx9 : x9.toInt = r8.toInt * h.toInt := by rw [ex9]; exact ti_mul rfl rfl (by omega) (by omega)
          refine lv_istore_n (lv' := [(2, .int x9), (0, .int w), (1, .int h)]) hx hb dX2_wordsNeeded_31 rfl hl (by decide) rfl (fun ls hl => ?_)
          refine lv_iload_n hx hb dX2_wordsNeeded_32 rfl (lv_at hl 0 rfl) ?_
          refine lv_sipush (v := (4000)) hx hb dX2_wordsNeeded_33 (by decide) ?_
          refine lv_icmp_le (tgt := 43) hx hb dX2_wordsNeeded_36 (by decide) (fun c10 => ?_) (fun c10 => ?_)
          · replace c10 := (ti_le rfl (by decide : (4000 : Int32).toInt = (4000 : Int))).mp c10
            refine lv_iload_n hx hb dX2_wordsNeeded_43 rfl (lv_at hl 0 rfl) ?_
            have hfin : x9.toInt = ((w.toInt + 15) / 16) * h.toInt := by rw [hx9, hwr8]
            exact W.iret (v := x9) hx hb hr (fun t9 ht9 _ => ⟨x9, rfl, by omega, ht9⟩) (fun _ h => absurd h List.not_mem_nil) dX2_wordsNeeded_44
          · replace c10 := mt (ti_le rfl (by decide : (4000 : Int32).toInt = (4000 : Int))).mpr c10
            refine lv_iconst (v := (-1)) hx hb dX2_wordsNeeded_39 (by decide) ?_
            refine lv_goto (tgt := 44) hx hb dX2_wordsNeeded_40 (by decide) ?_
            refine lv_topi (fun r11 er11 => ?_)
            have hr11 : r11.toInt = (-1 : Int) := by rw [er11]; exact (by decide : (-1 : Int32).toInt = (-1 : Int))
            have hfin : x9.toInt = ((w.toInt + 15) / 16) * h.toInt := by rw [hx9, hwr8]
            exact W.iret (v := r11) hx hb hr (fun t9 ht9 _ => ⟨r11, rfl, by omega, ht9⟩) (fun _ h => absurd h List.not_mem_nil) dX2_wordsNeeded_44
        · replace c7 := mt (ti_le rfl (by decide : (4000 : Int32).toInt = (4000 : Int))).mpr c7
          refine lv_iconst (v := (-1)) hx hb dX2_wordsNeeded_23 (by decide) ?_
          refine lv_topi (fun r12 er12 => ?_)
          have hr12 : r12.toInt = (-1 : Int) := by rw [er12]; exact (by decide : (-1 : Int32).toInt = (-1 : Int))
          exact W.iret (v := r12) hx hb hr (fun t9 ht9 _ => ⟨r12, rfl, by omega, ht9⟩) (fun _ h => absurd h List.not_mem_nil) dX2_wordsNeeded_24
set_option maxHeartbeats 8000000 in
set_option maxRecDepth 100000 in
theorem mX2_spanMask (l : Launch) (k : Int32) (st : Int32) (en : Int32) (h1 : 0 ≤ k.toInt ∧ k.toInt ≤ 4000) (h2 : 0 ≤ st.toInt ∧ st.toInt ≤ 64000) (h3 : 0 ≤ en.toInt ∧ en.toInt ≤ 64000) (h4 : st.toInt - 16 * k.toInt ≤ 15) (h5 : 1 ≤ en.toInt - 16 * k.toInt) : Met l yX2_spanMask (wM yX2_spanMask cX2_spanMask 5 (some .int)) ({ frames := 1, cells := 0, slots := 0, locals := 21 }) (va_Pc [.int k, .int st, .int en] (fun _ => True)) (vp_Si (fun r => ∀ j, j < 32 → bt r j = (decide (j < 16) && (decide (st.toInt ≤ 16 * k.toInt + 15 - j) && decide (16 * k.toInt + 15 - j < en.toInt))))) 0 0 (fun _ => False) := by
  refine Met.ofW (cc := cX2_spanMask) (maxL := 5) (ret := (some .int)) (by decide +kernel) rfl ?_
  intro p e s m args below meth c s₁ B hml hv
  obtain ⟨rfl, -⟩ := hv
  have hx := B.exec
  have hb := B.bytes
  have hr := B.returns
  have hts : ∀ w ∈ tblG, w.before _ s = true := fun w h => atoms_spec (ws := wM yX2_spanMask cX2_spanMask 5 (some .int)) B.pre w (List.mem_cons_of_mem _ h)
  have hown : s.vm.findClass RX2 = some m.cls := findClass_of_methodNamed B.named
  have hlocks := B.notSynchronized
  have hl := lv_entry ([.int k, .int st, .int en]) (n := 5) (Nat.le_of_ble_eq_true rfl)
  rw [lg_entry_eq]
  generalize (lg_sl ([.int k, .int st, .int en]) ++ List.replicate (5 - (lg_sl ([.int k, .int st, .int en])).length) Slot.unset).toArray = ls at hl ⊢
  have hl : lv_has ls 5 [(0, .int k), (1, .int st), (2, .int en)] := hl
  refine lv_iload_n hx hb dX2_spanMask_0 rfl (lv_at hl 1 rfl) ?_
  refine lv_iload_n hx hb dX2_spanMask_1 rfl (lv_at hl 0 rfl) ?_
  refine lv_bipush (v := (16)) hx hb dX2_spanMask_2 (by decide) ?_
  refine lv_imul hx hb dX2_spanMask_4 ?_
  refine lv_topi (fun x1 ex1 => ?_)
  have hx1 : x1.toInt = k.toInt * (16 : Int) := by rw [ex1]; exact ti_mul rfl (by decide : (16 : Int32).toInt = (16 : Int)) (by omega) (by omega)
  refine lv_isub hx hb dX2_spanMask_5 ?_
  refine lv_topi (fun x2 ex2 => ?_)
  have hx2 : x2.toInt = st.toInt - x1.toInt := by rw [ex2]; exact ti_sub rfl rfl (by omega) (by omega)
  refine lv_iconst (v := 0) hx hb dX2_spanMask_6 (by decide) ?_
  refine va_mmax hx hb (hml.trans hl.1.symm) hown (hts _ k132) (hts _ k104) (hts _ k5) (hts _ k105) (Nat.le_of_ble_eq_true rfl) (Nat.le_of_ble_eq_true rfl) (Nat.le_of_ble_eq_true rfl) (Nat.le_of_ble_eq_true rfl) dX2_spanMask_7 ?_
  refine lv_topi (fun x3 ex3 => ?_)
  have hx3 : x3.toInt = max (x2.toInt) ((0 : Int)) := by rw [ex3]; exact ti_max rfl (by decide : (0 : Int32).toInt = (0 : Int))
  refine lv_istore_n (lv' := [(3, .int x3), (0, .int k), (1, .int st), (2, .int en)]) hx hb dX2_spanMask_10 rfl hl (by decide) rfl (fun ls hl => ?_)
  refine lv_iload_n hx hb dX2_spanMask_11 rfl (lv_at hl 3 rfl) ?_
  refine lv_iload_n hx hb dX2_spanMask_12 rfl (lv_at hl 1 rfl) ?_
  refine lv_bipush (v := (16)) hx hb dX2_spanMask_13 (by decide) ?_
  refine lv_imul hx hb dX2_spanMask_15 ?_
  refine lv_topi (fun x4 ex4 => ?_)
  have hx4 : x4.toInt = k.toInt * (16 : Int) := by rw [ex4]; exact ti_mul rfl (by decide : (16 : Int32).toInt = (16 : Int)) (by omega) (by omega)
  refine lv_isub hx hb dX2_spanMask_16 ?_
  refine lv_topi (fun x5 ex5 => ?_)
  have hx5 : x5.toInt = en.toInt - x4.toInt := by rw [ex5]; exact ti_sub rfl rfl (by omega) (by omega)
  refine lv_bipush (v := (16)) hx hb dX2_spanMask_17 (by decide) ?_
  refine va_mmin hx hb (hml.trans hl.1.symm) hown (hts _ k133) (hts _ k107) (hts _ k5) (hts _ k108) (Nat.le_of_ble_eq_true rfl) (Nat.le_of_ble_eq_true rfl) (Nat.le_of_ble_eq_true rfl) (Nat.le_of_ble_eq_true rfl) dX2_spanMask_19 ?_
  refine lv_topi (fun x6 ex6 => ?_)
  have hx6 : x6.toInt = min (x5.toInt) ((16 : Int)) := by rw [ex6]; exact ti_min rfl (by decide : (16 : Int32).toInt = (16 : Int))
  refine lv_istore (lv' := [(4, .int x6), (3, .int x3), (0, .int k), (1, .int st), (2, .int en)]) hx hb dX2_spanMask_22 hl (by decide) rfl (fun ls hl => ?_)
  refine lv_ldc (own := RX2) (v := (65535)) hx hb hown (hts _ k134) dX2_spanMask_24 ?_
  refine lv_iload_n hx hb dX2_spanMask_26 rfl (lv_at hl 1 rfl) ?_
  refine lv_iushr hx hb dX2_spanMask_27 rfl ?_
  refine lv_topi (fun x7 ex7 => ?_)
  refine lv_ldc (own := RX2) (v := (65535)) hx hb hown (hts _ k134) dX2_spanMask_28 ?_
  refine lv_iload hx hb dX2_spanMask_30 (lv_at hl 0 rfl) ?_
  refine lv_iushr hx hb dX2_spanMask_32 rfl ?_
  refine lv_topi (fun x8 ex8 => ?_)
  refine lv_iconst (v := (-1)) hx hb dX2_spanMask_33 (by decide) ?_
  refine lv_ixor hx hb dX2_spanMask_34 ?_
  refine lv_topi (fun x9 ex9 => ?_)
  refine lv_iand hx hb dX2_spanMask_35 ?_
  refine lv_topi (fun x10 ex10 => ?_)
  exact W.iret (v := x10) hx hb hr (fun t9 ht9 _ => ⟨x10, rfl, sm_post (by omega) (by omega) (by omega) (by omega) (by omega) ex7 ex8 ex9 ex10, ht9⟩) (fun _ h => absurd h List.not_mem_nil) dX2_spanMask_36
