set_option maxHeartbeats 8000000 in
set_option maxRecDepth 100000 in
theorem mX3_isForm (l : Launch) (f : Int32) : Met l yX3_isForm (wM yX3_isForm cX3_isForm 1 (some .boolean)) ({ frames := 0, cells := 0, slots := 0, locals := 0 }) (va_Pc [.int f] (fun _ => True)) (vp_Si (fun r => (r.toInt = 1 ∧ 0 ≤ f.toInt ∧ f.toInt < 4) ∨ (r.toInt = 0 ∧ (f.toInt < 0 ∨ 4 ≤ f.toInt)))) 0 0 (fun _ => False) := by
  refine Met.ofW (cc := cX3_isForm) (maxL := 1) (ret := (some .boolean)) (by decide +kernel) rfl ?_
  intro p e s m args below meth c s₁ B hml hv
  obtain ⟨rfl, -⟩ := hv
  have hx := B.exec
  have hb := B.bytes
  have hr := B.returns
  have hts : ∀ w ∈ tblG, w.before _ s = true := fun w h => atoms_spec (ws := wM yX3_isForm cX3_isForm 1 (some .boolean)) B.pre w (List.mem_cons_of_mem _ h)
  have hown : s.vm.findClass RX3 = some m.cls := findClass_of_methodNamed B.named
  have hlocks := B.notSynchronized
  have hl := lv_entry ([.int f]) (n := 1) (Nat.le_of_ble_eq_true rfl)
  rw [lg_entry_eq]
  generalize (lg_sl ([.int f]) ++ List.replicate (1 - (lg_sl ([.int f])).length) Slot.unset).toArray = ls at hl ⊢
  have hl : lv_has ls 1 [(0, .int f)] := hl
  refine lv_iload_n hx hb dX3_isForm_0 rfl (lv_at hl 0 rfl) ?_
  refine lv_if_lt (tgt := 13) hx hb dX3_isForm_1 (by decide) (fun c1 => ?_) (fun c1 => ?_)
  · replace c1 := (ti_lt rfl (by decide : (0 : Int32).toInt = (0 : Int))).mp c1
    refine lv_iconst (v := 0) hx hb dX3_isForm_13 (by decide) ?_
    refine lv_topi (fun r2 er2 => ?_)
    have hr2 : r2.toInt = (0 : Int) := by rw [er2]; exact (by decide : (0 : Int32).toInt = (0 : Int))
    exact W.zret (ty := .boolean) (v := r2) hx hb hr (nar_b (by omega)) (fun t9 ht9 _ => ⟨r2, rfl, by omega, ht9⟩) (fun _ h => absurd h List.not_mem_nil) dX3_isForm_14
  · replace c1 := mt (ti_lt rfl (by decide : (0 : Int32).toInt = (0 : Int))).mpr c1
    refine lv_iload_n hx hb dX3_isForm_4 rfl (lv_at hl 0 rfl) ?_
    refine lv_iconst (v := 4) hx hb dX3_isForm_5 (by decide) ?_
    refine lv_icmp_ge (tgt := 13) hx hb dX3_isForm_6 (by decide) (fun c3 => ?_) (fun c3 => ?_)
    · replace c3 := (ti_le (by decide : (4 : Int32).toInt = (4 : Int)) rfl).mp c3
      refine lv_iconst (v := 0) hx hb dX3_isForm_13 (by decide) ?_
      refine lv_topi (fun r4 er4 => ?_)
      have hr4 : r4.toInt = (0 : Int) := by rw [er4]; exact (by decide : (0 : Int32).toInt = (0 : Int))
      exact W.zret (ty := .boolean) (v := r4) hx hb hr (nar_b (by omega)) (fun t9 ht9 _ => ⟨r4, rfl, by omega, ht9⟩) (fun _ h => absurd h List.not_mem_nil) dX3_isForm_14
    · replace c3 := mt (ti_le (by decide : (4 : Int32).toInt = (4 : Int)) rfl).mpr c3
      refine lv_iconst (v := 1) hx hb dX3_isForm_9 (by decide) ?_
      refine lv_goto (tgt := 14) hx hb dX3_isForm_10 (by decide) ?_
      refine lv_topi (fun r5 er5 => ?_)
      have hr5 : r5.toInt = (1 : Int) := by rw [er5]; exact (by decide : (1 : Int32).toInt = (1 : Int))
      exact W.zret (ty := .boolean) (v := r5) hx hb hr (nar_b (by omega)) (fun t9 ht9 _ => ⟨r5, rfl, by omega, ht9⟩) (fun _ h => absurd h List.not_mem_nil) dX3_isForm_14
set_option maxHeartbeats 8000000 in
set_option maxRecDepth 100000 in
theorem mX3_isNumber (l : Launch) (f : Int32) : Met l yX3_isNumber (wM yX3_isNumber cX3_isNumber 1 (some .boolean)) ({ frames := 0, cells := 0, slots := 0, locals := 0 }) (va_Pc [.int f] (fun _ => True)) (vp_Si (fun r => (r.toInt = 1 ∧ -32768 ≤ f.toInt ∧ f.toInt ≤ 32767) ∨ (r.toInt = 0 ∧ (f.toInt < -32768 ∨ 32767 < f.toInt)))) 0 0 (fun _ => False) := by
  refine Met.ofW (cc := cX3_isNumber) (maxL := 1) (ret := (some .boolean)) (by decide +kernel) rfl ?_
  intro p e s m args below meth c s₁ B hml hv
  obtain ⟨rfl, -⟩ := hv
  have hx := B.exec
  have hb := B.bytes
  have hr := B.returns
  have hts : ∀ w ∈ tblG, w.before _ s = true := fun w h => atoms_spec (ws := wM yX3_isNumber cX3_isNumber 1 (some .boolean)) B.pre w (List.mem_cons_of_mem _ h)
  have hown : s.vm.findClass RX3 = some m.cls := findClass_of_methodNamed B.named
  have hlocks := B.notSynchronized
  have hl := lv_entry ([.int f]) (n := 1) (Nat.le_of_ble_eq_true rfl)
  rw [lg_entry_eq]
  generalize (lg_sl ([.int f]) ++ List.replicate (1 - (lg_sl ([.int f])).length) Slot.unset).toArray = ls at hl ⊢
  have hl : lv_has ls 1 [(0, .int f)] := hl
  refine lv_iload_n hx hb dX3_isNumber_0 rfl (lv_at hl 0 rfl) ?_
  refine lv_sipush (v := (-32768)) hx hb dX3_isNumber_1 (by decide) ?_
  refine lv_icmp_lt (tgt := 17) hx hb dX3_isNumber_4 (by decide) (fun c1 => ?_) (fun c1 => ?_)
  · replace c1 := (ti_lt rfl (by decide : (-32768 : Int32).toInt = (-32768 : Int))).mp c1
    refine lv_iconst (v := 0) hx hb dX3_isNumber_17 (by decide) ?_
    refine lv_topi (fun r2 er2 => ?_)
    have hr2 : r2.toInt = (0 : Int) := by rw [er2]; exact (by decide : (0 : Int32).toInt = (0 : Int))
    exact W.zret (ty := .boolean) (v := r2) hx hb hr (nar_b (by omega)) (fun t9 ht9 _ => ⟨r2, rfl, by omega, ht9⟩) (fun _ h => absurd h List.not_mem_nil) dX3_isNumber_18
  · replace c1 := mt (ti_lt rfl (by decide : (-32768 : Int32).toInt = (-32768 : Int))).mpr c1
    refine lv_iload_n hx hb dX3_isNumber_7 rfl (lv_at hl 0 rfl) ?_
    refine lv_ldc (own := RX3) (v := (32768)) hx hb hown (hts _ k344) dX3_isNumber_8 ?_
    refine lv_icmp_ge (tgt := 17) hx hb dX3_isNumber_10 (by decide) (fun c3 => ?_) (fun c3 => ?_)
    · replace c3 := (ti_le (by decide : (32768 : Int32).toInt = (32768 : Int)) rfl).mp c3
      refine lv_iconst (v := 0) hx hb dX3_isNumber_17 (by decide) ?_
      refine lv_topi (fun r4 er4 => ?_)
      have hr4 : r4.toInt = (0 : Int) := by rw [er4]; exact (by decide : (0 : Int32).toInt = (0 : Int))
      exact W.zret (ty := .boolean) (v := r4) hx hb hr (nar_b (by omega)) (fun t9 ht9 _ => ⟨r4, rfl, by omega, ht9⟩) (fun _ h => absurd h List.not_mem_nil) dX3_isNumber_18
    · replace c3 := mt (ti_le (by decide : (32768 : Int32).toInt = (32768 : Int)) rfl).mpr c3
      refine lv_iconst (v := 1) hx hb dX3_isNumber_13 (by decide) ?_
      refine lv_goto (tgt := 18) hx hb dX3_isNumber_14 (by decide) ?_
      refine lv_topi (fun r5 er5 => ?_)
      have hr5 : r5.toInt = (1 : Int) := by rw [er5]; exact (by decide : (1 : Int32).toInt = (1 : Int))
      exact W.zret (ty := .boolean) (v := r5) hx hb hr (nar_b (by omega)) (fun t9 ht9 _ => ⟨r5, rfl, by omega, ht9⟩) (fun _ h => absurd h List.not_mem_nil) dX3_isNumber_18
set_option maxHeartbeats 8000000 in
set_option maxRecDepth 100000 in
theorem mX3_sign (l : Launch) (f : Int32) : Met l yX3_sign (wM yX3_sign cX3_sign 1 (some .int)) ({ frames := 0, cells := 0, slots := 0, locals := 0 }) (va_Pc [.int f] (fun _ => True)) (vp_Si (fun r => (r.toInt = 1 ∧ 0 < f.toInt) ∨ (r.toInt = -1 ∧ f.toInt < 0) ∨ (r.toInt = 0 ∧ f.toInt = 0))) 0 0 (fun _ => False) := by
  refine Met.ofW (cc := cX3_sign) (maxL := 1) (ret := (some .int)) (by decide +kernel) rfl ?_
  intro p e s m args below meth c s₁ B hml hv
  obtain ⟨rfl, -⟩ := hv
  have hx := B.exec
  have hb := B.bytes
  have hr := B.returns
  have hts : ∀ w ∈ tblG, w.before _ s = true := fun w h => atoms_spec (ws := wM yX3_sign cX3_sign 1 (some .int)) B.pre w (List.mem_cons_of_mem _ h)
  have hown : s.vm.findClass RX3 = some m.cls := findClass_of_methodNamed B.named
  have hlocks := B.notSynchronized
  have hl := lv_entry ([.int f]) (n := 1) (Nat.le_of_ble_eq_true rfl)
  rw [lg_entry_eq]
  generalize (lg_sl ([.int f]) ++ List.replicate (1 - (lg_sl ([.int f])).length) Slot.unset).toArray = ls at hl ⊢
  have hl : lv_has ls 1 [(0, .int f)] := hl
  refine lv_iload_n hx hb dX3_sign_0 rfl (lv_at hl 0 rfl) ?_
  refine lv_if_le (tgt := 8) hx hb dX3_sign_1 (by decide) (fun c1 => ?_) (fun c1 => ?_)
  · replace c1 := (ti_le rfl (by decide : (0 : Int32).toInt = (0 : Int))).mp c1
    refine lv_iload_n hx hb dX3_sign_8 rfl (lv_at hl 0 rfl) ?_
    refine lv_if_ge (tgt := 16) hx hb dX3_sign_9 (by decide) (fun c2 => ?_) (fun c2 => ?_)
    · replace c2 := (ti_le (by decide : (0 : Int32).toInt = (0 : Int)) rfl).mp c2
      refine lv_iconst (v := 0) hx hb dX3_sign_16 (by decide) ?_
      refine lv_topi (fun r3 er3 => ?_)
      have hr3 : r3.toInt = (0 : Int) := by rw [er3]; exact (by decide : (0 : Int32).toInt = (0 : Int))
      exact W.iret (v := r3) hx hb hr (fun t9 ht9 _ => ⟨r3, rfl, by omega, ht9⟩) (fun _ h => absurd h List.not_mem_nil) dX3_sign_17
    · replace c2 := mt (ti_le (by decide : (0 : Int32).toInt = (0 : Int)) rfl).mpr c2
      refine lv_iconst (v := (-1)) hx hb dX3_sign_12 (by decide) ?_
      refine lv_goto (tgt := 17) hx hb dX3_sign_13 (by decide) ?_
      refine lv_topi (fun r4 er4 => ?_)
      have hr4 : r4.toInt = (-1 : Int) := by rw [er4]; exact (by decide : (-1 : Int32).toInt = (-1 : Int))
      exact W.iret (v := r4) hx hb hr (fun t9 ht9 _ => ⟨r4, rfl, by omega, ht9⟩) (fun _ h => absurd h List.not_mem_nil) dX3_sign_17
  · replace c1 := mt (ti_le rfl (by decide : (0 : Int32).toInt = (0 : Int))).mpr c1
    refine lv_iconst (v := 1) hx hb dX3_sign_4 (by decide) ?_
    refine lv_goto (tgt := 17) hx hb dX3_sign_5 (by decide) ?_
    refine lv_topi (fun r5 er5 => ?_)
    have hr5 : r5.toInt = (1 : Int) := by rw [er5]; exact (by decide : (1 : Int32).toInt = (1 : Int))
    exact W.iret (v := r5) hx hb hr (fun t9 ht9 _ => ⟨r5, rfl, by omega, ht9⟩) (fun _ h => absurd h List.not_mem_nil) dX3_sign_17
set_option maxHeartbeats 8000000 in
set_option maxRecDepth 100000 in
theorem mX3_greatest (l : Launch) (x : Int32) (y : Int32) (z : Int32) : Met l yX3_greatest (wM yX3_greatest cX3_greatest 4 (some .int)) ({ frames := 0, cells := 0, slots := 0, locals := 0 }) (va_Pc [.int x, .int y, .int z] (fun _ => True)) (vp_Si (fun r => r.toInt = gr3 x.toInt y.toInt z.toInt)) 0 0 (fun _ => False) := by
  refine Met.ofW (cc := cX3_greatest) (maxL := 4) (ret := (some .int)) (by decide +kernel) rfl ?_
  intro p e s m args below meth c s₁ B hml hv
  obtain ⟨rfl, -⟩ := hv
  have hx := B.exec
  have hb := B.bytes
  have hr := B.returns
  have hts : ∀ w ∈ tblG, w.before _ s = true := fun w h => atoms_spec (ws := wM yX3_greatest cX3_greatest 4 (some .int)) B.pre w (List.mem_cons_of_mem _ h)
  have hown : s.vm.findClass RX3 = some m.cls := findClass_of_methodNamed B.named
  have hlocks := B.notSynchronized
  have hl := lv_entry ([.int x, .int y, .int z]) (n := 4) (Nat.le_of_ble_eq_true rfl)
  rw [lg_entry_eq]
  generalize (lg_sl ([.int x, .int y, .int z]) ++ List.replicate (4 - (lg_sl ([.int x, .int y, .int z])).length) Slot.unset).toArray = ls at hl ⊢
  have hl : lv_has ls 4 [(0, .int x), (1, .int y), (2, .int z)] := hl
  refine lv_iload_n hx hb dX3_greatest_0 rfl (lv_at hl 0 rfl) ?_
  refine lv_iload_n hx hb dX3_greatest_1 rfl (lv_at hl 1 rfl) ?_
  refine lv_icmp_le (tgt := 9) hx hb dX3_greatest_2 (by decide) (fun c1 => ?_) (fun c1 => ?_)
  · replace c1 := (ti_le rfl rfl).mp c1
    refine lv_iload_n hx hb dX3_greatest_9 rfl (lv_at hl 1 rfl) ?_
    refine lv_istore_n (lv' := [(3, .int y), (0, .int x), (1, .int y), (2, .int z)]) hx hb dX3_greatest_10 rfl hl (by decide) rfl (fun ls hl => ?_)
    refine lv_iload_n hx hb dX3_greatest_11 rfl (lv_at hl 0 rfl) ?_
    refine lv_iload_n hx hb dX3_greatest_12 rfl (lv_at hl 3 rfl) ?_
    refine lv_icmp_le (tgt := 20) hx hb dX3_greatest_13 (by decide) (fun c2 => ?_) (fun c2 => ?_)
    · replace c2 := (ti_le rfl rfl).mp c2
      refine lv_iload_n hx hb dX3_greatest_20 rfl (lv_at hl 3 rfl) ?_
      exact W.iret (v := z) hx hb hr (fun t9 ht9 _ => ⟨z, rfl, by unfold gr3; omega, ht9⟩) (fun _ h => absurd h List.not_mem_nil) dX3_greatest_21
    · replace c2 := mt (ti_le rfl rfl).mpr c2
      refine lv_iload_n hx hb dX3_greatest_16 rfl (lv_at hl 0 rfl) ?_
      refine lv_goto (tgt := 21) hx hb dX3_greatest_17 (by decide) ?_
      exact W.iret (v := y) hx hb hr (fun t9 ht9 _ => ⟨y, rfl, by unfold gr3; omega, ht9⟩) (fun _ h => absurd h List.not_mem_nil) dX3_greatest_21
  · replace c1 := mt (ti_le rfl rfl).mpr c1
    refine lv_iload_n hx hb dX3_greatest_5 rfl (lv_at hl 0 rfl) ?_
    refine lv_goto (tgt := 10) hx hb dX3_greatest_6 (by decide) ?_
    refine lv_istore_n (lv' := [(3, .int x), (0, .int x), (1, .int y), (2, .int z)]) hx hb dX3_greatest_10 rfl hl (by decide) rfl (fun ls hl => ?_)
    refine lv_iload_n hx hb dX3_greatest_11 rfl (lv_at hl 0 rfl) ?_
    refine lv_iload_n hx hb dX3_greatest_12 rfl (lv_at hl 3 rfl) ?_
    refine lv_icmp_le (tgt := 20) hx hb dX3_greatest_13 (by decide) (fun c3 => ?_) (fun c3 => ?_)
    · replace c3 := (ti_le rfl rfl).mp c3
      refine lv_iload_n hx hb dX3_greatest_20 rfl (lv_at hl 3 rfl) ?_
      exact W.iret (v := z) hx hb hr (fun t9 ht9 _ => ⟨z, rfl, by unfold gr3; omega, ht9⟩) (fun _ h => absurd h List.not_mem_nil) dX3_greatest_21
    · replace c3 := mt (ti_le rfl rfl).mpr c3
      refine lv_iload_n hx hb dX3_greatest_16 rfl (lv_at hl 0 rfl) ?_
      refine lv_goto (tgt := 21) hx hb dX3_greatest_17 (by decide) ?_
      exact W.iret (v := x) hx hb hr (fun t9 ht9 _ => ⟨x, rfl, by unfold gr3; omega, ht9⟩) (fun _ h => absurd h List.not_mem_nil) dX3_greatest_21
set_option maxHeartbeats 8000000 in
set_option maxRecDepth 100000 in
theorem mX3_least (l : Launch) (x : Int32) (y : Int32) (z : Int32) : Met l yX3_least (wM yX3_least cX3_least 4 (some .int)) ({ frames := 0, cells := 0, slots := 0, locals := 0 }) (va_Pc [.int x, .int y, .int z] (fun _ => True)) (vp_Si (fun r => r.toInt = le3 x.toInt y.toInt z.toInt)) 0 0 (fun _ => False) := by
  refine Met.ofW (cc := cX3_least) (maxL := 4) (ret := (some .int)) (by decide +kernel) rfl ?_
  intro p e s m args below meth c s₁ B hml hv
  obtain ⟨rfl, -⟩ := hv
  have hx := B.exec
  have hb := B.bytes
  have hr := B.returns
  have hts : ∀ w ∈ tblG, w.before _ s = true := fun w h => atoms_spec (ws := wM yX3_least cX3_least 4 (some .int)) B.pre w (List.mem_cons_of_mem _ h)
  have hown : s.vm.findClass RX3 = some m.cls := findClass_of_methodNamed B.named
  have hlocks := B.notSynchronized
  have hl := lv_entry ([.int x, .int y, .int z]) (n := 4) (Nat.le_of_ble_eq_true rfl)
  rw [lg_entry_eq]
  generalize (lg_sl ([.int x, .int y, .int z]) ++ List.replicate (4 - (lg_sl ([.int x, .int y, .int z])).length) Slot.unset).toArray = ls at hl ⊢
  have hl : lv_has ls 4 [(0, .int x), (1, .int y), (2, .int z)] := hl
  refine lv_iload_n hx hb dX3_least_0 rfl (lv_at hl 0 rfl) ?_
  refine lv_iload_n hx hb dX3_least_1 rfl (lv_at hl 1 rfl) ?_
  refine lv_icmp_ge (tgt := 9) hx hb dX3_least_2 (by decide) (fun c1 => ?_) (fun c1 => ?_)
  · replace c1 := (ti_le rfl rfl).mp c1
    refine lv_iload_n hx hb dX3_least_9 rfl (lv_at hl 1 rfl) ?_
    refine lv_istore_n (lv' := [(3, .int y), (0, .int x), (1, .int y), (2, .int z)]) hx hb dX3_least_10 rfl hl (by decide) rfl (fun ls hl => ?_)
    refine lv_iload_n hx hb dX3_least_11 rfl (lv_at hl 0 rfl) ?_
    refine lv_iload_n hx hb dX3_least_12 rfl (lv_at hl 3 rfl) ?_
    refine lv_icmp_ge (tgt := 20) hx hb dX3_least_13 (by decide) (fun c2 => ?_) (fun c2 => ?_)
    · replace c2 := (ti_le rfl rfl).mp c2
      refine lv_iload_n hx hb dX3_least_20 rfl (lv_at hl 3 rfl) ?_
      exact W.iret (v := z) hx hb hr (fun t9 ht9 _ => ⟨z, rfl, by unfold le3; omega, ht9⟩) (fun _ h => absurd h List.not_mem_nil) dX3_least_21
    · replace c2 := mt (ti_le rfl rfl).mpr c2
      refine lv_iload_n hx hb dX3_least_16 rfl (lv_at hl 0 rfl) ?_
      refine lv_goto (tgt := 21) hx hb dX3_least_17 (by decide) ?_
      exact W.iret (v := y) hx hb hr (fun t9 ht9 _ => ⟨y, rfl, by unfold le3; omega, ht9⟩) (fun _ h => absurd h List.not_mem_nil) dX3_least_21
  · replace c1 := mt (ti_le rfl rfl).mpr c1
    refine lv_iload_n hx hb dX3_least_5 rfl (lv_at hl 0 rfl) ?_
    refine lv_goto (tgt := 10) hx hb dX3_least_6 (by decide) ?_
    refine lv_istore_n (lv' := [(3, .int x), (0, .int x), (1, .int y), (2, .int z)]) hx hb dX3_least_10 rfl hl (by decide) rfl (fun ls hl => ?_)
    refine lv_iload_n hx hb dX3_least_11 rfl (lv_at hl 0 rfl) ?_
    refine lv_iload_n hx hb dX3_least_12 rfl (lv_at hl 3 rfl) ?_
    refine lv_icmp_ge (tgt := 20) hx hb dX3_least_13 (by decide) (fun c3 => ?_) (fun c3 => ?_)
    · replace c3 := (ti_le rfl rfl).mp c3
      refine lv_iload_n hx hb dX3_least_20 rfl (lv_at hl 3 rfl) ?_
      exact W.iret (v := z) hx hb hr (fun t9 ht9 _ => ⟨z, rfl, by unfold le3; omega, ht9⟩) (fun _ h => absurd h List.not_mem_nil) dX3_least_21
    · replace c3 := mt (ti_le rfl rfl).mpr c3
      refine lv_iload_n hx hb dX3_least_16 rfl (lv_at hl 0 rfl) ?_
      refine lv_goto (tgt := 21) hx hb dX3_least_17 (by decide) ?_
      exact W.iret (v := x) hx hb hr (fun t9 ht9 _ => ⟨x, rfl, by unfold le3; omega, ht9⟩) (fun _ h => absurd h List.not_mem_nil) dX3_least_21
set_option maxHeartbeats 8000000 in
set_option maxRecDepth 100000 in
theorem mX3_perRow (l : Launch) {dC : Nat → ClassId} {dI : Nat → Nat → Nat} {m0 a1 a2 a3 a4 a5 a6 : Nat} {cI : ClassId} {wd ht ws bf mk nu : Nat → Int32} {tg so pa ru : Int32} {wN hN : Nat → Nat} {Bt : Nat → Nat → Nat → Bool} {nz : Nat → Int} {tn : Nat} {sn pn : Option Nat} {rA : Int32} (f : Int32) (hM : RM wN hN Bt nz tn sn pn rA wd ht ws nu tg so pa ru) {t : Nat} (et : f.toInt = (t : Int)) (h4t : t < 4) : Met l yX3_perRow (wM yX3_perRow cX3_perRow 2 (some .int)) ({ frames := 0, cells := 0, slots := 0, locals := 0 }) (va_Pc [.ref m0, .int f] (rP (dC, dI) vwCl (tyM cI) (w_md m0 a1 a2 a3 a4 a5 a6 cI wd ht ws bf mk nu tg so pa ru))) (vp_Si (fun r => r.toInt = (rN wN t : Int))) 0 0 (fun _ => False) := by
  refine Met.ofW (cc := cX3_perRow) (maxL := 2) (ret := (some .int)) (by decide +kernel) rfl ?_
  intro p e s m args below meth c s₁ B hml hv
  obtain ⟨rfl, hP, hK, hNS⟩ := hv
  have hx := B.exec
  have hb := B.bytes
  have hr := B.returns
  have hts : ∀ w ∈ tblG, w.before _ s = true := fun w h => atoms_spec (ws := wM yX3_perRow cX3_perRow 2 (some .int)) B.pre w (List.mem_cons_of_mem _ h)
  have hown : s.vm.findClass RX3 = some m.cls := findClass_of_methodNamed B.named
  have hlocks := B.notSynchronized
  have hl := lv_entry ([.ref m0, .int f]) (n := 2) (Nat.le_of_ble_eq_true rfl)
  rw [lg_entry_eq]
  generalize (lg_sl ([.ref m0, .int f]) ++ List.replicate (2 - (lg_sl ([.ref m0, .int f])).length) Slot.unset).toArray = ls at hl ⊢
  have hl : lv_has ls 2 [(0, .ref m0), (1, .int f)] := hl
  obtain ⟨hF, hnu, htg, htn, hso, hsn, hpa, hpn, hru, hr1, hr2⟩ := id hM
  have hso4 := oz_lo hsn
  have hpa4 := oz_lo hpn
  obtain ⟨fw_t, fh_t, f1_t, f2_t, f3_t, f6_t, f7_t, fB_t⟩ := hF t h4t
  have frd_t : rN wN t = (wN t + 15) / 16 := rfl
  refine lv_aload_n hx hb dX3_perRow_0 rfl (lv_at hl 0 rfl) ?_
  refine va_get (D := (dC, dI)) (ci := 3) (v := .ref a1) (C := RX3) (T := TX3) (N := 10) hx hb hts inX3 hown hK hP 0 rfl rfl 0 (by decide) (hts _ k290) (fun _ h9 => h9) rfl dX3_perRow_1 ?_
  refine lv_iload_n hx hb dX3_perRow_4 rfl (lv_at hl 1 rfl) ?_
  refine iaK hx hb hK hP 1 0 rfl rfl (t) (et) (by omega) dX3_perRow_5 ?_
  refine lv_topi (fun x1 ex1 => ?_)
  have hzx1 : x1.toInt = (wN t : Int) := by rw [ex1]; exact fw_t
  refine lv_bipush (v := (15)) hx hb dX3_perRow_6 (by decide) ?_
  refine lv_iadd hx hb dX3_perRow_8 ?_
  refine lv_topi (fun x2 ex2 => ?_)
  have hx2 : x2.toInt = x1.toInt + (15 : Int) := by rw [ex2]; exact ti_add rfl (by decide : (15 : Int32).toInt = (15 : Int)) (by omega) (by omega)
  refine lv_bipush (v := (16)) hx hb dX3_perRow_9 (by decide) ?_
  refine lv_idiv hx hb dX3_perRow_11 (by decide) ?_
  refine lv_topi (fun x3 ex3 => ?_)
  have hx3 : x3.toInt = x2.toInt / (16 : Int) := by rw [ex3]; exact ti_div rfl (by decide : (16 : Int32).toInt = (16 : Int)) (by omega) (by omega)
  exact W.iret (v := x3) hx hb hr (fun t9 ht9 _ => ⟨x3, rfl, by omega, ht9⟩) (fun _ h => absurd h List.not_mem_nil) dX3_perRow_12
set_option maxHeartbeats 8000000 in
set_option maxRecDepth 100000 in
theorem mX3_isPattern (l : Launch) {dC : Nat → ClassId} {dI : Nat → Nat → Nat} {m0 a1 a2 a3 a4 a5 a6 : Nat} {cI : ClassId} {wd ht ws bf mk nu : Nat → Int32} {tg so pa ru : Int32} {wN hN : Nat → Nat} {Bt : Nat → Nat → Nat → Bool} {nz : Nat → Int} {tn : Nat} {sn pn : Option Nat} {rA : Int32} (f : Int32) (hM : RM wN hN Bt nz tn sn pn rA wd ht ws nu tg so pa ru) {t : Nat} (et : f.toInt = (t : Int)) (h4t : t < 4) : Met l yX3_isPattern (wM yX3_isPattern cX3_isPattern 2 (some .boolean)) ({ frames := 0, cells := 0, slots := 0, locals := 0 }) (va_Pc [.ref m0, .int f] (rP (dC, dI) vwCl (tyM cI) (w_md m0 a1 a2 a3 a4 a5 a6 cI wd ht ws bf mk nu tg so pa ru))) (vp_Si (fun r => (r.toInt = 1 ∧ wN t = 16 ∧ hN t = 16) ∨ (r.toInt = 0 ∧ ¬ (wN t = 16 ∧ hN t = 16)))) 0 0 (fun _ => False) := by
  refine Met.ofW (cc := cX3_isPattern) (maxL := 2) (ret := (some .boolean)) (by decide +kernel) rfl ?_
  intro p e s m args below meth c s₁ B hml hv
  obtain ⟨rfl, hP, hK, hNS⟩ := hv
  have hx := B.exec
  have hb := B.bytes
  have hr := B.returns
  have hts : ∀ w ∈ tblG, w.before _ s = true := fun w h => atoms_spec (ws := wM yX3_isPattern cX3_isPattern 2 (some .boolean)) B.pre w (List.mem_cons_of_mem _ h)
  have hown : s.vm.findClass RX3 = some m.cls := findClass_of_methodNamed B.named
  have hlocks := B.notSynchronized
  have hl := lv_entry ([.ref m0, .int f]) (n := 2) (Nat.le_of_ble_eq_true rfl)
  rw [lg_entry_eq]
  generalize (lg_sl ([.ref m0, .int f]) ++ List.replicate (2 - (lg_sl ([.ref m0, .int f])).length) Slot.unset).toArray = ls at hl ⊢
  have hl : lv_has ls 2 [(0, .ref m0), (1, .int f)] := hl
  obtain ⟨hF, hnu, htg, htn, hso, hsn, hpa, hpn, hru, hr1, hr2⟩ := id hM
  have hso4 := oz_lo hsn
  have hpa4 := oz_lo hpn
  obtain ⟨fw_t, fh_t, f1_t, f2_t, f3_t, f6_t, f7_t, fB_t⟩ := hF t h4t
  have frd_t : rN wN t = (wN t + 15) / 16 := rfl
  refine lv_aload_n hx hb dX3_isPattern_0 rfl (lv_at hl 0 rfl) ?_
  refine va_get (D := (dC, dI)) (ci := 3) (v := .ref a1) (C := RX3) (T := TX3) (N := 10) hx hb hts inX3 hown hK hP 0 rfl rfl 0 (by decide) (hts _ k290) (fun _ h9 => h9) rfl dX3_isPattern_1 ?_
  refine lv_iload_n hx hb dX3_isPattern_4 rfl (lv_at hl 1 rfl) ?_
  refine iaK hx hb hK hP 1 0 rfl rfl (t) (et) (by omega) dX3_isPattern_5 ?_
  refine lv_topi (fun x1 ex1 => ?_)
  have hzx1 : x1.toInt = (wN t : Int) := by rw [ex1]; exact fw_t
  refine lv_bipush (v := (16)) hx hb dX3_isPattern_6 (by decide) ?_
  refine lv_icmp_ne (tgt := 26) hx hb dX3_isPattern_8 (by decide) (fun c2 => ?_) (fun c2 => ?_)
  · replace c2 := mt (ti_eq rfl (by decide : (16 : Int32).toInt = (16 : Int))).mpr c2
    refine lv_iconst (v := 0) hx hb dX3_isPattern_26 (by decide) ?_
    refine lv_topi (fun r3 er3 => ?_)
    have hr3 : r3.toInt = (0 : Int) := by rw [er3]; exact (by decide : (0 : Int32).toInt = (0 : Int))
    exact W.zret (ty := .boolean) (v := r3) hx hb hr (nar_b (by omega)) (fun t9 ht9 _ => ⟨r3, rfl, by omega, ht9⟩) (fun _ h => absurd h List.not_mem_nil) dX3_isPattern_27
  · replace c2 := (ti_eq rfl (by decide : (16 : Int32).toInt = (16 : Int))).mp c2
    refine lv_aload_n hx hb dX3_isPattern_11 rfl (lv_at hl 0 rfl) ?_
    refine va_get (D := (dC, dI)) (ci := 3) (v := .ref a2) (C := RX3) (T := TX3) (N := 10) hx hb hts inX3 hown hK hP 0 rfl rfl 1 (by decide) (hts _ k291) (fun _ h9 => h9) rfl dX3_isPattern_12 ?_
    refine lv_iload_n hx hb dX3_isPattern_15 rfl (lv_at hl 1 rfl) ?_
    refine iaK hx hb hK hP 2 0 rfl rfl (t) (et) (by omega) dX3_isPattern_16 ?_
    refine lv_topi (fun x4 ex4 => ?_)
    have hzx4 : x4.toInt = (hN t : Int) := by rw [ex4]; exact fh_t
    refine lv_bipush (v := (16)) hx hb dX3_isPattern_17 (by decide) ?_
    refine lv_icmp_ne (tgt := 26) hx hb dX3_isPattern_19 (by decide) (fun c5 => ?_) (fun c5 => ?_)
    · replace c5 := mt (ti_eq rfl (by decide : (16 : Int32).toInt = (16 : Int))).mpr c5
      refine lv_iconst (v := 0) hx hb dX3_isPattern_26 (by decide) ?_
      refine lv_topi (fun r6 er6 => ?_)
      have hr6 : r6.toInt = (0 : Int) := by rw [er6]; exact (by decide : (0 : Int32).toInt = (0 : Int))
      exact W.zret (ty := .boolean) (v := r6) hx hb hr (nar_b (by omega)) (fun t9 ht9 _ => ⟨r6, rfl, by omega, ht9⟩) (fun _ h => absurd h List.not_mem_nil) dX3_isPattern_27
    · replace c5 := (ti_eq rfl (by decide : (16 : Int32).toInt = (16 : Int))).mp c5
      refine lv_iconst (v := 1) hx hb dX3_isPattern_22 (by decide) ?_
      refine lv_goto (tgt := 27) hx hb dX3_isPattern_23 (by decide) ?_
      refine lv_topi (fun r7 er7 => ?_)
      have hr7 : r7.toInt = (1 : Int) := by rw [er7]; exact (by decide : (1 : Int32).toInt = (1 : Int))
      exact W.zret (ty := .boolean) (v := r7) hx hb hr (nar_b (by omega)) (fun t9 ht9 _ => ⟨r7, rfl, by omega, ht9⟩) (fun _ h => absurd h List.not_mem_nil) dX3_isPattern_27
set_option maxHeartbeats 8000000 in
set_option maxRecDepth 100000 in
theorem mX3_isWord (l : Launch) {dC : Nat → ClassId} {dI : Nat → Nat → Nat} {m0 a1 a2 a3 a4 a5 a6 : Nat} {cI : ClassId} {wd ht ws bf mk nu : Nat → Int32} {tg so pa ru : Int32} {wN hN : Nat → Nat} {Bt : Nat → Nat → Nat → Bool} {nz : Nat → Int} {tn : Nat} {sn pn : Option Nat} {rA : Int32} (f : Int32) (i : Int32) (hM : RM wN hN Bt nz tn sn pn rA wd ht ws nu tg so pa ru) : Met l yX3_isWord (wM yX3_isWord cX3_isWord 3 (some .boolean)) ({ frames := 1, cells := 0, slots := 0, locals := 21 }) (va_Pc [.ref m0, .int f, .int i] (rP (dC, dI) vwCl (tyM cI) (w_md m0 a1 a2 a3 a4 a5 a6 cI wd ht ws bf mk nu tg so pa ru))) (vp_Si (fun r => (r.toInt = 1 ∧ ∃ t : Nat, f.toInt = (t : Int) ∧ t < 4 ∧ 0 ≤ i.toInt ∧ i.toInt < ((rN wN t * hN t : Nat) : Int)) ∨ (r.toInt = 0 ∧ ((f.toInt < 0 ∨ 4 ≤ f.toInt) ∨ ∃ t : Nat, f.toInt = (t : Int) ∧ t < 4 ∧ (i.toInt < 0 ∨ ((rN wN t * hN t : Nat) : Int) ≤ i.toInt))))) 0 0 (fun _ => False) := by
  refine Met.ofW (cc := cX3_isWord) (maxL := 3) (ret := (some .boolean)) (by decide +kernel) rfl ?_
  intro p e s m args below meth c s₁ B hml hv
  obtain ⟨rfl, hP, hK, hNS⟩ := hv
  have hx := B.exec
  have hb := B.bytes
  have hr := B.returns
  have hts : ∀ w ∈ tblG, w.before _ s = true := fun w h => atoms_spec (ws := wM yX3_isWord cX3_isWord 3 (some .boolean)) B.pre w (List.mem_cons_of_mem _ h)
  have hown : s.vm.findClass RX3 = some m.cls := findClass_of_methodNamed B.named
  have hlocks := B.notSynchronized
  have hl := lv_entry ([.ref m0, .int f, .int i]) (n := 3) (Nat.le_of_ble_eq_true rfl)
  rw [lg_entry_eq]
  generalize (lg_sl ([.ref m0, .int f, .int i]) ++ List.replicate (3 - (lg_sl ([.ref m0, .int f, .int i])).length) Slot.unset).toArray = ls at hl ⊢
  have hl : lv_has ls 3 [(0, .ref m0), (1, .int f), (2, .int i)] := hl
  obtain ⟨hF, hnu, htg, htn, hso, hsn, hpa, hpn, hru, hr1, hr2⟩ := id hM
  have hso4 := oz_lo hsn
  have hpa4 := oz_lo hpn
  refine lv_iload_n hx hb dX3_isWord_0 rfl (lv_at hl 1 rfl) ?_
  refine vp_callSi (va_Run.run (va_runS (As := [.int f]) (rest := []) ⟨hx, hb, hml, hown, hts⟩ (mX3_isForm l f) (va_cwS 1 hts (gA (m3 k325 k326 k4) k327) rfl rfl rfl (by decide +kernel) ⟨Nat.le_of_ble_eq_true rfl, Nat.le_of_ble_eq_true rfl⟩) (prT) rfl rfl hl.1 rfl (lv_room (Nat.le_of_ble_eq_true rfl)) dX3_isWord_1 ⟨Nat.le_of_ble_eq_true rfl, Nat.le_of_ble_eq_true rfl⟩)) (fun r1 hwr1 => ?_)
  try dsimp only at hwr1
  refine lv_if_eq (tgt := 31) hx hb dX3_isWord_4 (by decide) (fun c2 => ?_) (fun c2 => ?_)
  · replace c2 := (ti_eq rfl (by decide : (0 : Int32).toInt = (0 : Int))).mp c2
    refine lv_iconst (v := 0) hx hb dX3_isWord_31 (by decide) ?_
    refine lv_topi (fun r3 er3 => ?_)
    have hr3 : r3.toInt = (0 : Int) := by rw [er3]; exact (by decide : (0 : Int32).toInt = (0 : Int))
    exact W.zret (ty := .boolean) (v := r3) hx hb hr (nar_b (by omega)) (fun t9 ht9 _ => ⟨r3, rfl, Or.inr ⟨by omega, by first | exact Or.inl (by omega) | exact Or.inr (by have ⟨t, h1⟩ : ∃ t : Nat, f.toInt = (t : Int) := ⟨f.toInt.toNat, by omega⟩; exact ⟨t, h1, by omega, Or.inl (by omega)⟩)⟩, ht9⟩) (fun _ h => absurd h List.not_mem_nil) dX3_isWord_32
  · replace c2 := mt (ti_eq rfl (by decide : (0 : Int32).toInt = (0 : Int))).mpr c2
    refine lv_iload_n hx hb dX3_isWord_7 rfl (lv_at hl 2 rfl) ?_
    refine lv_if_lt (tgt := 31) hx hb dX3_isWord_8 (by decide) (fun c4 => ?_) (fun c4 => ?_)
    · replace c4 := (ti_lt rfl (by decide : (0 : Int32).toInt = (0 : Int))).mp c4
      refine lv_iconst (v := 0) hx hb dX3_isWord_31 (by decide) ?_
      refine lv_topi (fun r5 er5 => ?_)
      have hr5 : r5.toInt = (0 : Int) := by rw [er5]; exact (by decide : (0 : Int32).toInt = (0 : Int))
      exact W.zret (ty := .boolean) (v := r5) hx hb hr (nar_b (by omega)) (fun t9 ht9 _ => ⟨r5, rfl, Or.inr ⟨by omega, by first | exact Or.inl (by omega) | exact Or.inr (by have ⟨t, h1⟩ : ∃ t : Nat, f.toInt = (t : Int) := ⟨f.toInt.toNat, by omega⟩; exact ⟨t, h1, by omega, Or.inl (by omega)⟩)⟩, ht9⟩) (fun _ h => absurd h List.not_mem_nil) dX3_isWord_32
    · replace c4 := mt (ti_lt rfl (by decide : (0 : Int32).toInt = (0 : Int))).mpr c4
      refine lv_iload_n hx hb dX3_isWord_11 rfl (lv_at hl 2 rfl) ?_
      refine lv_aload_n hx hb dX3_isWord_12 rfl (lv_at hl 0 rfl) ?_
      refine lv_iload_n hx hb dX3_isWord_13 rfl (lv_at hl 1 rfl) ?_
      obtain ⟨t, et⟩ : ∃ t : Nat, f.toInt = (t : Int) := ⟨f.toInt.toNat, by omega⟩
      have h4t : t < 4 := by omega
      obtain ⟨fw_t, fh_t, f1_t, f2_t, f3_t, f6_t, f7_t, fB_t⟩ := hF t h4t
      have frd_t : rN wN t = (wN t + 15) / 16 := rfl
      refine vp_callSi (va_Run.run (va_runV (As := [.int f]) (rest := [.int i]) ⟨hx, hb, hml, hown, hts⟩ (mX3_perRow l f hM et h4t) (cwV 1 hts (gA (m4 k331 k333 ksel9 k4) k334) rfl rfl rfl (by decide +kernel) ⟨Nat.le_of_ble_eq_true rfl, Nat.le_of_ble_eq_true rfl⟩) (prRV hP hK hNS rfl (show (w_md m0 a1 a2 a3 a4 a5 a6 cI wd ht ws bf mk nu tg so pa ru)[0]? = some (m0, .inr (3, [.ref a1, .ref a2, .ref a3, .ref a4, .ref a5, .int tg, .int so, .int pa, .int ru, .ref a6])) from rfl)) rfl rfl hl.1 rfl (lv_room (Nat.le_of_ble_eq_true rfl)) dX3_isWord_14 ⟨Nat.le_of_ble_eq_true rfl, Nat.le_of_ble_eq_true rfl⟩)) (fun r6 hwr6 => ?_)
      try dsimp only at hwr6
      refine lv_aload_n hx hb dX3_isWord_17 rfl (lv_at hl 0 rfl) ?_
      refine va_get (D := (dC, dI)) (ci := 3) (v := .ref a2) (C := RX3) (T := TX3) (N := 10) hx hb hts inX3 hown hK hP 0 rfl rfl 1 (by decide) (hts _ k291) (fun _ h9 => h9) rfl dX3_isWord_18 ?_
      refine lv_iload_n hx hb dX3_isWord_21 rfl (lv_at hl 1 rfl) ?_
      refine iaK hx hb hK hP 2 0 rfl rfl (t) (et) (by omega) dX3_isWord_22 ?_
      refine lv_topi (fun x7 ex7 => ?_)
      have hzx7 : x7.toInt = (hN t : Int) := by rw [ex7]; exact fh_t
      have hmb := mul_bd (a := r6.toInt) (b := x7.toInt) (A := 4000) (B := 4000) (by omega) (by omega) (by omega) (by omega)
      have hmm : ((rN wN t * hN t : Nat) : Int) = r6.toInt * x7.toInt := by rw [Int.natCast_mul, hwr6, hzx7]
      refine lv_imul hx hb dX3_isWord_23 ?_
      refine lv_topi (fun x8 ex8 => ?_)
      have hx8 : x8.toInt = r6.toInt * x7.toInt := by rw [ex8]; exact ti_mul rfl rfl (by omega) (by omega)
      refine lv_icmp_ge (tgt := 31) hx hb dX3_isWord_24 (by decide) (fun c9 => ?_) (fun c9 => ?_)
      · replace c9 := (ti_le rfl rfl).mp c9
        refine lv_iconst (v := 0) hx hb dX3_isWord_31 (by decide) ?_
        refine lv_topi (fun r10 er10 => ?_)
        have hr10 : r10.toInt = (0 : Int) := by rw [er10]; exact (by decide : (0 : Int32).toInt = (0 : Int))
        exact W.zret (ty := .boolean) (v := r10) hx hb hr (nar_b (by omega)) (fun t9 ht9 _ => ⟨r10, rfl, by first | exact Or.inl ⟨by omega, t, et, h4t, by omega, by omega⟩ | exact Or.inr ⟨by omega, Or.inr ⟨t, et, h4t, by omega⟩⟩, ht9⟩) (fun _ h => absurd h List.not_mem_nil) dX3_isWord_32
      · replace c9 := mt (ti_le rfl rfl).mpr c9
        refine lv_iconst (v := 1) hx hb dX3_isWord_27 (by decide) ?_
        refine lv_goto (tgt := 32) hx hb dX3_isWord_28 (by decide) ?_
        refine lv_topi (fun r11 er11 => ?_)
        have hr11 : r11.toInt = (1 : Int) := by rw [er11]; exact (by decide : (1 : Int32).toInt = (1 : Int))
        exact W.zret (ty := .boolean) (v := r11) hx hb hr (nar_b (by omega)) (fun t9 ht9 _ => ⟨r11, rfl, by first | exact Or.inl ⟨by omega, t, et, h4t, by omega, by omega⟩ | exact Or.inr ⟨by omega, Or.inr ⟨t, et, h4t, by omega⟩⟩, ht9⟩) (fun _ h => absurd h List.not_mem_nil) dX3_isWord_32
set_option maxHeartbeats 8000000 in
set_option maxRecDepth 100000 in
theorem mX3_isBit (l : Launch) {dC : Nat → ClassId} {dI : Nat → Nat → Nat} {m0 a1 a2 a3 a4 a5 a6 : Nat} {cI : ClassId} {wd ht ws bf mk nu : Nat → Int32} {tg so pa ru : Int32} {wN hN : Nat → Nat} {Bt : Nat → Nat → Nat → Bool} {nz : Nat → Int} {tn : Nat} {sn pn : Option Nat} {rA : Int32} (f : Int32) (x : Int64) (y : Int64) (hM : RM wN hN Bt nz tn sn pn rA wd ht ws nu tg so pa ru) {t : Nat} (et : f.toInt = (t : Int)) (h4t : t < 4) : Met l yX3_isBit (wM yX3_isBit cX3_isBit 6 (some .boolean)) ({ frames := 0, cells := 0, slots := 0, locals := 0 }) (va_Pc [.ref m0, .int f, .long x, .long y] (rP (dC, dI) vwCl (tyM cI) (w_md m0 a1 a2 a3 a4 a5 a6 cI wd ht ws bf mk nu tg so pa ru))) (vp_Si (fun r => (r.toInt = 1 ∧ 0 ≤ x.toInt ∧ x.toInt < (wN t : Int) ∧ 0 ≤ y.toInt ∧ y.toInt < (hN t : Int)) ∨ (r.toInt = 0 ∧ (x.toInt < 0 ∨ (wN t : Int) ≤ x.toInt ∨ y.toInt < 0 ∨ (hN t : Int) ≤ y.toInt)))) 0 0 (fun _ => False) := by
  refine Met.ofW (cc := cX3_isBit) (maxL := 6) (ret := (some .boolean)) (by decide +kernel) rfl ?_
  intro p e s m args below meth c s₁ B hml hv
  obtain ⟨rfl, hP, hK, hNS⟩ := hv
  have hx := B.exec
  have hb := B.bytes
  have hr := B.returns
  have hts : ∀ w ∈ tblG, w.before _ s = true := fun w h => atoms_spec (ws := wM yX3_isBit cX3_isBit 6 (some .boolean)) B.pre w (List.mem_cons_of_mem _ h)
  have hown : s.vm.findClass RX3 = some m.cls := findClass_of_methodNamed B.named
  have hlocks := B.notSynchronized
  have hl := lv_entry ([.ref m0, .int f, .long x, .long y]) (n := 6) (Nat.le_of_ble_eq_true rfl)
  rw [lg_entry_eq]
  generalize (lg_sl ([.ref m0, .int f, .long x, .long y]) ++ List.replicate (6 - (lg_sl ([.ref m0, .int f, .long x, .long y])).length) Slot.unset).toArray = ls at hl ⊢
  have hl : lv_has ls 6 [(0, .ref m0), (1, .int f), (2, .long x), (4, .long y)] := hl
  obtain ⟨hF, hnu, htg, htn, hso, hsn, hpa, hpn, hru, hr1, hr2⟩ := id hM
  have hso4 := oz_lo hsn
  have hpa4 := oz_lo hpn
  obtain ⟨fw_t, fh_t, f1_t, f2_t, f3_t, f6_t, f7_t, fB_t⟩ := hF t h4t
  have frd_t : rN wN t = (wN t + 15) / 16 := rfl
  refine lv_lload_n hx hb dX3_isBit_0 rfl (lv_at hl 2 rfl) ?_
  refine lv_lconst (v := 0) hx hb dX3_isBit_1 (by decide) ?_
  refine W.lcmp hx hb dX3_isBit_2 ?_
  refine lv_topi (fun x1 ex1 => ?_)
  have hx1 := tl_cmp rfl (by decide : (0 : Int64).toInt = (0 : Int)) ex1
  refine lv_if_lt (tgt := 42) hx hb dX3_isBit_3 (by decide) (fun c2 => ?_) (fun c2 => ?_)
  · replace c2 := (ti_lt rfl (by decide : (0 : Int32).toInt = (0 : Int))).mp c2
    refine lv_iconst (v := 0) hx hb dX3_isBit_42 (by decide) ?_
    refine lv_topi (fun r3 er3 => ?_)
    have hr3 : r3.toInt = (0 : Int) := by rw [er3]; exact (by decide : (0 : Int32).toInt = (0 : Int))
    exact W.zret (ty := .boolean) (v := r3) hx hb hr (nar_b (by omega)) (fun t9 ht9 _ => ⟨r3, rfl, by omega, ht9⟩) (fun _ h => absurd h List.not_mem_nil) dX3_isBit_43
  · replace c2 := mt (ti_lt rfl (by decide : (0 : Int32).toInt = (0 : Int))).mpr c2
    refine lv_lload_n hx hb dX3_isBit_6 rfl (lv_at hl 2 rfl) ?_
    refine lv_aload_n hx hb dX3_isBit_7 rfl (lv_at hl 0 rfl) ?_
    refine va_get (D := (dC, dI)) (ci := 3) (v := .ref a1) (C := RX3) (T := TX3) (N := 10) hx hb hts inX3 hown hK hP 0 rfl rfl 0 (by decide) (hts _ k290) (fun _ h9 => h9) rfl dX3_isBit_8 ?_
    refine lv_iload_n hx hb dX3_isBit_11 rfl (lv_at hl 1 rfl) ?_
    refine iaK hx hb hK hP 1 0 rfl rfl (t) (et) (by omega) dX3_isBit_12 ?_
    refine lv_topi (fun x4 ex4 => ?_)
    have hzx4 : x4.toInt = (wN t : Int) := by rw [ex4]; exact fw_t
    refine lv_i2l hx hb dX3_isBit_13 rfl ?_
    refine lv_topl (fun y5 ey5 => ?_)
    have hy5 : y5.toInt = x4.toInt := (tl_i ey5).trans rfl
    refine W.lcmp hx hb dX3_isBit_14 ?_
    refine lv_topi (fun x6 ex6 => ?_)
    have hx6 := tl_cmp rfl rfl ex6
    refine lv_if_ge (tgt := 42) hx hb dX3_isBit_15 (by decide) (fun c7 => ?_) (fun c7 => ?_)
    · replace c7 := (ti_le (by decide : (0 : Int32).toInt = (0 : Int)) rfl).mp c7
      refine lv_iconst (v := 0) hx hb dX3_isBit_42 (by decide) ?_
      refine lv_topi (fun r8 er8 => ?_)
      have hr8 : r8.toInt = (0 : Int) := by rw [er8]; exact (by decide : (0 : Int32).toInt = (0 : Int))
      exact W.zret (ty := .boolean) (v := r8) hx hb hr (nar_b (by omega)) (fun t9 ht9 _ => ⟨r8, rfl, by omega, ht9⟩) (fun _ h => absurd h List.not_mem_nil) dX3_isBit_43
    · replace c7 := mt (ti_le (by decide : (0 : Int32).toInt = (0 : Int)) rfl).mpr c7
      refine lv_lload hx hb dX3_isBit_18 (lv_at hl 3 rfl) ?_
      refine lv_lconst (v := 0) hx hb dX3_isBit_20 (by decide) ?_
      refine W.lcmp hx hb dX3_isBit_21 ?_
      refine lv_topi (fun x9 ex9 => ?_)
      have hx9 := tl_cmp rfl (by decide : (0 : Int64).toInt = (0 : Int)) ex9
      refine lv_if_lt (tgt := 42) hx hb dX3_isBit_22 (by decide) (fun c10 => ?_) (fun c10 => ?_)
      · replace c10 := (ti_lt rfl (by decide : (0 : Int32).toInt = (0 : Int))).mp c10
        refine lv_iconst (v := 0) hx hb dX3_isBit_42 (by decide) ?_
        refine lv_topi (fun r11 er11 => ?_)
        have hr11 : r11.toInt = (0 : Int) := by rw [er11]; exact (by decide : (0 : Int32).toInt = (0 : Int))
        exact W.zret (ty := .boolean) (v := r11) hx hb hr (nar_b (by omega)) (fun t9 ht9 _ => ⟨r11, rfl, by omega, ht9⟩) (fun _ h => absurd h List.not_mem_nil) dX3_isBit_43
      · replace c10 := mt (ti_lt rfl (by decide : (0 : Int32).toInt = (0 : Int))).mpr c10
        refine lv_lload hx hb dX3_isBit_25 (lv_at hl 3 rfl) ?_
        refine lv_aload_n hx hb dX3_isBit_27 rfl (lv_at hl 0 rfl) ?_
        refine va_get (D := (dC, dI)) (ci := 3) (v := .ref a2) (C := RX3) (T := TX3) (N := 10) hx hb hts inX3 hown hK hP 0 rfl rfl 1 (by decide) (hts _ k291) (fun _ h9 => h9) rfl dX3_isBit_28 ?_
        refine lv_iload_n hx hb dX3_isBit_31 rfl (lv_at hl 1 rfl) ?_
        refine iaK hx hb hK hP 2 0 rfl rfl (t) (et) (by omega) dX3_isBit_32 ?_
        refine lv_topi (fun x12 ex12 => ?_)
        have hzx12 : x12.toInt = (hN t : Int) := by rw [ex12]; exact fh_t
        refine lv_i2l hx hb dX3_isBit_33 rfl ?_
        refine lv_topl (fun y13 ey13 => ?_)
        have hy13 : y13.toInt = x12.toInt := (tl_i ey13).trans rfl
        refine W.lcmp hx hb dX3_isBit_34 ?_
        refine lv_topi (fun x14 ex14 => ?_)
        have hx14 := tl_cmp rfl rfl ex14
        refine lv_if_ge (tgt := 42) hx hb dX3_isBit_35 (by decide) (fun c15 => ?_) (fun c15 => ?_)
        · replace c15 := (ti_le (by decide : (0 : Int32).toInt = (0 : Int)) rfl).mp c15
          refine lv_iconst (v := 0) hx hb dX3_isBit_42 (by decide) ?_
          refine lv_topi (fun r16 er16 => ?_)
          have hr16 : r16.toInt = (0 : Int) := by rw [er16]; exact (by decide : (0 : Int32).toInt = (0 : Int))
          exact W.zret (ty := .boolean) (v := r16) hx hb hr (nar_b (by omega)) (fun t9 ht9 _ => ⟨r16, rfl, by omega, ht9⟩) (fun _ h => absurd h List.not_mem_nil) dX3_isBit_43
        · replace c15 := mt (ti_le (by decide : (0 : Int32).toInt = (0 : Int)) rfl).mpr c15
          refine lv_iconst (v := 1) hx hb dX3_isBit_38 (by decide) ?_
          refine lv_goto (tgt := 43) hx hb dX3_isBit_39 (by decide) ?_
          refine lv_topi (fun r17 er17 => ?_)
          have hr17 : r17.toInt = (1 : Int) := by rw [er17]; exact (by decide : (1 : Int32).toInt = (1 : Int))
          exact W.zret (ty := .boolean) (v := r17) hx hb hr (nar_b (by omega)) (fun t9 ht9 _ => ⟨r17, rfl, by omega, ht9⟩) (fun _ h => absurd h List.not_mem_nil) dX3_isBit_43
