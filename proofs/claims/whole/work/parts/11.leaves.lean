set_option maxHeartbeats 8000000 in
set_option maxRecDepth 100000 in
theorem mJ9_floorDiv (l : Launch) (x : Int32) : Met l yJ9_floorDiv (wM yJ9_floorDiv cJ9_floorDiv 3 (some .int)) ({ frames := 0, cells := 0, slots := 0, locals := 0 }) (va_Pc [.int x, .int (16 : Int32)] (fun _ => True)) (vp_Si (fun r => r.toInt = x.toInt / 16)) 0 0 (fun _ => False) := by
  refine va_MetF (cc := cJ9_floorDiv) (maxL := 3) (ret := (some .int)) (by decide +kernel) rfl ?_
  intro p e s m args below meth c s₁ B hml hv
  obtain ⟨rfl, -⟩ := hv
  have hx := B.exec
  have hb := B.bytes
  have hr := B.returns
  have hts : ∀ w ∈ tblG, w.before _ s = true := fun w h => atoms_spec (ws := wM yJ9_floorDiv cJ9_floorDiv 3 (some .int)) B.pre w (List.mem_cons_of_mem _ h)
  have hown : s.vm.findClass RJ9 = some m.cls := findClass_of_methodNamed B.named
  have hlocks := B.notSynchronized
  have hl := lv_entry ([.int x, .int (16 : Int32)]) (n := 3) (Nat.le_of_ble_eq_true rfl)
  rw [lg_entry_eq]
  generalize (lg_sl ([.int x, .int (16 : Int32)]) ++ List.replicate (3 - (lg_sl ([.int x, .int (16 : Int32)])).length) Slot.unset).toArray = ls at hl ⊢
  have hl : lv_has ls 3 [(0, .int x), (1, .int (16 : Int32))] := hl
  have hxl := ti_lo x
  have hxh := ti_hi x
  refine lv_iload_n hx hb dJ9_floorDiv_0 rfl (lv_at hl 0 rfl) ?_
  refine lv_iload_n hx hb dJ9_floorDiv_1 rfl (lv_at hl 1 rfl) ?_
  refine lv_idiv hx hb dJ9_floorDiv_2 (by decide) ?_
  refine lv_topi (fun x1 ex1 => ?_)
  have hx1 := fd_div ex1
  refine lv_istore_n (lv' := [(2, .int x1), (0, .int x), (1, .int (16 : Int32))]) hx hb dJ9_floorDiv_3 rfl hl (by decide) rfl (fun ls hl => ?_)
  refine lv_iload_n hx hb dJ9_floorDiv_4 rfl (lv_at hl 1 rfl) ?_
  refine lv_iload_n hx hb dJ9_floorDiv_5 rfl (lv_at hl 2 rfl) ?_
  refine lv_ixor hx hb dJ9_floorDiv_6 ?_
  refine lv_topi (fun x2 ex2 => ?_)
  have hx2 := xor16 ex2
  refine lv_if_ge (tgt := 21) hx hb dJ9_floorDiv_7 (by decide) (fun c3 => ?_) (fun c3 => ?_)
  · replace c3 := (ti_le (by decide : (0 : Int32).toInt = (0 : Int)) rfl).mp c3
    refine lv_iload_n hx hb dJ9_floorDiv_21 rfl (lv_at hl 0 rfl) ?_
    exact W.iret (v := x1) hx hb hr (fun t9 ht9 _ => ⟨x1, rfl, by omega, ht9⟩) (fun _ h => absurd h List.not_mem_nil) dJ9_floorDiv_22
  · replace c3 := mt (ti_le (by decide : (0 : Int32).toInt = (0 : Int)) rfl).mpr c3
    refine lv_iload_n hx hb dJ9_floorDiv_10 rfl (lv_at hl 0 rfl) ?_
    refine lv_iload_n hx hb dJ9_floorDiv_11 rfl (lv_at hl 2 rfl) ?_
    refine lv_imul hx hb dJ9_floorDiv_12 ?_
    refine lv_topi (fun x4 ex4 => ?_)
    have hx4 : x4.toInt = x1.toInt * (16 : Int) := by rw [ex4]; exact ti_mul rfl (by decide : (16 : Int32).toInt = (16 : Int)) (by omega) (by omega)
    refine lv_iload_n hx hb dJ9_floorDiv_13 rfl (lv_at hl 1 rfl) ?_
    refine lv_icmp_eq (tgt := 21) hx hb dJ9_floorDiv_14 (by decide) (fun c5 => ?_) (fun c5 => ?_)
    · replace c5 := (ti_eq rfl rfl).mp c5
      refine lv_iload_n hx hb dJ9_floorDiv_21 rfl (lv_at hl 0 rfl) ?_
      exact W.iret (v := x1) hx hb hr (fun t9 ht9 _ => ⟨x1, rfl, by omega, ht9⟩) (fun _ h => absurd h List.not_mem_nil) dJ9_floorDiv_22
    · replace c5 := mt (ti_eq rfl rfl).mpr c5
      refine lv_iload_n hx hb dJ9_floorDiv_17 rfl (lv_at hl 0 rfl) ?_
      refine lv_iconst (v := 1) hx hb dJ9_floorDiv_18 (by decide) ?_
      refine lv_isub hx hb dJ9_floorDiv_19 ?_
      refine lv_topi (fun x6 ex6 => ?_)
      have hx6 : x6.toInt = x1.toInt - (1 : Int) := by rw [ex6]; exact ti_sub rfl (by decide : (1 : Int32).toInt = (1 : Int)) (by omega) (by omega)
      exact W.iret (v := x6) hx hb hr (fun t9 ht9 _ => ⟨x6, rfl, by omega, ht9⟩) (fun _ h => absurd h List.not_mem_nil) dJ9_floorDiv_20
set_option maxHeartbeats 8000000 in
set_option maxRecDepth 100000 in
theorem mJ9_floorMod (l : Launch) (x : Int32) : Met l yJ9_floorMod (wM yJ9_floorMod cJ9_floorMod 3 (some .int)) ({ frames := 0, cells := 0, slots := 0, locals := 0 }) (va_Pc [.int x, .int (16 : Int32)] (fun _ => True)) (vp_Si (fun r => r.toInt = x.toInt % 16)) 0 0 (fun _ => False) := by
  refine va_MetF (cc := cJ9_floorMod) (maxL := 3) (ret := (some .int)) (by decide +kernel) rfl ?_
  intro p e s m args below meth c s₁ B hml hv
  obtain ⟨rfl, -⟩ := hv
  have hx := B.exec
  have hb := B.bytes
  have hr := B.returns
  have hts : ∀ w ∈ tblG, w.before _ s = true := fun w h => atoms_spec (ws := wM yJ9_floorMod cJ9_floorMod 3 (some .int)) B.pre w (List.mem_cons_of_mem _ h)
  have hown : s.vm.findClass RJ9 = some m.cls := findClass_of_methodNamed B.named
  have hlocks := B.notSynchronized
  have hl := lv_entry ([.int x, .int (16 : Int32)]) (n := 3) (Nat.le_of_ble_eq_true rfl)
  rw [lg_entry_eq]
  generalize (lg_sl ([.int x, .int (16 : Int32)]) ++ List.replicate (3 - (lg_sl ([.int x, .int (16 : Int32)])).length) Slot.unset).toArray = ls at hl ⊢
  have hl : lv_has ls 3 [(0, .int x), (1, .int (16 : Int32))] := hl
  have hxl := ti_lo x
  have hxh := ti_hi x
  refine lv_iload_n hx hb dJ9_floorMod_0 rfl (lv_at hl 0 rfl) ?_
  refine lv_iload_n hx hb dJ9_floorMod_1 rfl (lv_at hl 1 rfl) ?_
  refine lv_irem hx hb dJ9_floorMod_2 (by decide) ?_
  refine lv_topi (fun x1 ex1 => ?_)
  have hx1 := fm_rem ex1
  refine lv_istore_n (lv' := [(2, .int x1), (0, .int x), (1, .int (16 : Int32))]) hx hb dJ9_floorMod_3 rfl hl (by decide) rfl (fun ls hl => ?_)
  refine lv_iload_n hx hb dJ9_floorMod_4 rfl (lv_at hl 1 rfl) ?_
  refine lv_iload_n hx hb dJ9_floorMod_5 rfl (lv_at hl 2 rfl) ?_
  refine lv_ixor hx hb dJ9_floorMod_6 ?_
  refine lv_topi (fun x2 ex2 => ?_)
  have hx2 := xor16 ex2
  refine lv_if_ge (tgt := 18) hx hb dJ9_floorMod_7 (by decide) (fun c3 => ?_) (fun c3 => ?_)
  · replace c3 := (ti_le (by decide : (0 : Int32).toInt = (0 : Int)) rfl).mp c3
    refine lv_iload_n hx hb dJ9_floorMod_18 rfl (lv_at hl 0 rfl) ?_
    exact W.iret (v := x1) hx hb hr (fun t9 ht9 _ => ⟨x1, rfl, by omega, ht9⟩) (fun _ h => absurd h List.not_mem_nil) dJ9_floorMod_19
  · replace c3 := mt (ti_le (by decide : (0 : Int32).toInt = (0 : Int)) rfl).mpr c3
    refine lv_iload_n hx hb dJ9_floorMod_10 rfl (lv_at hl 0 rfl) ?_
    refine lv_if_eq (tgt := 18) hx hb dJ9_floorMod_11 (by decide) (fun c4 => ?_) (fun c4 => ?_)
    · replace c4 := (ti_eq rfl (by decide : (0 : Int32).toInt = (0 : Int))).mp c4
      refine lv_iload_n hx hb dJ9_floorMod_18 rfl (lv_at hl 0 rfl) ?_
      exact W.iret (v := x1) hx hb hr (fun t9 ht9 _ => ⟨x1, rfl, by omega, ht9⟩) (fun _ h => absurd h List.not_mem_nil) dJ9_floorMod_19
    · replace c4 := mt (ti_eq rfl (by decide : (0 : Int32).toInt = (0 : Int))).mpr c4
      refine lv_iload_n hx hb dJ9_floorMod_14 rfl (lv_at hl 0 rfl) ?_
      refine lv_iload_n hx hb dJ9_floorMod_15 rfl (lv_at hl 2 rfl) ?_
      refine lv_iadd hx hb dJ9_floorMod_16 ?_
      refine lv_topi (fun x5 ex5 => ?_)
      have hx5 : x5.toInt = x1.toInt + (16 : Int) := by rw [ex5]; exact ti_add rfl (by decide : (16 : Int32).toInt = (16 : Int)) (by omega) (by omega)
      exact W.iret (v := x5) hx hb hr (fun t9 ht9 _ => ⟨x5, rfl, by omega, ht9⟩) (fun _ h => absurd h List.not_mem_nil) dJ9_floorMod_17
set_option maxHeartbeats 8000000 in
set_option maxRecDepth 100000 in
theorem mJ6_bitCount (l : Launch) (x : Int32) (h : ∀ j, 16 ≤ j → bt x j = false) : Met l yJ6_bitCount (wM yJ6_bitCount cJ6_bitCount 1 (some .int)) ({ frames := 0, cells := 0, slots := 0, locals := 0 }) (va_Pc [.int x] (fun _ => True)) (vp_Si (fun r => r.toInt = (pcw x : Int))) 0 0 (fun _ => False) := by
  refine Met.ofW (cc := cJ6_bitCount) (maxL := 1) (ret := (some .int)) (by decide +kernel) rfl ?_
  intro p e s m args below meth c s₁ B hml hv
  obtain ⟨rfl, -⟩ := hv
  have hx := B.exec
  have hb := B.bytes
  have hr := B.returns
  have hts : ∀ w ∈ tblG, w.before _ s = true := fun w h => atoms_spec (ws := wM yJ6_bitCount cJ6_bitCount 1 (some .int)) B.pre w (List.mem_cons_of_mem _ h)
  have hown : s.vm.findClass RJ6 = some m.cls := findClass_of_methodNamed B.named
  have hlocks := B.notSynchronized
  have hl := lv_entry ([.int x]) (n := 1) (Nat.le_of_ble_eq_true rfl)
  rw [lg_entry_eq]
  generalize (lg_sl ([.int x]) ++ List.replicate (1 - (lg_sl ([.int x])).length) Slot.unset).toArray = ls at hl ⊢
  have hl : lv_has ls 1 [(0, .int x)] := hl
  refine lv_iload_n hx hb dJ6_bitCount_0 rfl (lv_at hl 0 rfl) ?_
  refine lv_iload_n hx hb dJ6_bitCount_1 rfl (lv_at hl 0 rfl) ?_
  refine lv_iconst (v := 1) hx hb dJ6_bitCount_2 (by decide) ?_
  refine lv_iushr hx hb dJ6_bitCount_3 rfl ?_
  refine lv_topi (fun x1 ex1 => ?_)
  refine lv_ldcw (own := RJ6) (v := (1431655765)) hx hb hown (hts _ k162) dJ6_bitCount_4 ?_
  refine lv_iand hx hb dJ6_bitCount_7 ?_
  refine lv_topi (fun x2 ex2 => ?_)
  refine lv_isub hx hb dJ6_bitCount_8 ?_
  refine lv_topi (fun x3 ex3 => ?_)
  refine lv_istore_n (lv' := [(0, .int x3)]) hx hb dJ6_bitCount_9 rfl hl (by decide) rfl (fun ls hl => ?_)
  refine lv_iload_n hx hb dJ6_bitCount_10 rfl (lv_at hl 0 rfl) ?_
  refine lv_ldcw (own := RJ6) (v := (858993459)) hx hb hown (hts _ k163) dJ6_bitCount_11 ?_
  refine lv_iand hx hb dJ6_bitCount_14 ?_
  refine lv_topi (fun x4 ex4 => ?_)
  refine lv_iload_n hx hb dJ6_bitCount_15 rfl (lv_at hl 0 rfl) ?_
  refine lv_iconst (v := 2) hx hb dJ6_bitCount_16 (by decide) ?_
  refine lv_iushr hx hb dJ6_bitCount_17 rfl ?_
  refine lv_topi (fun x5 ex5 => ?_)
  refine lv_ldcw (own := RJ6) (v := (858993459)) hx hb hown (hts _ k163) dJ6_bitCount_18 ?_
  refine lv_iand hx hb dJ6_bitCount_21 ?_
  refine lv_topi (fun x6 ex6 => ?_)
  refine lv_iadd hx hb dJ6_bitCount_22 ?_
  refine lv_topi (fun x7 ex7 => ?_)
  refine lv_istore_n (lv' := [(0, .int x7)]) hx hb dJ6_bitCount_23 rfl hl (by decide) rfl (fun ls hl => ?_)
  refine lv_iload_n hx hb dJ6_bitCount_24 rfl (lv_at hl 0 rfl) ?_
  refine lv_iload_n hx hb dJ6_bitCount_25 rfl (lv_at hl 0 rfl) ?_
  refine lv_iconst (v := 4) hx hb dJ6_bitCount_26 (by decide) ?_
  refine lv_iushr hx hb dJ6_bitCount_27 rfl ?_
  refine lv_topi (fun x8 ex8 => ?_)
  refine lv_iadd hx hb dJ6_bitCount_28 ?_
  refine lv_topi (fun x9 ex9 => ?_)
  refine lv_ldcw (own := RJ6) (v := (252645135)) hx hb hown (hts _ k164) dJ6_bitCount_29 ?_
  refine lv_iand hx hb dJ6_bitCount_32 ?_
  refine lv_topi (fun x10 ex10 => ?_)
  refine lv_istore_n (lv' := [(0, .int x10)]) hx hb dJ6_bitCount_33 rfl hl (by decide) rfl (fun ls hl => ?_)
  refine lv_iload_n hx hb dJ6_bitCount_34 rfl (lv_at hl 0 rfl) ?_
  refine lv_iload_n hx hb dJ6_bitCount_35 rfl (lv_at hl 0 rfl) ?_
  refine lv_bipush (v := (8)) hx hb dJ6_bitCount_36 (by decide) ?_
  refine lv_iushr hx hb dJ6_bitCount_38 rfl ?_
  refine lv_topi (fun x11 ex11 => ?_)
  refine lv_iadd hx hb dJ6_bitCount_39 ?_
  refine lv_topi (fun x12 ex12 => ?_)
  refine lv_istore_n (lv' := [(0, .int x12)]) hx hb dJ6_bitCount_40 rfl hl (by decide) rfl (fun ls hl => ?_)
  refine lv_iload_n hx hb dJ6_bitCount_41 rfl (lv_at hl 0 rfl) ?_
  refine lv_iload_n hx hb dJ6_bitCount_42 rfl (lv_at hl 0 rfl) ?_
  refine lv_bipush (v := (16)) hx hb dJ6_bitCount_43 (by decide) ?_
  refine lv_iushr hx hb dJ6_bitCount_45 rfl ?_
  refine lv_topi (fun x13 ex13 => ?_)
  refine lv_iadd hx hb dJ6_bitCount_46 ?_
  refine lv_topi (fun x14 ex14 => ?_)
  refine lv_istore_n (lv' := [(0, .int x14)]) hx hb dJ6_bitCount_47 rfl hl (by decide) rfl (fun ls hl => ?_)
  refine lv_iload_n hx hb dJ6_bitCount_48 rfl (lv_at hl 0 rfl) ?_
  refine lv_bipush (v := (63)) hx hb dJ6_bitCount_49 (by decide) ?_
  refine lv_iand hx hb dJ6_bitCount_51 ?_
  refine lv_topi (fun x15 ex15 => ?_)
  exact W.iret (v := x15) hx hb hr (fun t9 ht9 _ => ⟨x15, rfl, bc_walk h ex1 ex2 ex3 ex4 ex5 ex6 ex7 ex8 ex9 ex10 ex11 ex12 ex13 ex14 ex15, ht9⟩) (fun _ h => absurd h List.not_mem_nil) dJ6_bitCount_52
set_option maxHeartbeats 8000000 in
set_option maxRecDepth 100000 in
theorem mX1_length (l : Launch) {dC : Nat → ClassId} {dI : Nat → Nat → Nat} {tys : List (ClassId × FieldType)} {ws : va_W} {h0 k : Nat} {ra rb rs : Int32} (he : ws[k]? = some (h0, .inr (1, [.int ra, .int rb, .int rs]))) (h1 : -1000000 ≤ ra.toInt ∧ ra.toInt ≤ 1000000) (h2 : -1000000 ≤ rb.toInt ∧ rb.toInt ≤ 1000000) : Met l yX1_length (wM yX1_length cX1_length 1 (some .int)) ({ frames := 1, cells := 0, slots := 0, locals := 21 }) (va_Pc [.ref h0] (rP (dC, dI) vwCl tys ws)) (vp_Si (fun r => r.toInt = max (rb.toInt - ra.toInt) 0)) 0 0 (fun _ => False) := by
  refine Met.ofW (cc := cX1_length) (maxL := 1) (ret := (some .int)) (by decide +kernel) rfl ?_
  intro p e s m args below meth c s₁ B hml hv
  obtain ⟨rfl, hP, hK, hNS⟩ := hv
  have hx := B.exec
  have hb := B.bytes
  have hr := B.returns
  have hts : ∀ w ∈ tblG, w.before _ s = true := fun w h => atoms_spec (ws := wM yX1_length cX1_length 1 (some .int)) B.pre w (List.mem_cons_of_mem _ h)
  have hown : s.vm.findClass RX1 = some m.cls := findClass_of_methodNamed B.named
  have hlocks := B.notSynchronized
  have hl := lv_entry ([.ref h0]) (n := 1) (Nat.le_of_ble_eq_true rfl)
  rw [lg_entry_eq]
  generalize (lg_sl ([.ref h0]) ++ List.replicate (1 - (lg_sl ([.ref h0])).length) Slot.unset).toArray = ls at hl ⊢
  have hl : lv_has ls 1 [(0, .ref h0)] := hl
  refine lv_aload_n hx hb dX1_length_0 rfl (lv_at hl 0 rfl) ?_
  refine va_get (D := (dC, dI)) (ci := 1) (v := .int rb) (C := RX1) (T := TX1) (N := 3) hx hb hts inX1 hown hK hP k he rfl 1 (by decide) (hts _ k49) (fun _ h9 => h9) rfl dX1_length_1 ?_
  refine lv_aload_n hx hb dX1_length_4 rfl (lv_at hl 0 rfl) ?_
  refine va_get (D := (dC, dI)) (ci := 1) (v := .int ra) (C := RX1) (T := TX1) (N := 3) hx hb hts inX1 hown hK hP k he rfl 0 (by decide) (hts _ k47) (fun _ h9 => h9) rfl dX1_length_5 ?_
  refine lv_isub hx hb dX1_length_8 ?_
  refine lv_topi (fun x1 ex1 => ?_)
  have hx1 : x1.toInt = rb.toInt - ra.toInt := by rw [ex1]; exact ti_sub rfl rfl (by omega) (by omega)
  refine lv_iconst (v := 0) hx hb dX1_length_9 (by decide) ?_
  refine va_mmax hx hb (hml.trans hl.1.symm) hown (hts _ k225) (hts _ k104) (hts _ k5) (hts _ k105) (Nat.le_of_ble_eq_true rfl) (Nat.le_of_ble_eq_true rfl) (Nat.le_of_ble_eq_true rfl) (Nat.le_of_ble_eq_true rfl) dX1_length_10 ?_
  refine lv_topi (fun x2 ex2 => ?_)
  have hx2 : x2.toInt = max (x1.toInt) ((0 : Int)) := by rw [ex2]; exact ti_max rfl (by decide : (0 : Int32).toInt = (0 : Int))
  exact W.iret (v := x2) hx hb hr (fun t9 ht9 _ => ⟨x2, rfl, by omega, ht9⟩) (fun _ h => absurd h List.not_mem_nil) dX1_length_13
set_option maxHeartbeats 8000000 in
set_option maxRecDepth 100000 in
theorem mX1_begin (l : Launch) {dC : Nat → ClassId} {dI : Nat → Nat → Nat} {sz : Nat} {tys : List (ClassId × FieldType)} {h0 : Nat} {ra rb rs : Int32} (to sz0 fr : Int32) (h1 : -40000 ≤ to.toInt ∧ to.toInt ≤ 40000) (h2 : -40000 ≤ sz0.toInt ∧ sz0.toInt ≤ 40000) (h3 : -40000 ≤ fr.toInt ∧ fr.toInt ≤ 40000) : Met l yX1_begin (wM yX1_begin cX1_begin 4 none) ({ frames := 0, cells := 0, slots := 0, locals := 0 }) (va_Pc [.ref h0, .int to, .int sz0, .int fr] (wP (dC, dI) vwCl tys [(h0, .inr (1, [.int ra, .int rb, .int rs]))] sz)) (va_Qv (fun u : Int32 × Int32 × Int32 => u.1.toInt = to.toInt ∧ u.2.1.toInt = to.toInt + sz0.toInt ∧ u.2.2.toInt = fr.toInt - to.toInt) (wB (dC, dI) vwCl (va_A [(h0, .inr (1, [.int ra, .int rb, .int rs]))] sz) (fun u : Int32 × Int32 × Int32 => tys) (fun u : Int32 × Int32 × Int32 => [(h0, .inr (1, [.int u.1, .int u.2.1, .int u.2.2]))])) (va_A [(h0, .inr (1, [.int ra, .int rb, .int rs]))] sz)) 0 0 (va_A [(h0, .inr (1, [.int ra, .int rb, .int rs]))] sz) := by
  refine Met.ofW (cc := cX1_begin) (maxL := 4) (ret := none) (by decide +kernel) rfl ?_
  intro p e s m args below meth c s₁ B hml hv
  obtain ⟨rfl, hsz, hP, hK, hD0, hNS⟩ := hv
  have hx := B.exec
  have hb := B.bytes
  have hr := B.returns
  have hts : ∀ w ∈ tblG, w.before _ s = true := fun w h => atoms_spec (ws := wM yX1_begin cX1_begin 4 none) B.pre w (List.mem_cons_of_mem _ h)
  have hown : s.vm.findClass RX1 = some m.cls := findClass_of_methodNamed B.named
  have hlocks := B.notSynchronized
  subst hsz
  have hD := hD0.self (sz := s.heap.size)
  generalize hAe : va_A [(h0, .inr (1, [.int ra, .int rb, .int rs]))] s.heap.size = A at hD ⊢
  have hA : ∀ q : Nat, s.heap.size ≤ q → A q := fun q h => by rw [← hAe]; exact Or.inr h
  have hS : va_S A s.heap s.heap [] := va_S.rf
  have hP : va_P (dC, dI) vwCl [(h0, .inr (1, [.int ra, .int rb, .int rs]))] s.heap := hP
  have hl := lv_entry ([.ref h0, .int to, .int sz0, .int fr]) (n := 4) (Nat.le_of_ble_eq_true rfl)
  rw [lg_entry_eq]
  generalize (lg_sl ([.ref h0, .int to, .int sz0, .int fr]) ++ List.replicate (4 - (lg_sl ([.ref h0, .int to, .int sz0, .int fr])).length) Slot.unset).toArray = ls at hl ⊢
  have hl : lv_has ls 4 [(0, .ref h0), (1, .int to), (2, .int sz0), (3, .int fr)] := hl
  refine lv_aload_n hx hb dX1_begin_0 rfl (lv_at hl 0 rfl) ?_
  refine lv_iload_n hx hb dX1_begin_1 rfl (lv_at hl 1 rfl) ?_
  refine va_put (D := (dC, dI)) (ci := 1) (v := .int to) (ty := .int) (C := RX1) (T := TX1) (N := 3) hx hb hts inX1 tyX1 tyX1_ok nmX1 hown hK hP hD hS 0 rfl rfl 0 (by decide) (hts _ k47) (fun _ h9 => h9) rfl (by decide +kernel) rfl rfl (Nat.le_of_ble_eq_true rfl) dX1_begin_2 (fun H locs hP hD hS => ?_)
  have hP : va_P (dC, dI) vwCl [(h0, .inr (1, [.int to, .int rb, .int rs]))] H := hP
  have hD : va_D A [(h0, .inr (1, [.int to, .int rb, .int rs]))] := hD
  refine lv_aload_n hx hb dX1_begin_5 rfl (lv_at hl 0 rfl) ?_
  refine lv_iload_n hx hb dX1_begin_6 rfl (lv_at hl 1 rfl) ?_
  refine lv_iload_n hx hb dX1_begin_7 rfl (lv_at hl 2 rfl) ?_
  refine lv_iadd hx hb dX1_begin_8 ?_
  refine lv_topi (fun x1 ex1 => ?_)
  have hx1 : x1.toInt = to.toInt + sz0.toInt := by rw [ex1]; exact ti_add rfl rfl (by omega) (by omega)
  refine va_put (D := (dC, dI)) (ci := 1) (v := .int x1) (ty := .int) (C := RX1) (T := TX1) (N := 3) hx hb hts inX1 tyX1 tyX1_ok nmX1 hown hK hP hD hS 0 rfl rfl 1 (by decide) (hts _ k49) (fun _ h9 => h9) rfl (by decide +kernel) rfl rfl (Nat.le_of_ble_eq_true rfl) dX1_begin_9 (fun H locs hP hD hS => ?_)
  have hP : va_P (dC, dI) vwCl [(h0, .inr (1, [.int to, .int x1, .int rs]))] H := hP
  have hD : va_D A [(h0, .inr (1, [.int to, .int x1, .int rs]))] := hD
  refine lv_aload_n hx hb dX1_begin_12 rfl (lv_at hl 0 rfl) ?_
  refine lv_iload_n hx hb dX1_begin_13 rfl (lv_at hl 3 rfl) ?_
  refine lv_iload_n hx hb dX1_begin_14 rfl (lv_at hl 1 rfl) ?_
  refine lv_isub hx hb dX1_begin_15 ?_
  refine lv_topi (fun x2 ex2 => ?_)
  have hx2 : x2.toInt = fr.toInt - to.toInt := by rw [ex2]; exact ti_sub rfl rfl (by omega) (by omega)
  refine va_put (D := (dC, dI)) (ci := 1) (v := .int x2) (ty := .int) (C := RX1) (T := TX1) (N := 3) hx hb hts inX1 tyX1 tyX1_ok nmX1 hown hK hP hD hS 0 rfl rfl 2 (by decide) (hts _ k51) (fun _ h9 => h9) rfl (by decide +kernel) rfl rfl (Nat.le_of_ble_eq_true rfl) dX1_begin_16 (fun H locs hP hD hS => ?_)
  have hP : va_P (dC, dI) vwCl [(h0, .inr (1, [.int to, .int x1, .int x2]))] H := hP
  have hD : va_D A [(h0, .inr (1, [.int to, .int x1, .int x2]))] := hD
  exact W.vret hx hb hr (fun t9 ht9 hW9 => ⟨⟨(to, x1, x2), rfl, by dsimp only; omega, by rw [ht9]; exact hP, va_K.moved hW9.alike hK, hD⟩, hS.F ht9⟩) hS.2.2 dX1_begin_19
set_option maxHeartbeats 8000000 in
set_option maxRecDepth 100000 in
theorem mX1_narrow (l : Launch) {dC : Nat → ClassId} {dI : Nat → Nat → Nat} {sz : Nat} {tys : List (ClassId × FieldType)} {h0 : Nat} {ra rb rs : Int32} (pl ln : Int32) (h1 : -100000 ≤ pl.toInt ∧ pl.toInt ≤ 100000) (h2 : -100000 ≤ ln.toInt ∧ ln.toInt ≤ 100000) : Met l yX1_narrow (wM yX1_narrow cX1_narrow 3 none) ({ frames := 1, cells := 0, slots := 0, locals := 21 }) (va_Pc [.ref h0, .int pl, .int ln] (wP (dC, dI) vwCl tys [(h0, .inr (1, [.int ra, .int rb, .int rs]))] sz)) (va_Qv (fun u : Int32 × Int32 × Int32 => u.1.toInt = max ra.toInt pl.toInt ∧ u.2.1.toInt = min rb.toInt (pl.toInt + ln.toInt) ∧ u.2.2.toInt = rs.toInt) (wB (dC, dI) vwCl (va_A [(h0, .inr (1, [.int ra, .int rb, .int rs]))] sz) (fun u : Int32 × Int32 × Int32 => tys) (fun u : Int32 × Int32 × Int32 => [(h0, .inr (1, [.int u.1, .int u.2.1, .int u.2.2]))])) (va_A [(h0, .inr (1, [.int ra, .int rb, .int rs]))] sz)) 0 0 (va_A [(h0, .inr (1, [.int ra, .int rb, .int rs]))] sz) := by
  refine Met.ofW (cc := cX1_narrow) (maxL := 3) (ret := none) (by decide +kernel) rfl ?_
  intro p e s m args below meth c s₁ B hml hv
  obtain ⟨rfl, hsz, hP, hK, hD0, hNS⟩ := hv
  have hx := B.exec
  have hb := B.bytes
  have hr := B.returns
  have hts : ∀ w ∈ tblG, w.before _ s = true := fun w h => atoms_spec (ws := wM yX1_narrow cX1_narrow 3 none) B.pre w (List.mem_cons_of_mem _ h)
  have hown : s.vm.findClass RX1 = some m.cls := findClass_of_methodNamed B.named
  have hlocks := B.notSynchronized
  subst hsz
  have hD := hD0.self (sz := s.heap.size)
  generalize hAe : va_A [(h0, .inr (1, [.int ra, .int rb, .int rs]))] s.heap.size = A at hD ⊢
  have hA : ∀ q : Nat, s.heap.size ≤ q → A q := fun q h => by rw [← hAe]; exact Or.inr h
  have hS : va_S A s.heap s.heap [] := va_S.rf
  have hP : va_P (dC, dI) vwCl [(h0, .inr (1, [.int ra, .int rb, .int rs]))] s.heap := hP
  have hl := lv_entry ([.ref h0, .int pl, .int ln]) (n := 3) (Nat.le_of_ble_eq_true rfl)
  rw [lg_entry_eq]
  generalize (lg_sl ([.ref h0, .int pl, .int ln]) ++ List.replicate (3 - (lg_sl ([.ref h0, .int pl, .int ln])).length) Slot.unset).toArray = ls at hl ⊢
  have hl : lv_has ls 3 [(0, .ref h0), (1, .int pl), (2, .int ln)] := hl
  refine lv_aload_n hx hb dX1_narrow_0 rfl (lv_at hl 0 rfl) ?_
  refine lv_aload_n hx hb dX1_narrow_1 rfl (lv_at hl 0 rfl) ?_
  refine va_get (D := (dC, dI)) (ci := 1) (v := .int ra) (C := RX1) (T := TX1) (N := 3) hx hb hts inX1 hown hK hP 0 rfl rfl 0 (by decide) (hts _ k47) (fun _ h9 => h9) rfl dX1_narrow_2 ?_
  refine lv_iload_n hx hb dX1_narrow_5 rfl (lv_at hl 1 rfl) ?_
  refine va_mmax hx hb (hml.trans hl.1.symm) hown (hts _ k225) (hts _ k104) (hts _ k5) (hts _ k105) (Nat.le_of_ble_eq_true rfl) (Nat.le_of_ble_eq_true rfl) (Nat.le_of_ble_eq_true rfl) (Nat.le_of_ble_eq_true rfl) dX1_narrow_6 ?_
  refine lv_topi (fun x1 ex1 => ?_)
  have hx1 : x1.toInt = max (ra.toInt) (pl.toInt) := by rw [ex1]; exact ti_max rfl rfl
  refine va_put (D := (dC, dI)) (ci := 1) (v := .int x1) (ty := .int) (C := RX1) (T := TX1) (N := 3) hx hb hts inX1 tyX1 tyX1_ok nmX1 hown hK hP hD hS 0 rfl rfl 0 (by decide) (hts _ k47) (fun _ h9 => h9) rfl (by decide +kernel) rfl rfl (Nat.le_of_ble_eq_true rfl) dX1_narrow_9 (fun H locs hP hD hS => ?_)
  have hP : va_P (dC, dI) vwCl [(h0, .inr (1, [.int x1, .int rb, .int rs]))] H := hP
  have hD : va_D A [(h0, .inr (1, [.int x1, .int rb, .int rs]))] := hD
  refine lv_aload_n hx hb dX1_narrow_12 rfl (lv_at hl 0 rfl) ?_
  refine lv_aload_n hx hb dX1_narrow_13 rfl (lv_at hl 0 rfl) ?_
  refine va_get (D := (dC, dI)) (ci := 1) (v := .int rb) (C := RX1) (T := TX1) (N := 3) hx hb hts inX1 hown hK hP 0 rfl rfl 1 (by decide) (hts _ k49) (fun _ h9 => h9) rfl dX1_narrow_14 ?_
  refine lv_iload_n hx hb dX1_narrow_17 rfl (lv_at hl 1 rfl) ?_
  refine lv_iload_n hx hb dX1_narrow_18 rfl (lv_at hl 2 rfl) ?_
  refine lv_iadd hx hb dX1_narrow_19 ?_
  refine lv_topi (fun x2 ex2 => ?_)
  have hx2 : x2.toInt = pl.toInt + ln.toInt := by rw [ex2]; exact ti_add rfl rfl (by omega) (by omega)
  refine va_mmin hx hb (hml.trans hl.1.symm) hown (hts _ k226) (hts _ k107) (hts _ k5) (hts _ k108) (Nat.le_of_ble_eq_true rfl) (Nat.le_of_ble_eq_true rfl) (Nat.le_of_ble_eq_true rfl) (Nat.le_of_ble_eq_true rfl) dX1_narrow_20 ?_
  refine lv_topi (fun x3 ex3 => ?_)
  have hx3 : x3.toInt = min (rb.toInt) (x2.toInt) := by rw [ex3]; exact ti_min rfl rfl
  refine va_put (D := (dC, dI)) (ci := 1) (v := .int x3) (ty := .int) (C := RX1) (T := TX1) (N := 3) hx hb hts inX1 tyX1 tyX1_ok nmX1 hown hK hP hD hS 0 rfl rfl 1 (by decide) (hts _ k49) (fun _ h9 => h9) rfl (by decide +kernel) rfl rfl (Nat.le_of_ble_eq_true rfl) dX1_narrow_23 (fun H locs hP hD hS => ?_)
  have hP : va_P (dC, dI) vwCl [(h0, .inr (1, [.int x1, .int x3, .int rs]))] H := hP
  have hD : va_D A [(h0, .inr (1, [.int x1, .int x3, .int rs]))] := hD
  exact W.vret hx hb hr (fun t9 ht9 hW9 => ⟨⟨(x1, x3, rs), rfl, ⟨by dsimp only; omega, by dsimp only; omega, rfl⟩, by rw [ht9]; exact hP, va_K.moved hW9.alike hK, hD⟩, hS.F ht9⟩) hS.2.2 dX1_narrow_26
set_option maxHeartbeats 8000000 in
set_option maxRecDepth 100000 in
theorem mX0_lengthAlong (l : Launch) {dC : Nat → ClassId} {dI : Nat → Nat → Nat} {ws : va_W} {h0 k a : Nat} {w h rw : Int32} {cI cF : ClassId} (ax : Int32) (he : ws[k]? = some (h0, .inr (0, [.int w, .int h, .int rw, .ref a]))) : Met l yX0_lengthAlong (wM yX0_lengthAlong cX0_lengthAlong 2 (some .int)) ({ frames := 0, cells := 0, slots := 0, locals := 0 }) (va_Pc [.ref h0, .int ax] (rP (dC, dI) vwCl (tyB cI cF) ws)) (vp_Si (fun r => (ax.toInt = 0 → r = w) ∧ (ax.toInt ≠ 0 → r = h))) 0 0 (fun _ => False) := by
  refine Met.ofW (cc := cX0_lengthAlong) (maxL := 2) (ret := (some .int)) (by decide +kernel) rfl ?_
  intro p e s m args below meth c s₁ B hml hv
  obtain ⟨rfl, hP, hK, hNS⟩ := hv
  have hx := B.exec
  have hb := B.bytes
  have hr := B.returns
  have hts : ∀ w ∈ tblG, w.before _ s = true := fun w h => atoms_spec (ws := wM yX0_lengthAlong cX0_lengthAlong 2 (some .int)) B.pre w (List.mem_cons_of_mem _ h)
  have hown : s.vm.findClass RX0 = some m.cls := findClass_of_methodNamed B.named
  have hlocks := B.notSynchronized
  have hl := lv_entry ([.ref h0, .int ax]) (n := 2) (Nat.le_of_ble_eq_true rfl)
  rw [lg_entry_eq]
  generalize (lg_sl ([.ref h0, .int ax]) ++ List.replicate (2 - (lg_sl ([.ref h0, .int ax])).length) Slot.unset).toArray = ls at hl ⊢
  have hl : lv_has ls 2 [(0, .ref h0), (1, .int ax)] := hl
  refine lv_iload_n hx hb dX0_lengthAlong_0 rfl (lv_at hl 1 rfl) ?_
  refine lv_if_ne (tgt := 11) hx hb dX0_lengthAlong_1 (by decide) (fun c1 => ?_) (fun c1 => ?_)
  · replace c1 := mt (ti_eq rfl (by decide : (0 : Int32).toInt = (0 : Int))).mpr c1
    refine lv_aload_n hx hb dX0_lengthAlong_11 rfl (lv_at hl 0 rfl) ?_
    refine va_get (D := (dC, dI)) (ci := 0) (v := .int h) (C := RX0) (T := TX0) (N := 4) hx hb hts inX0 hown hK hP k he rfl 1 (by decide) (hts _ k25) (fun _ h9 => h9) rfl dX0_lengthAlong_12 ?_
    exact W.iret (v := h) hx hb hr (fun t9 ht9 _ => ⟨h, rfl, ⟨fun _ => by first | rfl | omega, fun _ => by first | rfl | omega⟩, ht9⟩) (fun _ h => absurd h List.not_mem_nil) dX0_lengthAlong_15
  · replace c1 := (ti_eq rfl (by decide : (0 : Int32).toInt = (0 : Int))).mp c1
    refine lv_aload_n hx hb dX0_lengthAlong_4 rfl (lv_at hl 0 rfl) ?_
    refine va_get (D := (dC, dI)) (ci := 0) (v := .int w) (C := RX0) (T := TX0) (N := 4) hx hb hts inX0 hown hK hP k he rfl 0 (by decide) (hts _ k23) (fun _ h9 => h9) rfl dX0_lengthAlong_5 ?_
    refine lv_goto (tgt := 15) hx hb dX0_lengthAlong_8 (by decide) ?_
    exact W.iret (v := w) hx hb hr (fun t9 ht9 _ => ⟨w, rfl, ⟨fun _ => by first | rfl | omega, fun _ => by first | rfl | omega⟩, ht9⟩) (fun _ h => absurd h List.not_mem_nil) dX0_lengthAlong_15
set_option maxHeartbeats 8000000 in
set_option maxRecDepth 100000 in
theorem mX0_wordCount (l : Launch) {dC : Nat → ClassId} {dI : Nat → Nat → Nat} {ws : va_W} {h0 k a : Nat} {w h rw : Int32} {cI cF : ClassId} (he : ws[k]? = some (h0, .inr (0, [.int w, .int h, .int rw, .ref a]))) (hb1 : 0 ≤ rw.toInt ∧ rw.toInt ≤ 4000) (hb2 : 0 ≤ h.toInt ∧ h.toInt ≤ 4000) : Met l yX0_wordCount (wM yX0_wordCount cX0_wordCount 1 (some .int)) ({ frames := 0, cells := 0, slots := 0, locals := 0 }) (va_Pc [.ref h0] (rP (dC, dI) vwCl (tyB cI cF) ws)) (vp_Si (fun r => r.toInt = rw.toInt * h.toInt)) 0 0 (fun _ => False) := by
  refine Met.ofW (cc := cX0_wordCount) (maxL := 1) (ret := (some .int)) (by decide +kernel) rfl ?_
  intro p e s m args below meth c s₁ B hml hv
  obtain ⟨rfl, hP, hK, hNS⟩ := hv
  have hx := B.exec
  have hb := B.bytes
  have hr := B.returns
  have hts : ∀ w ∈ tblG, w.before _ s = true := fun w h => atoms_spec (ws := wM yX0_wordCount cX0_wordCount 1 (some .int)) B.pre w (List.mem_cons_of_mem _ h)
  have hown : s.vm.findClass RX0 = some m.cls := findClass_of_methodNamed B.named
  have hlocks := B.notSynchronized
  have hl := lv_entry ([.ref h0]) (n := 1) (Nat.le_of_ble_eq_true rfl)
  rw [lg_entry_eq]
  generalize (lg_sl ([.ref h0]) ++ List.replicate (1 - (lg_sl ([.ref h0])).length) Slot.unset).toArray = ls at hl ⊢
  have hl : lv_has ls 1 [(0, .ref h0)] := hl
  refine lv_aload_n hx hb dX0_wordCount_0 rfl (lv_at hl 0 rfl) ?_
  refine va_get (D := (dC, dI)) (ci := 0) (v := .int rw) (C := RX0) (T := TX0) (N := 4) hx hb hts inX0 hown hK hP k he rfl 2 (by decide) (hts _ k27) (fun _ h9 => h9) rfl dX0_wordCount_1 ?_
  refine lv_aload_n hx hb dX0_wordCount_4 rfl (lv_at hl 0 rfl) ?_
  refine va_get (D := (dC, dI)) (ci := 0) (v := .int h) (C := RX0) (T := TX0) (N := 4) hx hb hts inX0 hown hK hP k he rfl 1 (by decide) (hts _ k25) (fun _ h9 => h9) rfl dX0_wordCount_5 ?_
  have hmb := mul_bd (a := rw.toInt) (b := h.toInt) (A := 4000) (B := 4000) (by omega) (by omega) (by omega) (by omega)
  refine lv_imul hx hb dX0_wordCount_8 ?_
  refine lv_topi (fun x1 ex1 => ?_)
  have hx1 : x1.toInt = rw.toInt * h.toInt := by rw [ex1]; exact ti_mul rfl rfl (by omega) (by omega)
  exact W.iret (v := x1) hx hb hr (fun t9 ht9 _ => ⟨x1, rfl, by omega, ht9⟩) (fun _ h => absurd h List.not_mem_nil) dX0_wordCount_9
set_option maxHeartbeats 8000000 in
set_option maxRecDepth 100000 in
theorem mX0_hasWord (l : Launch) {dC : Nat → ClassId} {dI : Nat → Nat → Nat} {ws : va_W} {h0 k a : Nat} {w h rw : Int32} {cI cF : ClassId} (i : Int32) (he : ws[k]? = some (h0, .inr (0, [.int w, .int h, .int rw, .ref a]))) (hb1 : 0 ≤ rw.toInt ∧ rw.toInt ≤ 4000) (hb2 : 0 ≤ h.toInt ∧ h.toInt ≤ 4000) : Met l yX0_hasWord (wM yX0_hasWord cX0_hasWord 2 (some .boolean)) ({ frames := 1, cells := 0, slots := 0, locals := 20 }) (va_Pc [.ref h0, .int i] (rP (dC, dI) vwCl (tyB cI cF) ws)) (vp_Si (fun r => (r.toInt = 1 ∧ 0 ≤ i.toInt ∧ i.toInt < rw.toInt * h.toInt) ∨ (r.toInt = 0 ∧ (i.toInt < 0 ∨ rw.toInt * h.toInt ≤ i.toInt)))) 0 0 (fun _ => False) := by
  refine Met.ofW (cc := cX0_hasWord) (maxL := 2) (ret := (some .boolean)) (by decide +kernel) rfl ?_
  intro p e s m args below meth c s₁ B hml hv
  obtain ⟨rfl, hP, hK, hNS⟩ := hv
  have hx := B.exec
  have hb := B.bytes
  have hr := B.returns
  have hts : ∀ w ∈ tblG, w.before _ s = true := fun w h => atoms_spec (ws := wM yX0_hasWord cX0_hasWord 2 (some .boolean)) B.pre w (List.mem_cons_of_mem _ h)
  have hown : s.vm.findClass RX0 = some m.cls := findClass_of_methodNamed B.named
  have hlocks := B.notSynchronized
  have hl := lv_entry ([.ref h0, .int i]) (n := 2) (Nat.le_of_ble_eq_true rfl)
  rw [lg_entry_eq]
  generalize (lg_sl ([.ref h0, .int i]) ++ List.replicate (2 - (lg_sl ([.ref h0, .int i])).length) Slot.unset).toArray = ls at hl ⊢
  have hl : lv_has ls 2 [(0, .ref h0), (1, .int i)] := hl
  refine lv_iload_n hx hb dX0_hasWord_0 rfl (lv_at hl 1 rfl) ?_
  refine lv_if_lt (tgt := 16) hx hb dX0_hasWord_1 (by decide) (fun c1 => ?_) (fun c1 => ?_)
  · replace c1 := (ti_lt rfl (by decide : (0 : Int32).toInt = (0 : Int))).mp c1
    refine lv_iconst (v := 0) hx hb dX0_hasWord_16 (by decide) ?_
    refine lv_topi (fun r2 er2 => ?_)
    have hr2 : r2.toInt = (0 : Int) := by rw [er2]; exact (by decide : (0 : Int32).toInt = (0 : Int))
    exact W.zret (ty := .boolean) (v := r2) hx hb hr (nar_b (by omega)) (fun t9 ht9 _ => ⟨r2, rfl, by omega, ht9⟩) (fun _ h => absurd h List.not_mem_nil) dX0_hasWord_17
  · replace c1 := mt (ti_lt rfl (by decide : (0 : Int32).toInt = (0 : Int))).mpr c1
    refine lv_iload_n hx hb dX0_hasWord_4 rfl (lv_at hl 1 rfl) ?_
    refine lv_aload_n hx hb dX0_hasWord_5 rfl (lv_at hl 0 rfl) ?_
    refine vp_callSi (va_Run.run (va_runV (As := []) (rest := [.int i]) ⟨hx, hb, hml, hown, hts⟩ (mX0_wordCount l  he (by omega) (by omega)) (cwV 0 hts (gA (m4 k121 k122 k123 k2) k124) rfl rfl rfl (by decide +kernel) ⟨Nat.le_of_ble_eq_true rfl, Nat.le_of_ble_eq_true rfl⟩) (prRV hP hK hNS rfl he) rfl rfl hl.1 rfl (lv_room (Nat.le_of_ble_eq_true rfl)) dX0_hasWord_6 ⟨Nat.le_of_ble_eq_true rfl, Nat.le_of_ble_eq_true rfl⟩)) (fun r3 hwr3 => ?_)
    try dsimp only at hwr3
    refine lv_icmp_ge (tgt := 16) hx hb dX0_hasWord_9 (by decide) (fun c4 => ?_) (fun c4 => ?_)
    · replace c4 := (ti_le rfl rfl).mp c4
      refine lv_iconst (v := 0) hx hb dX0_hasWord_16 (by decide) ?_
      refine lv_topi (fun r5 er5 => ?_)
      have hr5 : r5.toInt = (0 : Int) := by rw [er5]; exact (by decide : (0 : Int32).toInt = (0 : Int))
      exact W.zret (ty := .boolean) (v := r5) hx hb hr (nar_b (by omega)) (fun t9 ht9 _ => ⟨r5, rfl, by omega, ht9⟩) (fun _ h => absurd h List.not_mem_nil) dX0_hasWord_17
    · replace c4 := mt (ti_le rfl rfl).mpr c4
      refine lv_iconst (v := 1) hx hb dX0_hasWord_12 (by decide) ?_
      refine lv_goto (tgt := 17) hx hb dX0_hasWord_13 (by decide) ?_
      refine lv_topi (fun r6 er6 => ?_)
      have hr6 : r6.toInt = (1 : Int) := by rw [er6]; exact (by decide : (1 : Int32).toInt = (1 : Int))
      exact W.zret (ty := .boolean) (v := r6) hx hb hr (nar_b (by omega)) (fun t9 ht9 _ => ⟨r6, rfl, by omega, ht9⟩) (fun _ h => absurd h List.not_mem_nil) dX0_hasWord_17
set_option maxHeartbeats 8000000 in
set_option maxRecDepth 100000 in
theorem mX0_hasBit (l : Launch) {dC : Nat → ClassId} {dI : Nat → Nat → Nat} {ws : va_W} {h0 k a : Nat} {w h rw : Int32} {cI cF : ClassId} (x : Int32) (y : Int32) (he : ws[k]? = some (h0, .inr (0, [.int w, .int h, .int rw, .ref a]))) : Met l yX0_hasBit (wM yX0_hasBit cX0_hasBit 3 (some .boolean)) ({ frames := 0, cells := 0, slots := 0, locals := 0 }) (va_Pc [.ref h0, .int x, .int y] (rP (dC, dI) vwCl (tyB cI cF) ws)) (vp_Si (fun r => (r.toInt = 1 ∧ 0 ≤ x.toInt ∧ x.toInt < w.toInt ∧ 0 ≤ y.toInt ∧ y.toInt < h.toInt) ∨ (r.toInt = 0 ∧ (x.toInt < 0 ∨ w.toInt ≤ x.toInt ∨ y.toInt < 0 ∨ h.toInt ≤ y.toInt)))) 0 0 (fun _ => False) := by
  refine Met.ofW (cc := cX0_hasBit) (maxL := 3) (ret := (some .boolean)) (by decide +kernel) rfl ?_
  intro p e s m args below meth c s₁ B hml hv
  obtain ⟨rfl, hP, hK, hNS⟩ := hv
  have hx := B.exec
  have hb := B.bytes
  have hr := B.returns
  have hts : ∀ w ∈ tblG, w.before _ s = true := fun w h => atoms_spec (ws := wM yX0_hasBit cX0_hasBit 3 (some .boolean)) B.pre w (List.mem_cons_of_mem _ h)
  have hown : s.vm.findClass RX0 = some m.cls := findClass_of_methodNamed B.named
  have hlocks := B.notSynchronized
  have hl := lv_entry ([.ref h0, .int x, .int y]) (n := 3) (Nat.le_of_ble_eq_true rfl)
  rw [lg_entry_eq]
  generalize (lg_sl ([.ref h0, .int x, .int y]) ++ List.replicate (3 - (lg_sl ([.ref h0, .int x, .int y])).length) Slot.unset).toArray = ls at hl ⊢
  have hl : lv_has ls 3 [(0, .ref h0), (1, .int x), (2, .int y)] := hl
  refine lv_iload_n hx hb dX0_hasBit_0 rfl (lv_at hl 1 rfl) ?_
  refine lv_if_lt (tgt := 28) hx hb dX0_hasBit_1 (by decide) (fun c1 => ?_) (fun c1 => ?_)
  · replace c1 := (ti_lt rfl (by decide : (0 : Int32).toInt = (0 : Int))).mp c1
    refine lv_iconst (v := 0) hx hb dX0_hasBit_28 (by decide) ?_
    refine lv_topi (fun r2 er2 => ?_)
    have hr2 : r2.toInt = (0 : Int) := by rw [er2]; exact (by decide : (0 : Int32).toInt = (0 : Int))
    exact W.zret (ty := .boolean) (v := r2) hx hb hr (nar_b (by omega)) (fun t9 ht9 _ => ⟨r2, rfl, by omega, ht9⟩) (fun _ h => absurd h List.not_mem_nil) dX0_hasBit_29
  · replace c1 := mt (ti_lt rfl (by decide : (0 : Int32).toInt = (0 : Int))).mpr c1
    refine lv_iload_n hx hb dX0_hasBit_4 rfl (lv_at hl 1 rfl) ?_
    refine lv_aload_n hx hb dX0_hasBit_5 rfl (lv_at hl 0 rfl) ?_
    refine va_get (D := (dC, dI)) (ci := 0) (v := .int w) (C := RX0) (T := TX0) (N := 4) hx hb hts inX0 hown hK hP k he rfl 0 (by decide) (hts _ k23) (fun _ h9 => h9) rfl dX0_hasBit_6 ?_
    refine lv_icmp_ge (tgt := 28) hx hb dX0_hasBit_9 (by decide) (fun c3 => ?_) (fun c3 => ?_)
    · replace c3 := (ti_le rfl rfl).mp c3
      refine lv_iconst (v := 0) hx hb dX0_hasBit_28 (by decide) ?_
      refine lv_topi (fun r4 er4 => ?_)
      have hr4 : r4.toInt = (0 : Int) := by rw [er4]; exact (by decide : (0 : Int32).toInt = (0 : Int))
      exact W.zret (ty := .boolean) (v := r4) hx hb hr (nar_b (by omega)) (fun t9 ht9 _ => ⟨r4, rfl, by omega, ht9⟩) (fun _ h => absurd h List.not_mem_nil) dX0_hasBit_29
    · replace c3 := mt (ti_le rfl rfl).mpr c3
      refine lv_iload_n hx hb dX0_hasBit_12 rfl (lv_at hl 2 rfl) ?_
      refine lv_if_lt (tgt := 28) hx hb dX0_hasBit_13 (by decide) (fun c5 => ?_) (fun c5 => ?_)
      · replace c5 := (ti_lt rfl (by decide : (0 : Int32).toInt = (0 : Int))).mp c5
        refine lv_iconst (v := 0) hx hb dX0_hasBit_28 (by decide) ?_
        refine lv_topi (fun r6 er6 => ?_)
        have hr6 : r6.toInt = (0 : Int) := by rw [er6]; exact (by decide : (0 : Int32).toInt = (0 : Int))
        exact W.zret (ty := .boolean) (v := r6) hx hb hr (nar_b (by omega)) (fun t9 ht9 _ => ⟨r6, rfl, by omega, ht9⟩) (fun _ h => absurd h List.not_mem_nil) dX0_hasBit_29
      · replace c5 := mt (ti_lt rfl (by decide : (0 : Int32).toInt = (0 : Int))).mpr c5
        refine lv_iload_n hx hb dX0_hasBit_16 rfl (lv_at hl 2 rfl) ?_
        refine lv_aload_n hx hb dX0_hasBit_17 rfl (lv_at hl 0 rfl) ?_
        refine va_get (D := (dC, dI)) (ci := 0) (v := .int h) (C := RX0) (T := TX0) (N := 4) hx hb hts inX0 hown hK hP k he rfl 1 (by decide) (hts _ k25) (fun _ h9 => h9) rfl dX0_hasBit_18 ?_
        refine lv_icmp_ge (tgt := 28) hx hb dX0_hasBit_21 (by decide) (fun c7 => ?_) (fun c7 => ?_)
        · replace c7 := (ti_le rfl rfl).mp c7
          refine lv_iconst (v := 0) hx hb dX0_hasBit_28 (by decide) ?_
          refine lv_topi (fun r8 er8 => ?_)
          have hr8 : r8.toInt = (0 : Int) := by rw [er8]; exact (by decide : (0 : Int32).toInt = (0 : Int))
          exact W.zret (ty := .boolean) (v := r8) hx hb hr (nar_b (by omega)) (fun t9 ht9 _ => ⟨r8, rfl, by omega, ht9⟩) (fun _ h => absurd h List.not_mem_nil) dX0_hasBit_29
        · replace c7 := mt (ti_le rfl rfl).mpr c7
          refine lv_iconst (v := 1) hx hb dX0_hasBit_24 (by decide) ?_
          refine lv_goto (tgt := 29) hx hb dX0_hasBit_25 (by decide) ?_
          refine lv_topi (fun r9 er9 => ?_)
          have hr9 : r9.toInt = (1 : Int) := by rw [er9]; exact (by decide : (1 : Int32).toInt = (1 : Int))
          exact W.zret (ty := .boolean) (v := r9) hx hb hr (nar_b (by omega)) (fun t9 ht9 _ => ⟨r9, rfl, by omega, ht9⟩) (fun _ h => absurd h List.not_mem_nil) dX0_hasBit_29
