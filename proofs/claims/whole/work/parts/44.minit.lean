set_option maxHeartbeats 8000000 in
set_option maxRecDepth 100000 in
theorem mX3_init (l : Launch) {dC : Nat → ClassId} {dI : Nat → Nat → Nat} {sz : Nat} {m0 : Nat} : Met l yX3_init (wM yX3_init cX3_init 2 none) ({ frames := 1, cells := 6, slots := 20034, locals := 21 }) (va_Pc [.ref m0] (wP (dC, dI) vwCl [] [(m0, .inr (3, [.null, .null, .null, .null, .null, .int (0 : Int32), .int (0 : Int32), .int (0 : Int32), .int (0 : Int32), .null]))] sz)) (va_Qv (fun u : (Nat × Nat × Nat × Nat × Nat × Nat) × ClassId => True) (wB (dC, dI) vwCl (va_A [(m0, .inr (3, [.null, .null, .null, .null, .null, .int (0 : Int32), .int (0 : Int32), .int (0 : Int32), .int (0 : Int32), .null]))] sz) (fun u : (Nat × Nat × Nat × Nat × Nat × Nat) × ClassId => tyM u.2) (fun u : (Nat × Nat × Nat × Nat × Nat × Nat) × ClassId => w_md m0 u.1.1 u.1.2.1 u.1.2.2.1 u.1.2.2.2.1 u.1.2.2.2.2.1 u.1.2.2.2.2.2 u.2 (fun _ => 16) (fun _ => 16) (fun _ => 0) (fun _ => 0) (fun _ => 0) (upd (upd (fun _ => 0) 8 16) 9 16) 0 (-1) (-1) 3)) (va_A [(m0, .inr (3, [.null, .null, .null, .null, .null, .int (0 : Int32), .int (0 : Int32), .int (0 : Int32), .int (0 : Int32), .null]))] sz)) 6 20034 (va_A [(m0, .inr (3, [.null, .null, .null, .null, .null, .int (0 : Int32), .int (0 : Int32), .int (0 : Int32), .int (0 : Int32), .null]))] sz) := by
  refine Met.ofW (cc := cX3_init) (maxL := 2) (ret := none) (by decide +kernel) rfl ?_
  intro p e s m args below meth c s₁ B hml hv
  obtain ⟨rfl, hsz, hP, hK, hD0, hNS⟩ := hv
  have hx := B.exec
  have hb := B.bytes
  have hr := B.returns
  have hts : ∀ w ∈ tblG, w.before _ s = true := fun w h => atoms_spec (ws := wM yX3_init cX3_init 2 none) B.pre w (List.mem_cons_of_mem _ h)
  have hown : s.vm.findClass RX3 = some m.cls := findClass_of_methodNamed B.named
  have hlocks := B.notSynchronized
  have hin : meth.name = "<init>" := (name_of_methodNamed B.named B.method).1
  subst hsz
  have hD := hD0.self (sz := s.heap.size)
  generalize hAe : va_A [(m0, .inr (3, [.null, .null, .null, .null, .null, .int (0 : Int32), .int (0 : Int32), .int (0 : Int32), .int (0 : Int32), .null]))] s.heap.size = A at hD ⊢
  have hA : ∀ q : Nat, s.heap.size ≤ q → A q := fun q h => by rw [← hAe]; exact Or.inr h
  have hS : va_S A s.heap s.heap [] := va_S.rf
  have hP : va_P (dC, dI) vwCl [(m0, .inr (3, [.null, .null, .null, .null, .null, .int (0 : Int32), .int (0 : Int32), .int (0 : Int32), .int (0 : Int32), .null]))] s.heap := hP
  have hl := lv_entry ([.ref m0]) (n := 2) (Nat.le_of_ble_eq_true rfl)
  rw [lg_entry_eq]
  generalize (lg_sl ([.ref m0]) ++ List.replicate (2 - (lg_sl ([.ref m0])).length) Slot.unset).toArray = ls at hl ⊢
  have hl : lv_has ls 2 [(0, .ref m0)] := hl
  refine lv_aload_n hx hb dX3_init_0 rfl (lv_at hl 0 rfl) ?_
  refine W.objInit hx hb hown (hts _ k289) (hts _ k14) (hts _ k15) rfl (by rw [hml]; exact hl.1) rfl dX3_init_1 (Nat.le_of_ble_eq_true rfl) (Nat.le_of_ble_eq_true rfl) ?_
  refine W.eq (g2 := F0 m 4 ls []) rfl ?_
  refine lv_aload_n hx hb dX3_init_4 rfl (lv_at hl 0 rfl) ?_
  refine lv_iconst (v := 4) hx hb dX3_init_5 (by decide) ?_
  refine va_newa (atype := .int) (ty := .int) (a0 := (4, .inl (fun _ => 0))) hx hb (hts _ k40) rfl hK hP hD hS hA (fun _ => rfl) (fun h9 => absurd ((ti_lt (by decide : (4 : Int32).toInt = (4 : Int)) (by decide : (0 : Int32).toInt = 0)).mp h9) (by omega)) ((ix_cl (by decide : (4 : Int32).toInt = (4 : Int))).trans rfl) (by decide) (by show 0 + 1 ≤ 6; omega) (by show 0 + 4 ≤ 20034; omega) dX3_init_6 (fun a1 cAa1 H hK hP hD hS => ?_)
  have hK : va_K (dC, dI) vwCl [(cAa1, .int)] s := hK
  have hP : va_P (dC, dI) vwCl [(m0, .inr (3, [.null, .null, .null, .null, .null, .int (0 : Int32), .int (0 : Int32), .int (0 : Int32), .int (0 : Int32), .null])), (a1, .inl (cAa1, 4, .inl (fun _ => 0)))] H := hP
  have hD : va_D A [(m0, .inr (3, [.null, .null, .null, .null, .null, .int (0 : Int32), .int (0 : Int32), .int (0 : Int32), .int (0 : Int32), .null])), (a1, .inl (cAa1, 4, .inl (fun _ => 0)))] := hD
  refine W.widen (k := 1) (n := 4) (by omega) (by omega) ?_
  refine va_putF (D := (dC, dI)) (ci := 3) (v := .ref a1) (ty := .array .int) (C := RX3) (T := TX3) (N := 10) hx hb hts inX3 tyX3 tyX3_ok nmX3 hown hK hP hD hS 0 rfl rfl 0 (by decide) (hts _ k290) (fun _ h9 => h9) rfl hin rfl (by decide +kernel) rfl rfl (Nat.le_of_ble_eq_true rfl) dX3_init_8 (fun H locs hP hD hS => ?_)
  have hP : va_P (dC, dI) vwCl [(m0, .inr (3, [.ref a1, .null, .null, .null, .null, .int (0 : Int32), .int (0 : Int32), .int (0 : Int32), .int (0 : Int32), .null])), (a1, .inl (cAa1, 4, .inl (fun _ => 0)))] H := hP
  have hD : va_D A [(m0, .inr (3, [.ref a1, .null, .null, .null, .null, .int (0 : Int32), .int (0 : Int32), .int (0 : Int32), .int (0 : Int32), .null])), (a1, .inl (cAa1, 4, .inl (fun _ => 0)))] := hD
  refine lv_aload_n hx hb dX3_init_11 rfl (lv_at hl 0 rfl) ?_
  refine lv_iconst (v := 4) hx hb dX3_init_12 (by decide) ?_
  refine va_newa (atype := .int) (ty := .int) (a0 := (4, .inl (fun _ => 0))) hx hb (hts _ k40) rfl hK hP hD hS hA (fun _ => rfl) (fun h9 => absurd ((ti_lt (by decide : (4 : Int32).toInt = (4 : Int)) (by decide : (0 : Int32).toInt = 0)).mp h9) (by omega)) ((ix_cl (by decide : (4 : Int32).toInt = (4 : Int))).trans rfl) (by decide) (by show 1 + 1 ≤ 6; omega) (by show 4 + 4 ≤ 20034; omega) dX3_init_13 (fun a2 cAa2 H hK hP hD hS => ?_)
  have hcc : cAa1 = cAa2 := cA_one (i := 0) (j := 1) hK rfl rfl
  subst hcc
  have hK : va_K (dC, dI) vwCl [(cAa1, .int)] s := hK.sub [0] rfl
  have hP : va_P (dC, dI) vwCl [(m0, .inr (3, [.ref a1, .null, .null, .null, .null, .int (0 : Int32), .int (0 : Int32), .int (0 : Int32), .int (0 : Int32), .null])), (a1, .inl (cAa1, 4, .inl (fun _ => 0))), (a2, .inl (cAa1, 4, .inl (fun _ => 0)))] H := hP
  have hD : va_D A [(m0, .inr (3, [.ref a1, .null, .null, .null, .null, .int (0 : Int32), .int (0 : Int32), .int (0 : Int32), .int (0 : Int32), .null])), (a1, .inl (cAa1, 4, .inl (fun _ => 0))), (a2, .inl (cAa1, 4, .inl (fun _ => 0)))] := hD
  refine W.widen (k := 2) (n := 8) (by omega) (by omega) ?_
  refine va_putF (D := (dC, dI)) (ci := 3) (v := .ref a2) (ty := .array .int) (C := RX3) (T := TX3) (N := 10) hx hb hts inX3 tyX3 tyX3_ok nmX3 hown hK hP hD hS 0 rfl rfl 1 (by decide) (hts _ k291) (fun _ h9 => h9) rfl hin rfl (by decide +kernel) rfl rfl (Nat.le_of_ble_eq_true rfl) dX3_init_15 (fun H locs hP hD hS => ?_)
  have hP : va_P (dC, dI) vwCl [(m0, .inr (3, [.ref a1, .ref a2, .null, .null, .null, .int (0 : Int32), .int (0 : Int32), .int (0 : Int32), .int (0 : Int32), .null])), (a1, .inl (cAa1, 4, .inl (fun _ => 0))), (a2, .inl (cAa1, 4, .inl (fun _ => 0)))] H := hP
  have hD : va_D A [(m0, .inr (3, [.ref a1, .ref a2, .null, .null, .null, .int (0 : Int32), .int (0 : Int32), .int (0 : Int32), .int (0 : Int32), .null])), (a1, .inl (cAa1, 4, .inl (fun _ => 0))), (a2, .inl (cAa1, 4, .inl (fun _ => 0)))] := hD
  refine lv_aload_n hx hb dX3_init_18 rfl (lv_at hl 0 rfl) ?_
  refine lv_sipush (v := (16000)) hx hb dX3_init_19 (by decide) ?_
  refine va_newa (atype := .int) (ty := .int) (a0 := (16000, .inl (fun _ => 0))) hx hb (hts _ k40) rfl hK hP hD hS hA (fun _ => rfl) (fun h9 => absurd ((ti_lt (by decide : (16000 : Int32).toInt = (16000 : Int)) (by decide : (0 : Int32).toInt = 0)).mp h9) (by omega)) ((ix_cl (by decide : (16000 : Int32).toInt = (16000 : Int))).trans rfl) (by decide) (by show 2 + 1 ≤ 6; omega) (by show 8 + 16000 ≤ 20034; omega) dX3_init_22 (fun a3 cAa3 H hK hP hD hS => ?_)
  have hcc : cAa1 = cAa3 := cA_one (i := 0) (j := 1) hK rfl rfl
  subst hcc
  have hK : va_K (dC, dI) vwCl [(cAa1, .int)] s := hK.sub [0] rfl
  have hP : va_P (dC, dI) vwCl [(m0, .inr (3, [.ref a1, .ref a2, .null, .null, .null, .int (0 : Int32), .int (0 : Int32), .int (0 : Int32), .int (0 : Int32), .null])), (a1, .inl (cAa1, 4, .inl (fun _ => 0))), (a2, .inl (cAa1, 4, .inl (fun _ => 0))), (a3, .inl (cAa1, 16000, .inl (fun _ => 0)))] H := hP
  have hD : va_D A [(m0, .inr (3, [.ref a1, .ref a2, .null, .null, .null, .int (0 : Int32), .int (0 : Int32), .int (0 : Int32), .int (0 : Int32), .null])), (a1, .inl (cAa1, 4, .inl (fun _ => 0))), (a2, .inl (cAa1, 4, .inl (fun _ => 0))), (a3, .inl (cAa1, 16000, .inl (fun _ => 0)))] := hD
  refine W.widen (k := 3) (n := 16008) (by omega) (by omega) ?_
  refine va_putF (D := (dC, dI)) (ci := 3) (v := .ref a3) (ty := .array .int) (C := RX3) (T := TX3) (N := 10) hx hb hts inX3 tyX3 tyX3_ok nmX3 hown hK hP hD hS 0 rfl rfl 2 (by decide) (hts _ k292) (fun _ h9 => h9) rfl hin rfl (by decide +kernel) rfl rfl (Nat.le_of_ble_eq_true rfl) dX3_init_24 (fun H locs hP hD hS => ?_)
  have hP : va_P (dC, dI) vwCl [(m0, .inr (3, [.ref a1, .ref a2, .ref a3, .null, .null, .int (0 : Int32), .int (0 : Int32), .int (0 : Int32), .int (0 : Int32), .null])), (a1, .inl (cAa1, 4, .inl (fun _ => 0))), (a2, .inl (cAa1, 4, .inl (fun _ => 0))), (a3, .inl (cAa1, 16000, .inl (fun _ => 0)))] H := hP
  have hD : va_D A [(m0, .inr (3, [.ref a1, .ref a2, .ref a3, .null, .null, .int (0 : Int32), .int (0 : Int32), .int (0 : Int32), .int (0 : Int32), .null])), (a1, .inl (cAa1, 4, .inl (fun _ => 0))), (a2, .inl (cAa1, 4, .inl (fun _ => 0))), (a3, .inl (cAa1, 16000, .inl (fun _ => 0)))] := hD
  refine lv_aload_n hx hb dX3_init_27 rfl (lv_at hl 0 rfl) ?_
  refine lv_sipush (v := (4000)) hx hb dX3_init_28 (by decide) ?_
  refine va_newa (atype := .int) (ty := .int) (a0 := (4000, .inl (fun _ => 0))) hx hb (hts _ k40) rfl hK hP hD hS hA (fun _ => rfl) (fun h9 => absurd ((ti_lt (by decide : (4000 : Int32).toInt = (4000 : Int)) (by decide : (0 : Int32).toInt = 0)).mp h9) (by omega)) ((ix_cl (by decide : (4000 : Int32).toInt = (4000 : Int))).trans rfl) (by decide) (by show 3 + 1 ≤ 6; omega) (by show 16008 + 4000 ≤ 20034; omega) dX3_init_31 (fun a4 cAa4 H hK hP hD hS => ?_)
  have hcc : cAa1 = cAa4 := cA_one (i := 0) (j := 1) hK rfl rfl
  subst hcc
  have hK : va_K (dC, dI) vwCl [(cAa1, .int)] s := hK.sub [0] rfl
  have hP : va_P (dC, dI) vwCl [(m0, .inr (3, [.ref a1, .ref a2, .ref a3, .null, .null, .int (0 : Int32), .int (0 : Int32), .int (0 : Int32), .int (0 : Int32), .null])), (a1, .inl (cAa1, 4, .inl (fun _ => 0))), (a2, .inl (cAa1, 4, .inl (fun _ => 0))), (a3, .inl (cAa1, 16000, .inl (fun _ => 0))), (a4, .inl (cAa1, 4000, .inl (fun _ => 0)))] H := hP
  have hD : va_D A [(m0, .inr (3, [.ref a1, .ref a2, .ref a3, .null, .null, .int (0 : Int32), .int (0 : Int32), .int (0 : Int32), .int (0 : Int32), .null])), (a1, .inl (cAa1, 4, .inl (fun _ => 0))), (a2, .inl (cAa1, 4, .inl (fun _ => 0))), (a3, .inl (cAa1, 16000, .inl (fun _ => 0))), (a4, .inl (cAa1, 4000, .inl (fun _ => 0)))] := hD
  refine W.widen (k := 4) (n := 20008) (by omega) (by omega) ?_
  refine va_putF (D := (dC, dI)) (ci := 3) (v := .ref a4) (ty := .array .int) (C := RX3) (T := TX3) (N := 10) hx hb hts inX3 tyX3 tyX3_ok nmX3 hown hK hP hD hS 0 rfl rfl 3 (by decide) (hts _ k293) (fun _ h9 => h9) rfl hin rfl (by decide +kernel) rfl rfl (Nat.le_of_ble_eq_true rfl) dX3_init_33 (fun H locs hP hD hS => ?_)
  have hP : va_P (dC, dI) vwCl [(m0, .inr (3, [.ref a1, .ref a2, .ref a3, .ref a4, .null, .int (0 : Int32), .int (0 : Int32), .int (0 : Int32), .int (0 : Int32), .null])), (a1, .inl (cAa1, 4, .inl (fun _ => 0))), (a2, .inl (cAa1, 4, .inl (fun _ => 0))), (a3, .inl (cAa1, 16000, .inl (fun _ => 0))), (a4, .inl (cAa1, 4000, .inl (fun _ => 0)))] H := hP
  have hD : va_D A [(m0, .inr (3, [.ref a1, .ref a2, .ref a3, .ref a4, .null, .int (0 : Int32), .int (0 : Int32), .int (0 : Int32), .int (0 : Int32), .null])), (a1, .inl (cAa1, 4, .inl (fun _ => 0))), (a2, .inl (cAa1, 4, .inl (fun _ => 0))), (a3, .inl (cAa1, 16000, .inl (fun _ => 0))), (a4, .inl (cAa1, 4000, .inl (fun _ => 0)))] := hD
  refine lv_aload_n hx hb dX3_init_36 rfl (lv_at hl 0 rfl) ?_
  refine lv_bipush (v := (16)) hx hb dX3_init_37 (by decide) ?_
  refine va_newa (atype := .int) (ty := .int) (a0 := (16, .inl (fun _ => 0))) hx hb (hts _ k40) rfl hK hP hD hS hA (fun _ => rfl) (fun h9 => absurd ((ti_lt (by decide : (16 : Int32).toInt = (16 : Int)) (by decide : (0 : Int32).toInt = 0)).mp h9) (by omega)) ((ix_cl (by decide : (16 : Int32).toInt = (16 : Int))).trans rfl) (by decide) (by show 4 + 1 ≤ 6; omega) (by show 20008 + 16 ≤ 20034; omega) dX3_init_39 (fun a5 cAa5 H hK hP hD hS => ?_)
  have hcc : cAa1 = cAa5 := cA_one (i := 0) (j := 1) hK rfl rfl
  subst hcc
  have hK : va_K (dC, dI) vwCl [(cAa1, .int)] s := hK.sub [0] rfl
  have hP : va_P (dC, dI) vwCl [(m0, .inr (3, [.ref a1, .ref a2, .ref a3, .ref a4, .null, .int (0 : Int32), .int (0 : Int32), .int (0 : Int32), .int (0 : Int32), .null])), (a1, .inl (cAa1, 4, .inl (fun _ => 0))), (a2, .inl (cAa1, 4, .inl (fun _ => 0))), (a3, .inl (cAa1, 16000, .inl (fun _ => 0))), (a4, .inl (cAa1, 4000, .inl (fun _ => 0))), (a5, .inl (cAa1, 16, .inl (fun _ => 0)))] H := hP
  have hD : va_D A [(m0, .inr (3, [.ref a1, .ref a2, .ref a3, .ref a4, .null, .int (0 : Int32), .int (0 : Int32), .int (0 : Int32), .int (0 : Int32), .null])), (a1, .inl (cAa1, 4, .inl (fun _ => 0))), (a2, .inl (cAa1, 4, .inl (fun _ => 0))), (a3, .inl (cAa1, 16000, .inl (fun _ => 0))), (a4, .inl (cAa1, 4000, .inl (fun _ => 0))), (a5, .inl (cAa1, 16, .inl (fun _ => 0)))] := hD
  refine W.widen (k := 5) (n := 20024) (by omega) (by omega) ?_
  refine va_putF (D := (dC, dI)) (ci := 3) (v := .ref a5) (ty := .array .int) (C := RX3) (T := TX3) (N := 10) hx hb hts inX3 tyX3 tyX3_ok nmX3 hown hK hP hD hS 0 rfl rfl 4 (by decide) (hts _ k294) (fun _ h9 => h9) rfl hin rfl (by decide +kernel) rfl rfl (Nat.le_of_ble_eq_true rfl) dX3_init_41 (fun H locs hP hD hS => ?_)
  have hP : va_P (dC, dI) vwCl [(m0, .inr (3, [.ref a1, .ref a2, .ref a3, .ref a4, .ref a5, .int (0 : Int32), .int (0 : Int32), .int (0 : Int32), .int (0 : Int32), .null])), (a1, .inl (cAa1, 4, .inl (fun _ => 0))), (a2, .inl (cAa1, 4, .inl (fun _ => 0))), (a3, .inl (cAa1, 16000, .inl (fun _ => 0))), (a4, .inl (cAa1, 4000, .inl (fun _ => 0))), (a5, .inl (cAa1, 16, .inl (fun _ => 0)))] H := hP
  have hD : va_D A [(m0, .inr (3, [.ref a1, .ref a2, .ref a3, .ref a4, .ref a5, .int (0 : Int32), .int (0 : Int32), .int (0 : Int32), .int (0 : Int32), .null])), (a1, .inl (cAa1, 4, .inl (fun _ => 0))), (a2, .inl (cAa1, 4, .inl (fun _ => 0))), (a3, .inl (cAa1, 16000, .inl (fun _ => 0))), (a4, .inl (cAa1, 4000, .inl (fun _ => 0))), (a5, .inl (cAa1, 16, .inl (fun _ => 0)))] := hD
  refine lv_aload_n hx hb dX3_init_44 rfl (lv_at hl 0 rfl) ?_
  refine lv_iconst (v := (-1)) hx hb dX3_init_45 (by decide) ?_
  refine va_put (D := (dC, dI)) (ci := 3) (v := .int (-1 : Int32)) (ty := .int) (C := RX3) (T := TX3) (N := 10) hx hb hts inX3 tyX3 tyX3_ok nmX3 hown hK hP hD hS 0 rfl rfl 6 (by decide) (hts _ k296) (fun _ h9 => h9) rfl (by decide +kernel) rfl rfl (Nat.le_of_ble_eq_true rfl) dX3_init_46 (fun H locs hP hD hS => ?_)
  have hP : va_P (dC, dI) vwCl [(m0, .inr (3, [.ref a1, .ref a2, .ref a3, .ref a4, .ref a5, .int (0 : Int32), .int (-1 : Int32), .int (0 : Int32), .int (0 : Int32), .null])), (a1, .inl (cAa1, 4, .inl (fun _ => 0))), (a2, .inl (cAa1, 4, .inl (fun _ => 0))), (a3, .inl (cAa1, 16000, .inl (fun _ => 0))), (a4, .inl (cAa1, 4000, .inl (fun _ => 0))), (a5, .inl (cAa1, 16, .inl (fun _ => 0)))] H := hP
  have hD : va_D A [(m0, .inr (3, [.ref a1, .ref a2, .ref a3, .ref a4, .ref a5, .int (0 : Int32), .int (-1 : Int32), .int (0 : Int32), .int (0 : Int32), .null])), (a1, .inl (cAa1, 4, .inl (fun _ => 0))), (a2, .inl (cAa1, 4, .inl (fun _ => 0))), (a3, .inl (cAa1, 16000, .inl (fun _ => 0))), (a4, .inl (cAa1, 4000, .inl (fun _ => 0))), (a5, .inl (cAa1, 16, .inl (fun _ => 0)))] := hD
  refine lv_aload_n hx hb dX3_init_49 rfl (lv_at hl 0 rfl) ?_
  refine lv_iconst (v := (-1)) hx hb dX3_init_50 (by decide) ?_
  refine va_put (D := (dC, dI)) (ci := 3) (v := .int (-1 : Int32)) (ty := .int) (C := RX3) (T := TX3) (N := 10) hx hb hts inX3 tyX3 tyX3_ok nmX3 hown hK hP hD hS 0 rfl rfl 7 (by decide) (hts _ k297) (fun _ h9 => h9) rfl (by decide +kernel) rfl rfl (Nat.le_of_ble_eq_true rfl) dX3_init_51 (fun H locs hP hD hS => ?_)
  have hP : va_P (dC, dI) vwCl [(m0, .inr (3, [.ref a1, .ref a2, .ref a3, .ref a4, .ref a5, .int (0 : Int32), .int (-1 : Int32), .int (-1 : Int32), .int (0 : Int32), .null])), (a1, .inl (cAa1, 4, .inl (fun _ => 0))), (a2, .inl (cAa1, 4, .inl (fun _ => 0))), (a3, .inl (cAa1, 16000, .inl (fun _ => 0))), (a4, .inl (cAa1, 4000, .inl (fun _ => 0))), (a5, .inl (cAa1, 16, .inl (fun _ => 0)))] H := hP
  have hD : va_D A [(m0, .inr (3, [.ref a1, .ref a2, .ref a3, .ref a4, .ref a5, .int (0 : Int32), .int (-1 : Int32), .int (-1 : Int32), .int (0 : Int32), .null])), (a1, .inl (cAa1, 4, .inl (fun _ => 0))), (a2, .inl (cAa1, 4, .inl (fun _ => 0))), (a3, .inl (cAa1, 16000, .inl (fun _ => 0))), (a4, .inl (cAa1, 4000, .inl (fun _ => 0))), (a5, .inl (cAa1, 16, .inl (fun _ => 0)))] := hD
  refine lv_aload_n hx hb dX3_init_54 rfl (lv_at hl 0 rfl) ?_
  refine lv_iconst (v := 3) hx hb dX3_init_55 (by decide) ?_
  refine va_put (D := (dC, dI)) (ci := 3) (v := .int (3 : Int32)) (ty := .int) (C := RX3) (T := TX3) (N := 10) hx hb hts inX3 tyX3 tyX3_ok nmX3 hown hK hP hD hS 0 rfl rfl 8 (by decide) (hts _ k298) (fun _ h9 => h9) rfl (by decide +kernel) rfl rfl (Nat.le_of_ble_eq_true rfl) dX3_init_56 (fun H locs hP hD hS => ?_)
  have hP : va_P (dC, dI) vwCl [(m0, .inr (3, [.ref a1, .ref a2, .ref a3, .ref a4, .ref a5, .int (0 : Int32), .int (-1 : Int32), .int (-1 : Int32), .int (3 : Int32), .null])), (a1, .inl (cAa1, 4, .inl (fun _ => 0))), (a2, .inl (cAa1, 4, .inl (fun _ => 0))), (a3, .inl (cAa1, 16000, .inl (fun _ => 0))), (a4, .inl (cAa1, 4000, .inl (fun _ => 0))), (a5, .inl (cAa1, 16, .inl (fun _ => 0)))] H := hP
  have hD : va_D A [(m0, .inr (3, [.ref a1, .ref a2, .ref a3, .ref a4, .ref a5, .int (0 : Int32), .int (-1 : Int32), .int (-1 : Int32), .int (3 : Int32), .null])), (a1, .inl (cAa1, 4, .inl (fun _ => 0))), (a2, .inl (cAa1, 4, .inl (fun _ => 0))), (a3, .inl (cAa1, 16000, .inl (fun _ => 0))), (a4, .inl (cAa1, 4000, .inl (fun _ => 0))), (a5, .inl (cAa1, 16, .inl (fun _ => 0)))] := hD
  refine lv_aload_n hx hb dX3_init_59 rfl (lv_at hl 0 rfl) ?_
  refine lv_bipush (v := (10)) hx hb dX3_init_60 (by decide) ?_
  refine va_newa (atype := .int) (ty := .int) (a0 := (10, .inl (fun _ => 0))) hx hb (hts _ k40) rfl hK hP hD hS hA (fun _ => rfl) (fun h9 => absurd ((ti_lt (by decide : (10 : Int32).toInt = (10 : Int)) (by decide : (0 : Int32).toInt = 0)).mp h9) (by omega)) ((ix_cl (by decide : (10 : Int32).toInt = (10 : Int))).trans rfl) (by decide) (by show 5 + 1 ≤ 6; omega) (by show 20024 + 10 ≤ 20034; omega) dX3_init_62 (fun a6 cAa6 H hK hP hD hS => ?_)
  have hcc : cAa1 = cAa6 := cA_one (i := 0) (j := 1) hK rfl rfl
  subst hcc
  have hK : va_K (dC, dI) vwCl [(cAa1, .int)] s := hK.sub [0] rfl
  have hP : va_P (dC, dI) vwCl [(m0, .inr (3, [.ref a1, .ref a2, .ref a3, .ref a4, .ref a5, .int (0 : Int32), .int (-1 : Int32), .int (-1 : Int32), .int (3 : Int32), .null])), (a1, .inl (cAa1, 4, .inl (fun _ => 0))), (a2, .inl (cAa1, 4, .inl (fun _ => 0))), (a3, .inl (cAa1, 16000, .inl (fun _ => 0))), (a4, .inl (cAa1, 4000, .inl (fun _ => 0))), (a5, .inl (cAa1, 16, .inl (fun _ => 0))), (a6, .inl (cAa1, 10, .inl (fun _ => 0)))] H := hP
  have hD : va_D A [(m0, .inr (3, [.ref a1, .ref a2, .ref a3, .ref a4, .ref a5, .int (0 : Int32), .int (-1 : Int32), .int (-1 : Int32), .int (3 : Int32), .null])), (a1, .inl (cAa1, 4, .inl (fun _ => 0))), (a2, .inl (cAa1, 4, .inl (fun _ => 0))), (a3, .inl (cAa1, 16000, .inl (fun _ => 0))), (a4, .inl (cAa1, 4000, .inl (fun _ => 0))), (a5, .inl (cAa1, 16, .inl (fun _ => 0))), (a6, .inl (cAa1, 10, .inl (fun _ => 0)))] := hD
  refine W.widen (k := 6) (n := 20034) (by omega) (by omega) ?_
  refine va_putF (D := (dC, dI)) (ci := 3) (v := .ref a6) (ty := .array .int) (C := RX3) (T := TX3) (N := 10) hx hb hts inX3 tyX3 tyX3_ok nmX3 hown hK hP hD hS 0 rfl rfl 9 (by decide) (hts _ k299) (fun _ h9 => h9) rfl hin rfl (by decide +kernel) rfl rfl (Nat.le_of_ble_eq_true rfl) dX3_init_64 (fun H locs hP hD hS => ?_)
  have hP : va_P (dC, dI) vwCl [(m0, .inr (3, [.ref a1, .ref a2, .ref a3, .ref a4, .ref a5, .int (0 : Int32), .int (-1 : Int32), .int (-1 : Int32), .int (3 : Int32), .ref a6])), (a1, .inl (cAa1, 4, .inl (fun _ => 0))), (a2, .inl (cAa1, 4, .inl (fun _ => 0))), (a3, .inl (cAa1, 16000, .inl (fun _ => 0))), (a4, .inl (cAa1, 4000, .inl (fun _ => 0))), (a5, .inl (cAa1, 16, .inl (fun _ => 0))), (a6, .inl (cAa1, 10, .inl (fun _ => 0)))] H := hP
  have hD : va_D A [(m0, .inr (3, [.ref a1, .ref a2, .ref a3, .ref a4, .ref a5, .int (0 : Int32), .int (-1 : Int32), .int (-1 : Int32), .int (3 : Int32), .ref a6])), (a1, .inl (cAa1, 4, .inl (fun _ => 0))), (a2, .inl (cAa1, 4, .inl (fun _ => 0))), (a3, .inl (cAa1, 16000, .inl (fun _ => 0))), (a4, .inl (cAa1, 4000, .inl (fun _ => 0))), (a5, .inl (cAa1, 16, .inl (fun _ => 0))), (a6, .inl (cAa1, 10, .inl (fun _ => 0)))] := hD
  refine lv_iconst (v := 0) hx hb dX3_init_67 (by decide) ?_
  refine lv_istore_n (lv' := [(1, .int (0 : Int32)), (0, .ref m0)]) hx hb dX3_init_68 rfl hl (by decide) rfl (fun ls hl => ?_)
  refine lv_iload_n hx hb dX3_init_69 rfl (lv_at hl 0 rfl) ?_
  refine lv_iconst (v := 4) hx hb dX3_init_70 (by decide) ?_
  refine lv_icmp_ge (tgt := 96) hx hb dX3_init_71 (by decide) (fun c1 => ?_) (fun c1 => ?_)
  · replace c1 := (ti_le (by decide : (4 : Int32).toInt = (4 : Int)) (by decide : (0 : Int32).toInt = (0 : Int))).mp c1
    exfalso; omega
  · replace c1 := mt (ti_le (by decide : (4 : Int32).toInt = (4 : Int)) (by decide : (0 : Int32).toInt = (0 : Int))).mpr c1
    refine lv_aload_n hx hb dX3_init_74 rfl (lv_at hl 1 rfl) ?_
    refine va_get (D := (dC, dI)) (ci := 3) (v := .ref a1) (C := RX3) (T := TX3) (N := 10) hx hb hts inX3 hown hK hP 0 rfl rfl 0 (by decide) (hts _ k290) (fun _ h9 => h9) rfl dX3_init_75 ?_
    refine lv_iload_n hx hb dX3_init_78 rfl (lv_at hl 0 rfl) ?_
    refine lv_bipush (v := (16)) hx hb dX3_init_79 (by decide) ?_
    refine isK hx hb hK hP hD hS 1 0 rfl rfl (0) (by decide) (by omega) dX3_init_81 (fun H locs hP hD hS => ?_)
    have hP : va_P (dC, dI) vwCl [(m0, .inr (3, [.ref a1, .ref a2, .ref a3, .ref a4, .ref a5, .int (0 : Int32), .int (-1 : Int32), .int (-1 : Int32), .int (3 : Int32), .ref a6])), (a1, .inl (cAa1, 4, .inl (upd (fun _ => 0) 0 (16 : Int32)))), (a2, .inl (cAa1, 4, .inl (fun _ => 0))), (a3, .inl (cAa1, 16000, .inl (fun _ => 0))), (a4, .inl (cAa1, 4000, .inl (fun _ => 0))), (a5, .inl (cAa1, 16, .inl (fun _ => 0))), (a6, .inl (cAa1, 10, .inl (fun _ => 0)))] H := hP
    have hD : va_D A [(m0, .inr (3, [.ref a1, .ref a2, .ref a3, .ref a4, .ref a5, .int (0 : Int32), .int (-1 : Int32), .int (-1 : Int32), .int (3 : Int32), .ref a6])), (a1, .inl (cAa1, 4, .inl (upd (fun _ => 0) 0 (16 : Int32)))), (a2, .inl (cAa1, 4, .inl (fun _ => 0))), (a3, .inl (cAa1, 16000, .inl (fun _ => 0))), (a4, .inl (cAa1, 4000, .inl (fun _ => 0))), (a5, .inl (cAa1, 16, .inl (fun _ => 0))), (a6, .inl (cAa1, 10, .inl (fun _ => 0)))] := hD
    refine lv_aload_n hx hb dX3_init_82 rfl (lv_at hl 1 rfl) ?_
    refine va_get (D := (dC, dI)) (ci := 3) (v := .ref a2) (C := RX3) (T := TX3) (N := 10) hx hb hts inX3 hown hK hP 0 rfl rfl 1 (by decide) (hts _ k291) (fun _ h9 => h9) rfl dX3_init_83 ?_
    refine lv_iload_n hx hb dX3_init_86 rfl (lv_at hl 0 rfl) ?_
    refine lv_bipush (v := (16)) hx hb dX3_init_87 (by decide) ?_
    refine isK hx hb hK hP hD hS 2 0 rfl rfl (0) (by decide) (by omega) dX3_init_89 (fun H locs hP hD hS => ?_)
    have hP : va_P (dC, dI) vwCl [(m0, .inr (3, [.ref a1, .ref a2, .ref a3, .ref a4, .ref a5, .int (0 : Int32), .int (-1 : Int32), .int (-1 : Int32), .int (3 : Int32), .ref a6])), (a1, .inl (cAa1, 4, .inl (upd (fun _ => 0) 0 (16 : Int32)))), (a2, .inl (cAa1, 4, .inl (upd (fun _ => 0) 0 (16 : Int32)))), (a3, .inl (cAa1, 16000, .inl (fun _ => 0))), (a4, .inl (cAa1, 4000, .inl (fun _ => 0))), (a5, .inl (cAa1, 16, .inl (fun _ => 0))), (a6, .inl (cAa1, 10, .inl (fun _ => 0)))] H := hP
    have hD : va_D A [(m0, .inr (3, [.ref a1, .ref a2, .ref a3, .ref a4, .ref a5, .int (0 : Int32), .int (-1 : Int32), .int (-1 : Int32), .int (3 : Int32), .ref a6])), (a1, .inl (cAa1, 4, .inl (upd (fun _ => 0) 0 (16 : Int32)))), (a2, .inl (cAa1, 4, .inl (upd (fun _ => 0) 0 (16 : Int32)))), (a3, .inl (cAa1, 16000, .inl (fun _ => 0))), (a4, .inl (cAa1, 4000, .inl (fun _ => 0))), (a5, .inl (cAa1, 16, .inl (fun _ => 0))), (a6, .inl (cAa1, 10, .inl (fun _ => 0)))] := hD
    obtain ⟨x2, ex2⟩ : ∃ y : Int32, y = (0 : Int32) + 1 := ⟨_, rfl⟩
    have hx2 : x2.toInt = (0 : Int) + 1 := by rw [ex2]; exact ti_add (by decide : (0 : Int32).toInt = (0 : Int)) (by decide) (by omega) (by omega)
    refine lv_iinc (v := x2) (lv' := [(1, .int x2), (0, .ref m0)]) hx hb dX3_init_90 hl (k := 0) rfl (by rw [ex2]; rfl) (by decide) rfl (fun ls hl => ?_)
    refine lv_goto (tgt := 69) hx hb dX3_init_93 (by decide) ?_
    refine lv_iload_n hx hb dX3_init_69 rfl (lv_at hl 0 rfl) ?_
    refine lv_iconst (v := 4) hx hb dX3_init_70 (by decide) ?_
    refine lv_icmp_ge (tgt := 96) hx hb dX3_init_71 (by decide) (fun c3 => ?_) (fun c3 => ?_)
    · replace c3 := (ti_le (by decide : (4 : Int32).toInt = (4 : Int)) rfl).mp c3
      exfalso; omega
    · replace c3 := mt (ti_le (by decide : (4 : Int32).toInt = (4 : Int)) rfl).mpr c3
      refine lv_aload_n hx hb dX3_init_74 rfl (lv_at hl 1 rfl) ?_
      refine va_get (D := (dC, dI)) (ci := 3) (v := .ref a1) (C := RX3) (T := TX3) (N := 10) hx hb hts inX3 hown hK hP 0 rfl rfl 0 (by decide) (hts _ k290) (fun _ h9 => h9) rfl dX3_init_75 ?_
      refine lv_iload_n hx hb dX3_init_78 rfl (lv_at hl 0 rfl) ?_
      refine lv_bipush (v := (16)) hx hb dX3_init_79 (by decide) ?_
      refine isK hx hb hK hP hD hS 1 0 rfl rfl (1) (by omega) (by omega) dX3_init_81 (fun H locs hP hD hS => ?_)
      have hP : va_P (dC, dI) vwCl [(m0, .inr (3, [.ref a1, .ref a2, .ref a3, .ref a4, .ref a5, .int (0 : Int32), .int (-1 : Int32), .int (-1 : Int32), .int (3 : Int32), .ref a6])), (a1, .inl (cAa1, 4, .inl (upd (upd (fun _ => 0) 0 (16 : Int32)) 1 (16 : Int32)))), (a2, .inl (cAa1, 4, .inl (upd (fun _ => 0) 0 (16 : Int32)))), (a3, .inl (cAa1, 16000, .inl (fun _ => 0))), (a4, .inl (cAa1, 4000, .inl (fun _ => 0))), (a5, .inl (cAa1, 16, .inl (fun _ => 0))), (a6, .inl (cAa1, 10, .inl (fun _ => 0)))] H := hP
      have hD : va_D A [(m0, .inr (3, [.ref a1, .ref a2, .ref a3, .ref a4, .ref a5, .int (0 : Int32), .int (-1 : Int32), .int (-1 : Int32), .int (3 : Int32), .ref a6])), (a1, .inl (cAa1, 4, .inl (upd (upd (fun _ => 0) 0 (16 : Int32)) 1 (16 : Int32)))), (a2, .inl (cAa1, 4, .inl (upd (fun _ => 0) 0 (16 : Int32)))), (a3, .inl (cAa1, 16000, .inl (fun _ => 0))), (a4, .inl (cAa1, 4000, .inl (fun _ => 0))), (a5, .inl (cAa1, 16, .inl (fun _ => 0))), (a6, .inl (cAa1, 10, .inl (fun _ => 0)))] := hD
      refine lv_aload_n hx hb dX3_init_82 rfl (lv_at hl 1 rfl) ?_
      refine va_get (D := (dC, dI)) (ci := 3) (v := .ref a2) (C := RX3) (T := TX3) (N := 10) hx hb hts inX3 hown hK hP 0 rfl rfl 1 (by decide) (hts _ k291) (fun _ h9 => h9) rfl dX3_init_83 ?_
      refine lv_iload_n hx hb dX3_init_86 rfl (lv_at hl 0 rfl) ?_
      refine lv_bipush (v := (16)) hx hb dX3_init_87 (by decide) ?_
      refine isK hx hb hK hP hD hS 2 0 rfl rfl (1) (by omega) (by omega) dX3_init_89 (fun H locs hP hD hS => ?_)
      have hP : va_P (dC, dI) vwCl [(m0, .inr (3, [.ref a1, .ref a2, .ref a3, .ref a4, .ref a5, .int (0 : Int32), .int (-1 : Int32), .int (-1 : Int32), .int (3 : Int32), .ref a6])), (a1, .inl (cAa1, 4, .inl (upd (upd (fun _ => 0) 0 (16 : Int32)) 1 (16 : Int32)))), (a2, .inl (cAa1, 4, .inl (upd (upd (fun _ => 0) 0 (16 : Int32)) 1 (16 : Int32)))), (a3, .inl (cAa1, 16000, .inl (fun _ => 0))), (a4, .inl (cAa1, 4000, .inl (fun _ => 0))), (a5, .inl (cAa1, 16, .inl (fun _ => 0))), (a6, .inl (cAa1, 10, .inl (fun _ => 0)))] H := hP
      have hD : va_D A [(m0, .inr (3, [.ref a1, .ref a2, .ref a3, .ref a4, .ref a5, .int (0 : Int32), .int (-1 : Int32), .int (-1 : Int32), .int (3 : Int32), .ref a6])), (a1, .inl (cAa1, 4, .inl (upd (upd (fun _ => 0) 0 (16 : Int32)) 1 (16 : Int32)))), (a2, .inl (cAa1, 4, .inl (upd (upd (fun _ => 0) 0 (16 : Int32)) 1 (16 : Int32)))), (a3, .inl (cAa1, 16000, .inl (fun _ => 0))), (a4, .inl (cAa1, 4000, .inl (fun _ => 0))), (a5, .inl (cAa1, 16, .inl (fun _ => 0))), (a6, .inl (cAa1, 10, .inl (fun _ => 0)))] := hD
      obtain ⟨x4, ex4⟩ : ∃ y : Int32, y = x2 + 1 := ⟨_, rfl⟩
      have hx4 : x4.toInt = x2.toInt + 1 := by rw [ex4]; exact ti_add rfl (by decide) (by omega) (by omega)
      refine lv_iinc (v := x4) (lv' := [(1, .int x4), (0, .ref m0)]) hx hb dX3_init_90 hl (k := 0) rfl (by rw [ex4]; rfl) (by decide) rfl (fun ls hl => ?_)
      refine lv_goto (tgt := 69) hx hb dX3_init_93 (by decide) ?_
      refine lv_iload_n hx hb dX3_init_69 rfl (lv_at hl 0 rfl) ?_
      refine lv_iconst (v := 4) hx hb dX3_init_70 (by decide) ?_
      refine lv_icmp_ge (tgt := 96) hx hb dX3_init_71 (by decide) (fun c5 => ?_) (fun c5 => ?_)
      · replace c5 := (ti_le (by decide : (4 : Int32).toInt = (4 : Int)) rfl).mp c5
        exfalso; omega
      · replace c5 := mt (ti_le (by decide : (4 : Int32).toInt = (4 : Int)) rfl).mpr c5
        refine lv_aload_n hx hb dX3_init_74 rfl (lv_at hl 1 rfl) ?_
        refine va_get (D := (dC, dI)) (ci := 3) (v := .ref a1) (C := RX3) (T := TX3) (N := 10) hx hb hts inX3 hown hK hP 0 rfl rfl 0 (by decide) (hts _ k290) (fun _ h9 => h9) rfl dX3_init_75 ?_
        refine lv_iload_n hx hb dX3_init_78 rfl (lv_at hl 0 rfl) ?_
        refine lv_bipush (v := (16)) hx hb dX3_init_79 (by decide) ?_
        refine isK hx hb hK hP hD hS 1 0 rfl rfl (2) (by omega) (by omega) dX3_init_81 (fun H locs hP hD hS => ?_)
        have hP : va_P (dC, dI) vwCl [(m0, .inr (3, [.ref a1, .ref a2, .ref a3, .ref a4, .ref a5, .int (0 : Int32), .int (-1 : Int32), .int (-1 : Int32), .int (3 : Int32), .ref a6])), (a1, .inl (cAa1, 4, .inl (upd (upd (upd (fun _ => 0) 0 (16 : Int32)) 1 (16 : Int32)) 2 (16 : Int32)))), (a2, .inl (cAa1, 4, .inl (upd (upd (fun _ => 0) 0 (16 : Int32)) 1 (16 : Int32)))), (a3, .inl (cAa1, 16000, .inl (fun _ => 0))), (a4, .inl (cAa1, 4000, .inl (fun _ => 0))), (a5, .inl (cAa1, 16, .inl (fun _ => 0))), (a6, .inl (cAa1, 10, .inl (fun _ => 0)))] H := hP
        have hD : va_D A [(m0, .inr (3, [.ref a1, .ref a2, .ref a3, .ref a4, .ref a5, .int (0 : Int32), .int (-1 : Int32), .int (-1 : Int32), .int (3 : Int32), .ref a6])), (a1, .inl (cAa1, 4, .inl (upd (upd (upd (fun _ => 0) 0 (16 : Int32)) 1 (16 : Int32)) 2 (16 : Int32)))), (a2, .inl (cAa1, 4, .inl (upd (upd (fun _ => 0) 0 (16 : Int32)) 1 (16 : Int32)))), (a3, .inl (cAa1, 16000, .inl (fun _ => 0))), (a4, .inl (cAa1, 4000, .inl (fun _ => 0))), (a5, .inl (cAa1, 16, .inl (fun _ => 0))), (a6, .inl (cAa1, 10, .inl (fun _ => 0)))] := hD
        refine lv_aload_n hx hb dX3_init_82 rfl (lv_at hl 1 rfl) ?_
        refine va_get (D := (dC, dI)) (ci := 3) (v := .ref a2) (C := RX3) (T := TX3) (N := 10) hx hb hts inX3 hown hK hP 0 rfl rfl 1 (by decide) (hts _ k291) (fun _ h9 => h9) rfl dX3_init_83 ?_
        refine lv_iload_n hx hb dX3_init_86 rfl (lv_at hl 0 rfl) ?_
        refine lv_bipush (v := (16)) hx hb dX3_init_87 (by decide) ?_
        refine isK hx hb hK hP hD hS 2 0 rfl rfl (2) (by omega) (by omega) dX3_init_89 (fun H locs hP hD hS => ?_)
        have hP : va_P (dC, dI) vwCl [(m0, .inr (3, [.ref a1, .ref a2, .ref a3, .ref a4, .ref a5, .int (0 : Int32), .int (-1 : Int32), .int (-1 : Int32), .int (3 : Int32), .ref a6])), (a1, .inl (cAa1, 4, .inl (upd (upd (upd (fun _ => 0) 0 (16 : Int32)) 1 (16 : Int32)) 2 (16 : Int32)))), (a2, .inl (cAa1, 4, .inl (upd (upd (upd (fun _ => 0) 0 (16 : Int32)) 1 (16 : Int32)) 2 (16 : Int32)))), (a3, .inl (cAa1, 16000, .inl (fun _ => 0))), (a4, .inl (cAa1, 4000, .inl (fun _ => 0))), (a5, .inl (cAa1, 16, .inl (fun _ => 0))), (a6, .inl (cAa1, 10, .inl (fun _ => 0)))] H := hP
        have hD : va_D A [(m0, .inr (3, [.ref a1, .ref a2, .ref a3, .ref a4, .ref a5, .int (0 : Int32), .int (-1 : Int32), .int (-1 : Int32), .int (3 : Int32), .ref a6])), (a1, .inl (cAa1, 4, .inl (upd (upd (upd (fun _ => 0) 0 (16 : Int32)) 1 (16 : Int32)) 2 (16 : Int32)))), (a2, .inl (cAa1, 4, .inl (upd (upd (upd (fun _ => 0) 0 (16 : Int32)) 1 (16 : Int32)) 2 (16 : Int32)))), (a3, .inl (cAa1, 16000, .inl (fun _ => 0))), (a4, .inl (cAa1, 4000, .inl (fun _ => 0))), (a5, .inl (cAa1, 16, .inl (fun _ => 0))), (a6, .inl (cAa1, 10, .inl (fun _ => 0)))] := hD
        obtain ⟨x6, ex6⟩ : ∃ y : Int32, y = x4 + 1 := ⟨_, rfl⟩
        have hx6 : x6.toInt = x4.toInt + 1 := by rw [ex6]; exact ti_add rfl (by decide) (by omega) (by omega)
        refine lv_iinc (v := x6) (lv' := [(1, .int x6), (0, .ref m0)]) hx hb dX3_init_90 hl (k := 0) rfl (by rw [ex6]; rfl) (by decide) rfl (fun ls hl => ?_)
        refine lv_goto (tgt := 69) hx hb dX3_init_93 (by decide) ?_
        refine lv_iload_n hx hb dX3_init_69 rfl (lv_at hl 0 rfl) ?_
        refine lv_iconst (v := 4) hx hb dX3_init_70 (by decide) ?_
        refine lv_icmp_ge (tgt := 96) hx hb dX3_init_71 (by decide) (fun c7 => ?_) (fun c7 => ?_)
        · replace c7 := (ti_le (by decide : (4 : Int32).toInt = (4 : Int)) rfl).mp c7
          exfalso; omega
        · replace c7 := mt (ti_le (by decide : (4 : Int32).toInt = (4 : Int)) rfl).mpr c7
          refine lv_aload_n hx hb dX3_init_74 rfl (lv_at hl 1 rfl) ?_
          refine va_get (D := (dC, dI)) (ci := 3) (v := .ref a1) (C := RX3) (T := TX3) (N := 10) hx hb hts inX3 hown hK hP 0 rfl rfl 0 (by decide) (hts _ k290) (fun _ h9 => h9) rfl dX3_init_75 ?_
          refine lv_iload_n hx hb dX3_init_78 rfl (lv_at hl 0 rfl) ?_
          refine lv_bipush (v := (16)) hx hb dX3_init_79 (by decide) ?_
          refine isK hx hb hK hP hD hS 1 0 rfl rfl (3) (by omega) (by omega) dX3_init_81 (fun H locs hP hD hS => ?_)
          have hP : va_P (dC, dI) vwCl [(m0, .inr (3, [.ref a1, .ref a2, .ref a3, .ref a4, .ref a5, .int (0 : Int32), .int (-1 : Int32), .int (-1 : Int32), .int (3 : Int32), .ref a6])), (a1, .inl (cAa1, 4, .inl (upd (upd (upd (upd (fun _ => 0) 0 (16 : Int32)) 1 (16 : Int32)) 2 (16 : Int32)) 3 (16 : Int32)))), (a2, .inl (cAa1, 4, .inl (upd (upd (upd (fun _ => 0) 0 (16 : Int32)) 1 (16 : Int32)) 2 (16 : Int32)))), (a3, .inl (cAa1, 16000, .inl (fun _ => 0))), (a4, .inl (cAa1, 4000, .inl (fun _ => 0))), (a5, .inl (cAa1, 16, .inl (fun _ => 0))), (a6, .inl (cAa1, 10, .inl (fun _ => 0)))] H := hP
          have hD : va_D A [(m0, .inr (3, [.ref a1, .ref a2, .ref a3, .ref a4, .ref a5, .int (0 : Int32), .int (-1 : Int32), .int (-1 : Int32), .int (3 : Int32), .ref a6])), (a1, .inl (cAa1, 4, .inl (upd (upd (upd (upd (fun _ => 0) 0 (16 : Int32)) 1 (16 : Int32)) 2 (16 : Int32)) 3 (16 : Int32)))), (a2, .inl (cAa1, 4, .inl (upd (upd (upd (fun _ => 0) 0 (16 : Int32)) 1 (16 : Int32)) 2 (16 : Int32)))), (a3, .inl (cAa1, 16000, .inl (fun _ => 0))), (a4, .inl (cAa1, 4000, .inl (fun _ => 0))), (a5, .inl (cAa1, 16, .inl (fun _ => 0))), (a6, .inl (cAa1, 10, .inl (fun _ => 0)))] := hD
          refine lv_aload_n hx hb dX3_init_82 rfl (lv_at hl 1 rfl) ?_
          refine va_get (D := (dC, dI)) (ci := 3) (v := .ref a2) (C := RX3) (T := TX3) (N := 10) hx hb hts inX3 hown hK hP 0 rfl rfl 1 (by decide) (hts _ k291) (fun _ h9 => h9) rfl dX3_init_83 ?_
          refine lv_iload_n hx hb dX3_init_86 rfl (lv_at hl 0 rfl) ?_
          refine lv_bipush (v := (16)) hx hb dX3_init_87 (by decide) ?_
          refine isK hx hb hK hP hD hS 2 0 rfl rfl (3) (by omega) (by omega) dX3_init_89 (fun H locs hP hD hS => ?_)
          have hP : va_P (dC, dI) vwCl [(m0, .inr (3, [.ref a1, .ref a2, .ref a3, .ref a4, .ref a5, .int (0 : Int32), .int (-1 : Int32), .int (-1 : Int32), .int (3 : Int32), .ref a6])), (a1, .inl (cAa1, 4, .inl (upd (upd (upd (upd (fun _ => 0) 0 (16 : Int32)) 1 (16 : Int32)) 2 (16 : Int32)) 3 (16 : Int32)))), (a2, .inl (cAa1, 4, .inl (upd (upd (upd (upd (fun _ => 0) 0 (16 : Int32)) 1 (16 : Int32)) 2 (16 : Int32)) 3 (16 : Int32)))), (a3, .inl (cAa1, 16000, .inl (fun _ => 0))), (a4, .inl (cAa1, 4000, .inl (fun _ => 0))), (a5, .inl (cAa1, 16, .inl (fun _ => 0))), (a6, .inl (cAa1, 10, .inl (fun _ => 0)))] H := hP
          have hD : va_D A [(m0, .inr (3, [.ref a1, .ref a2, .ref a3, .ref a4, .ref a5, .int (0 : Int32), .int (-1 : Int32), .int (-1 : Int32), .int (3 : Int32), .ref a6])), (a1, .inl (cAa1, 4, .inl (upd (upd (upd (upd (fun _ => 0) 0 (16 : Int32)) 1 (16 : Int32)) 2 (16 : Int32)) 3 (16 : Int32)))), (a2, .inl (cAa1, 4, .inl (upd (upd (upd (upd (fun _ => 0) 0 (16 : Int32)) 1 (16 : Int32)) 2 (16 : Int32)) 3 (16 : Int32)))), (a3, .inl (cAa1, 16000, .inl (fun _ => 0))), (a4, .inl (cAa1, 4000, .inl (fun _ => 0))), (a5, .inl (cAa1, 16, .inl (fun _ => 0))), (a6, .inl (cAa1, 10, .inl (fun _ => 0)))] := hD
          obtain ⟨x8, ex8⟩ : ∃ y : Int32, y = x6 + 1 := ⟨_, rfl⟩
          have hx8 : x8.toInt = x6.toInt + 1 := by rw [ex8]; exact ti_add rfl (by decide) (by omega) (by omega)
          refine lv_iinc (v := x8) (lv' := [(1, .int x8), (0, .ref m0)]) hx hb dX3_init_90 hl (k := 0) rfl (by rw [ex8]; rfl) (by decide) rfl (fun ls hl => ?_)
          refine lv_goto (tgt := 69) hx hb dX3_init_93 (by decide) ?_
          refine lv_iload_n hx hb dX3_init_69 rfl (lv_at hl 0 rfl) ?_
          refine lv_iconst (v := 4) hx hb dX3_init_70 (by decide) ?_
          refine lv_icmp_ge (tgt := 96) hx hb dX3_init_71 (by decide) (fun c9 => ?_) (fun c9 => ?_)
          · replace c9 := (ti_le (by decide : (4 : Int32).toInt = (4 : Int)) rfl).mp c9
            refine lv_aload_n hx hb dX3_init_96 rfl (lv_at hl 1 rfl) ?_
            refine va_get (D := (dC, dI)) (ci := 3) (v := .ref a6) (C := RX3) (T := TX3) (N := 10) hx hb hts inX3 hown hK hP 0 rfl rfl 9 (by decide) (hts _ k299) (fun _ h9 => h9) rfl dX3_init_97 ?_
            refine lv_bipush (v := (8)) hx hb dX3_init_100 (by decide) ?_
            refine lv_bipush (v := (16)) hx hb dX3_init_102 (by decide) ?_
            refine isK hx hb hK hP hD hS 6 0 rfl rfl (8) (by decide) (by omega) dX3_init_104 (fun H locs hP hD hS => ?_)
            have hP : va_P (dC, dI) vwCl [(m0, .inr (3, [.ref a1, .ref a2, .ref a3, .ref a4, .ref a5, .int (0 : Int32), .int (-1 : Int32), .int (-1 : Int32), .int (3 : Int32), .ref a6])), (a1, .inl (cAa1, 4, .inl (upd (upd (upd (upd (fun _ => 0) 0 (16 : Int32)) 1 (16 : Int32)) 2 (16 : Int32)) 3 (16 : Int32)))), (a2, .inl (cAa1, 4, .inl (upd (upd (upd (upd (fun _ => 0) 0 (16 : Int32)) 1 (16 : Int32)) 2 (16 : Int32)) 3 (16 : Int32)))), (a3, .inl (cAa1, 16000, .inl (fun _ => 0))), (a4, .inl (cAa1, 4000, .inl (fun _ => 0))), (a5, .inl (cAa1, 16, .inl (fun _ => 0))), (a6, .inl (cAa1, 10, .inl (upd (fun _ => 0) 8 (16 : Int32))))] H := hP
            have hD : va_D A [(m0, .inr (3, [.ref a1, .ref a2, .ref a3, .ref a4, .ref a5, .int (0 : Int32), .int (-1 : Int32), .int (-1 : Int32), .int (3 : Int32), .ref a6])), (a1, .inl (cAa1, 4, .inl (upd (upd (upd (upd (fun _ => 0) 0 (16 : Int32)) 1 (16 : Int32)) 2 (16 : Int32)) 3 (16 : Int32)))), (a2, .inl (cAa1, 4, .inl (upd (upd (upd (upd (fun _ => 0) 0 (16 : Int32)) 1 (16 : Int32)) 2 (16 : Int32)) 3 (16 : Int32)))), (a3, .inl (cAa1, 16000, .inl (fun _ => 0))), (a4, .inl (cAa1, 4000, .inl (fun _ => 0))), (a5, .inl (cAa1, 16, .inl (fun _ => 0))), (a6, .inl (cAa1, 10, .inl (upd (fun _ => 0) 8 (16 : Int32))))] := hD
            refine lv_aload_n hx hb dX3_init_105 rfl (lv_at hl 1 rfl) ?_
            refine va_get (D := (dC, dI)) (ci := 3) (v := .ref a6) (C := RX3) (T := TX3) (N := 10) hx hb hts inX3 hown hK hP 0 rfl rfl 9 (by decide) (hts _ k299) (fun _ h9 => h9) rfl dX3_init_106 ?_
            refine lv_bipush (v := (9)) hx hb dX3_init_109 (by decide) ?_
            refine lv_bipush (v := (16)) hx hb dX3_init_111 (by decide) ?_
            refine isK hx hb hK hP hD hS 6 0 rfl rfl (9) (by decide) (by omega) dX3_init_113 (fun H locs hP hD hS => ?_)
            have hP : va_P (dC, dI) vwCl [(m0, .inr (3, [.ref a1, .ref a2, .ref a3, .ref a4, .ref a5, .int (0 : Int32), .int (-1 : Int32), .int (-1 : Int32), .int (3 : Int32), .ref a6])), (a1, .inl (cAa1, 4, .inl (upd (upd (upd (upd (fun _ => 0) 0 (16 : Int32)) 1 (16 : Int32)) 2 (16 : Int32)) 3 (16 : Int32)))), (a2, .inl (cAa1, 4, .inl (upd (upd (upd (upd (fun _ => 0) 0 (16 : Int32)) 1 (16 : Int32)) 2 (16 : Int32)) 3 (16 : Int32)))), (a3, .inl (cAa1, 16000, .inl (fun _ => 0))), (a4, .inl (cAa1, 4000, .inl (fun _ => 0))), (a5, .inl (cAa1, 16, .inl (fun _ => 0))), (a6, .inl (cAa1, 10, .inl (upd (upd (fun _ => 0) 8 (16 : Int32)) 9 (16 : Int32))))] H := hP
            have hD : va_D A [(m0, .inr (3, [.ref a1, .ref a2, .ref a3, .ref a4, .ref a5, .int (0 : Int32), .int (-1 : Int32), .int (-1 : Int32), .int (3 : Int32), .ref a6])), (a1, .inl (cAa1, 4, .inl (upd (upd (upd (upd (fun _ => 0) 0 (16 : Int32)) 1 (16 : Int32)) 2 (16 : Int32)) 3 (16 : Int32)))), (a2, .inl (cAa1, 4, .inl (upd (upd (upd (upd (fun _ => 0) 0 (16 : Int32)) 1 (16 : Int32)) 2 (16 : Int32)) 3 (16 : Int32)))), (a3, .inl (cAa1, 16000, .inl (fun _ => 0))), (a4, .inl (cAa1, 4000, .inl (fun _ => 0))), (a5, .inl (cAa1, 16, .inl (fun _ => 0))), (a6, .inl (cAa1, 10, .inl (upd (upd (fun _ => 0) 8 (16 : Int32)) 9 (16 : Int32))))] := hD
            have hP := P_cg (k := 1) (f' := fun _ => 16) hP rfl (fun j hj => up4 hj)
            have hD := hD.set (p := 1) (e := .inl (cAa1, 4, .inl (fun _ => 16))) rfl
            have hP := P_cg (k := 2) (f' := fun _ => 16) hP rfl (fun j hj => up4 hj)
            have hD := hD.set (p := 2) (e := .inl (cAa1, 4, .inl (fun _ => 16))) rfl
            exact W.vret hx hb hr (fun t9 ht9 hW9 => ⟨⟨((a1, a2, a3, a4, a5, a6), cAa1), rfl, trivial, by rw [ht9]; exact hP, va_K.moved hW9.alike hK, hD⟩, hS.F ht9⟩) hS.2.2 dX3_init_114
          · replace c9 := mt (ti_le (by decide : (4 : Int32).toInt = (4 : Int)) rfl).mpr c9
            exfalso; omega
