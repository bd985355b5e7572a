set_option maxHeartbeats 8000000 in
set_option maxRecDepth 100000 in
theorem mX3_count (l : Launch) {dC : Nat → ClassId} {dI : Nat → Nat → Nat} {m0 a1 a2 a3 a4 a5 a6 : Nat} {cI : ClassId} {wd ht ws bf mk nu : Nat → Int32} {tg so pa ru : Int32} {wN hN : Nat → Nat} {Bt : Nat → Nat → Nat → Bool} {nz : Nat → Int} {tn : Nat} {sn pn : Option Nat} {rA : Int32} (f : Int32) (hM : RM wN hN Bt nz tn sn pn rA wd ht ws nu tg so pa ru) : Met l yX3_count (wM yX3_count cX3_count 5 (some .int)) ({ frames := 1, cells := 0, slots := 0, locals := 21 }) (va_Pc [.ref m0, .int f] (rP (dC, dI) vwCl (tyM cI) (w_md m0 a1 a2 a3 a4 a5 a6 cI wd ht ws bf mk nu tg so pa ru))) (vp_Si (fun r => (r.toInt = -1 ∧ (f.toInt < 0 ∨ 4 ≤ f.toInt)) ∨ (∃ t : Nat, f.toInt = (t : Int) ∧ t < 4 ∧ r.toInt = ((sN (fun y => sN (fun x => b1 (Bt t x y)) (wN t)) (hN t) : Nat) : Int)))) 0 0 (fun _ => False) := by
  refine Met.ofW (cc := cX3_count) (maxL := 5) (ret := (some .int)) (by decide +kernel) rfl ?_
  intro p e s m args below meth c s₁ B hml hv
  obtain ⟨rfl, hP, hK, hNS⟩ := hv
  have hx := B.exec
  have hb := B.bytes
  have hr := B.returns
  have hts : ∀ w ∈ tblG, w.before _ s = true := fun w h => atoms_spec (ws := wM yX3_count cX3_count 5 (some .int)) B.pre w (List.mem_cons_of_mem _ h)
  have hown : s.vm.findClass RX3 = some m.cls := findClass_of_methodNamed B.named
  have hlocks := B.notSynchronized
  have hl := lv_entry ([.ref m0, .int f]) (n := 5) (Nat.le_of_ble_eq_true rfl)
  rw [lg_entry_eq]
  generalize (lg_sl ([.ref m0, .int f]) ++ List.replicate (5 - (lg_sl ([.ref m0, .int f])).length) Slot.unset).toArray = ls at hl ⊢
  have hl : lv_has ls 5 [(0, .ref m0), (1, .int f)] := hl
  obtain ⟨hF, hnu, htg, htn, hso, hsn, hpa, hpn, hru, hr1, hr2⟩ := id hM
  have hso4 := oz_lo hsn
  have hpa4 := oz_lo hpn
  refine lv_iload_n hx hb dX3_count_0 rfl (lv_at hl 1 rfl) ?_
  refine vp_callSi (va_Run.run (va_runS (As := [.int f]) (rest := []) ⟨hx, hb, hml, hown, hts⟩ (mX3_isForm l f) (va_cwS 1 hts (gA (m3 k325 k326 k4) k327) rfl rfl rfl (by decide +kernel) ⟨Nat.le_of_ble_eq_true rfl, Nat.le_of_ble_eq_true rfl⟩) (prT) rfl rfl hl.1 rfl (lv_room (Nat.le_of_ble_eq_true rfl)) dX3_count_1 ⟨Nat.le_of_ble_eq_true rfl, Nat.le_of_ble_eq_true rfl⟩)) (fun r1 hwr1 => ?_)
  try dsimp only at hwr1
  refine lv_if_ne (tgt := 9) hx hb dX3_count_4 (by decide) (fun c2 => ?_) (fun c2 => ?_)
  · replace c2 := mt (ti_eq rfl (by decide : (0 : Int32).toInt = (0 : Int))).mpr c2
    refine lv_iconst (v := 0) hx hb dX3_count_9 (by decide) ?_
    refine lv_istore_n (lv' := [(2, .int (0 : Int32)), (0, .ref m0), (1, .int f)]) hx hb dX3_count_10 rfl hl (by decide) rfl (fun ls hl => ?_)
    refine lv_iconst (v := 0) hx hb dX3_count_11 (by decide) ?_
    refine lv_istore_n (lv' := [(3, .int (0 : Int32)), (2, .int (0 : Int32)), (0, .ref m0), (1, .int f)]) hx hb dX3_count_12 rfl hl (by decide) rfl (fun ls hl => ?_)
    obtain ⟨t, et⟩ : ∃ t : Nat, f.toInt = (t : Int) := ⟨f.toInt.toNat, by omega⟩
    have h4t : t < 4 := by omega
    obtain ⟨fw_t, fh_t, f1_t, f2_t, f3_t, f6_t, f7_t, fB_t⟩ := hF t h4t
    have frd_t : rN wN t = (wN t + 15) / 16 := rfl
    refine lpW (σ := Array Slot × Int32 × Int32 × Nat) (fun u => match u with | (ls, s0, i0, j0) => lv_has ls 5 [(0, .ref m0), (1, .int f), (2, .int s0), (3, .int i0)] ∧ (i0.toInt = (j0 : Int)) ∧ (j0 ≤ rN wN t * hN t) ∧ (s0.toInt = ((sN (fun i => pcw (mw ws t i)) j0 : Nat) : Int))) (fun u => match u with | (ls, s0, i0, j0) => rN wN t * hN t - j0) (fun _ => s.heap) (fun _ => []) (fun u => F0 m 13 u.1 []) (fun u hu ih13 => ?_) (ls, 0, 0, 0) ⟨lv_sub hl [2, 3, 1, 0] rfl, rfl, Nat.zero_le _, rfl⟩
    obtain ⟨ls, s0, i0, j0⟩ := u
    obtain ⟨hl, hi0, hn0, hs0⟩ := hu
    dsimp only
    refine lv_iload_n hx hb dX3_count_13 rfl (lv_at hl 3 rfl) ?_
    refine lv_aload_n hx hb dX3_count_14 rfl (lv_at hl 0 rfl) ?_
    refine lv_iload_n hx hb dX3_count_15 rfl (lv_at hl 1 rfl) ?_
    refine vp_callSi (va_Run.run (va_runV (As := [.int f]) (rest := [.int i0]) ⟨hx, hb, hml, hown, hts⟩ (mX3_perRow l f hM et h4t) (cwV 1 hts (gA (m4 k331 k333 ksel9 k4) k334) rfl rfl rfl (by decide +kernel) ⟨Nat.le_of_ble_eq_true rfl, Nat.le_of_ble_eq_true rfl⟩) (prRV hP hK hNS rfl (show (w_md m0 a1 a2 a3 a4 a5 a6 cI wd ht ws bf mk nu tg so pa ru)[0]? = some (m0, .inr (3, [.ref a1, .ref a2, .ref a3, .ref a4, .ref a5, .int tg, .int so, .int pa, .int ru, .ref a6])) from rfl)) rfl rfl hl.1 rfl (lv_room (Nat.le_of_ble_eq_true rfl)) dX3_count_16 ⟨Nat.le_of_ble_eq_true rfl, Nat.le_of_ble_eq_true rfl⟩)) (fun r3 hwr3 => ?_)
    try dsimp only at hwr3
    refine lv_aload_n hx hb dX3_count_19 rfl (lv_at hl 0 rfl) ?_
    refine va_get (D := (dC, dI)) (ci := 3) (v := .ref a2) (C := RX3) (T := TX3) (N := 10) hx hb hts inX3 hown hK hP 0 rfl rfl 1 (by decide) (hts _ k291) (fun _ h9 => h9) rfl dX3_count_20 ?_
    refine lv_iload_n hx hb dX3_count_23 rfl (lv_at hl 1 rfl) ?_
    refine iaK hx hb hK hP 2 0 rfl rfl (t) (et) (by omega) dX3_count_24 ?_
    refine lv_topi (fun x4 ex4 => ?_)
    have hzx4 : x4.toInt = (hN t : Int) := by rw [ex4]; exact fh_t
    have hmb := mul_bd (a := r3.toInt) (b := x4.toInt) (A := 4000) (B := 4000) (by omega) (by omega) (by omega) (by omega)
    have hmm : ((rN wN t * hN t : Nat) : Int) = r3.toInt * x4.toInt := by rw [Int.natCast_mul, hwr3, hzx4]
    refine lv_imul hx hb dX3_count_25 ?_
    refine lv_topi (fun x5 ex5 => ?_)
    have hx5 : x5.toInt = r3.toInt * x4.toInt := by rw [ex5]; exact ti_mul rfl rfl (by omega) (by omega)
    refine lv_icmp_ge (tgt := 71) hx hb dX3_count_26 (by decide) (fun c6 => ?_) (fun c6 => ?_)
    · replace c6 := (ti_le rfl rfl).mp c6
      refine lv_iload_n hx hb dX3_count_71 rfl (lv_at hl 2 rfl) ?_
      exact W.iret (v := s0) hx hb hr (fun t9 ht9 _ => ⟨s0, rfl, Or.inr ⟨t, et, h4t, by rw [hs0, show j0 = rN wN t * hN t by omega, ones_bits (by omega) fB_t.2]⟩, ht9⟩) (fun _ h => absurd h List.not_mem_nil) dX3_count_72
    · replace c6 := mt (ti_le rfl rfl).mpr c6
      refine lv_iconst (v := 0) hx hb dX3_count_29 (by decide) ?_
      refine lv_istore (lv' := [(4, .int (0 : Int32)), (0, .ref m0), (1, .int f), (2, .int s0), (3, .int i0)]) hx hb dX3_count_30 hl (by decide) rfl (fun ls hl => ?_)
      have hbn : sN (fun i => pcw (mw ws t i)) j0 ≤ j0 * 16 := sN_le (fun i => pcw_le (mw ws t i)) j0
      have hj0 : j0 < rN wN t * hN t := by omega
      refine lpW (σ := Array Slot × Int32 × Int32 × Nat) (fun u => match u with | (ls, s1, k0, kk) => lv_has ls 5 [(0, .ref m0), (1, .int f), (2, .int s1), (3, .int i0), (4, .int k0)] ∧ (k0.toInt = (kk : Int)) ∧ (kk ≤ 16) ∧ (s1.toInt = ((sN (fun i => pcw (mw ws t i)) j0 + sN (fun j => b1 (bt (mw ws t j0) j)) kk : Nat) : Int))) (fun u => match u with | (ls, s1, k0, kk) => 16 - kk) (fun _ => s.heap) (fun _ => []) (fun u => F0 m 32 u.1 []) (fun u hu ih32 => ?_) (ls, s0, 0, 0) ⟨lv_sub hl [1, 2, 3, 4, 0] rfl, rfl, Nat.zero_le _, hs0⟩
      obtain ⟨ls, s1, k0, kk⟩ := u
      obtain ⟨hl, hk0, hkn, hs1a⟩ := hu
      dsimp only
      refine lv_iload hx hb dX3_count_32 (lv_at hl 4 rfl) ?_
      refine lv_bipush (v := (16)) hx hb dX3_count_34 (by decide) ?_
      refine lv_icmp_ge (tgt := 65) hx hb dX3_count_36 (by decide) (fun c7 => ?_) (fun c7 => ?_)
      · replace c7 := (ti_le (by decide : (16 : Int32).toInt = (16 : Int)) rfl).mp c7
        obtain ⟨x8, ex8⟩ : ∃ y : Int32, y = i0 + 1 := ⟨_, rfl⟩
        have hx8 : x8.toInt = i0.toInt + 1 := by rw [ex8]; exact ti_add rfl (by decide) (by omega) (by omega)
        refine lv_iinc (v := x8) (lv' := [(3, .int x8), (0, .ref m0), (1, .int f), (2, .int s1), (4, .int k0)]) hx hb dX3_count_65 hl (k := 3) rfl (by rw [ex8]; rfl) (by decide) rfl (fun ls hl => ?_)
        refine lv_goto (tgt := 13) hx hb dX3_count_68 (by decide) ?_
        have hs1 : sN (fun i => pcw (mw ws t i)) (j0 + 1) = sN (fun i => pcw (mw ws t i)) j0 + pcw (mw ws t j0) := rfl
        have hs2 : pcw (mw ws t j0) = sN (fun j => b1 (bt (mw ws t j0) j)) kk := by rw [show kk = 16 by omega]; rfl
        exact ih13 (ls, s1, x8, j0 + 1) ⟨lv_sub hl [1, 2, 3, 0] rfl, by omega, by omega, by omega⟩ (by dsimp only; omega)
      · replace c7 := mt (ti_le (by decide : (16 : Int32).toInt = (16 : Int)) rfl).mpr c7
        refine lv_iload_n hx hb dX3_count_39 rfl (lv_at hl 2 rfl) ?_
        refine lv_aload_n hx hb dX3_count_40 rfl (lv_at hl 0 rfl) ?_
        refine va_get (D := (dC, dI)) (ci := 3) (v := .ref a3) (C := RX3) (T := TX3) (N := 10) hx hb hts inX3 hown hK hP 0 rfl rfl 2 (by decide) (hts _ k292) (fun _ h9 => h9) rfl dX3_count_41 ?_
        refine lv_sipush (v := (4000)) hx hb dX3_count_44 (by decide) ?_
        refine lv_iload_n hx hb dX3_count_47 rfl (lv_at hl 1 rfl) ?_
        refine lv_imul hx hb dX3_count_48 ?_
        refine lv_topi (fun x9 ex9 => ?_)
        have hx9 : x9.toInt = (4000 : Int) * f.toInt := by rw [ex9]; exact ti_mul (by decide : (4000 : Int32).toInt = (4000 : Int)) rfl (by omega) (by omega)
        refine lv_iload_n hx hb dX3_count_49 rfl (lv_at hl 3 rfl) ?_
        refine lv_iadd hx hb dX3_count_50 ?_
        refine lv_topi (fun x10 ex10 => ?_)
        have hx10 : x10.toInt = x9.toInt + i0.toInt := by rw [ex10]; exact ti_add rfl rfl (by omega) (by omega)
        refine iaK hx hb hK hP 3 0 rfl rfl (4000 * t + j0) (by omega) (by omega) dX3_count_51 ?_
        refine lv_topi (fun x11 ex11 => ?_)
        refine lv_iload hx hb dX3_count_52 (lv_at hl 4 rfl) ?_
        refine lv_ishr hx hb dX3_count_54 ?_
        refine lv_topi (fun x12 ex12 => ?_)
        refine lv_iconst (v := 1) hx hb dX3_count_55 (by decide) ?_
        refine lv_iand hx hb dX3_count_56 ?_
        refine lv_topi (fun x13 ex13 => ?_)
        have hbit := sar1 hk0 (by omega) ex12 ex13
        have hbit2 : x11 = mw ws t j0 := ex11
        rw [hbit2] at hbit
        have hb1 := b1_le (bt (mw ws t j0) kk)
        have hbk : sN (fun j => b1 (bt (mw ws t j0) j)) kk ≤ kk * 1 := sN_le (fun i => b1_le _) kk
        refine lv_iadd hx hb dX3_count_57 ?_
        refine lv_topi (fun x14 ex14 => ?_)
        have hx14 : x14.toInt = s1.toInt + x13.toInt := by rw [ex14]; exact ti_add rfl rfl (by omega) (by omega)
        refine lv_istore_n (lv' := [(2, .int x14), (0, .ref m0), (1, .int f), (3, .int i0), (4, .int k0)]) hx hb dX3_count_58 rfl hl (by decide) rfl (fun ls hl => ?_)
        obtain ⟨x15, ex15⟩ : ∃ y : Int32, y = k0 + 1 := ⟨_, rfl⟩
        have hx15 : x15.toInt = k0.toInt + 1 := by rw [ex15]; exact ti_add rfl (by decide) (by omega) (by omega)
        refine lv_iinc (v := x15) (lv' := [(4, .int x15), (2, .int x14), (0, .ref m0), (1, .int f), (3, .int i0)]) hx hb dX3_count_59 hl (k := 4) rfl (by rw [ex15]; rfl) (by decide) rfl (fun ls hl => ?_)
        refine lv_goto (tgt := 32) hx hb dX3_count_62 (by decide) ?_
        have hq1 : sN (fun j => b1 (bt (mw ws t j0) j)) (kk + 1) = sN (fun j => b1 (bt (mw ws t j0) j)) kk + b1 (bt (mw ws t j0) kk) := rfl
        exact ih32 (ls, x14, x15, kk + 1) ⟨lv_sub hl [2, 3, 1, 4, 0] rfl, by omega, by omega, by omega⟩ (by dsimp only; omega)
  · replace c2 := (ti_eq rfl (by decide : (0 : Int32).toInt = (0 : Int))).mp c2
    refine lv_iconst (v := (-1)) hx hb dX3_count_7 (by decide) ?_
    refine lv_topi (fun r16 er16 => ?_)
    have hr16 : r16.toInt = (-1 : Int) := by rw [er16]; exact (by decide : (-1 : Int32).toInt = (-1 : Int))
    exact W.iret (v := r16) hx hb hr (fun t9 ht9 _ => ⟨r16, rfl, Or.inl ⟨by omega, by omega⟩, ht9⟩) (fun _ h => absurd h List.not_mem_nil) dX3_count_8
set_option maxHeartbeats 8000000 in
set_option maxRecDepth 100000 in
theorem mX3_same (l : Launch) {dC : Nat → ClassId} {dI : Nat → Nat → Nat} {m0 a1 a2 a3 a4 a5 a6 : Nat} {cI : ClassId} {wd ht ws bf mk nu : Nat → Int32} {tg so pa ru : Int32} {wN hN : Nat → Nat} {Bt : Nat → Nat → Nat → Bool} {nz : Nat → Int} {tn : Nat} {sn pn : Option Nat} {rA : Int32} (f : Int32) (f2 : Int32) (hM : RM wN hN Bt nz tn sn pn rA wd ht ws nu tg so pa ru) : Met l yX3_same (wM yX3_same cX3_same 5 (some .boolean)) ({ frames := 1, cells := 0, slots := 0, locals := 21 }) (va_Pc [.ref m0, .int f, .int f2] (rP (dC, dI) vwCl (tyM cI) (w_md m0 a1 a2 a3 a4 a5 a6 cI wd ht ws bf mk nu tg so pa ru))) (vp_Si (fun r => (∃ t t2 : Nat, f.toInt = (t : Int) ∧ t < 4 ∧ f2.toInt = (t2 : Int) ∧ t2 < 4 ∧ ((r.toInt = 1 ∧ wN t = wN t2 ∧ hN t = hN t2 ∧ ∀ x y, x < wN t → y < hN t → Bt t x y = Bt t2 x y) ∨ (r.toInt = 0 ∧ ¬ (wN t = wN t2 ∧ hN t = hN t2 ∧ ∀ x y, x < wN t → y < hN t → Bt t x y = Bt t2 x y)))) ∨ (r.toInt = 0 ∧ (f.toInt < 0 ∨ 4 ≤ f.toInt ∨ f2.toInt < 0 ∨ 4 ≤ f2.toInt)))) 0 0 (fun _ => False) := by
  refine Met.ofW (cc := cX3_same) (maxL := 5) (ret := (some .boolean)) (by decide +kernel) rfl ?_
  intro p e s m args below meth c s₁ B hml hv
  obtain ⟨rfl, hP, hK, hNS⟩ := hv
  have hx := B.exec
  have hb := B.bytes
  have hr := B.returns
  have hts : ∀ w ∈ tblG, w.before _ s = true := fun w h => atoms_spec (ws := wM yX3_same cX3_same 5 (some .boolean)) B.pre w (List.mem_cons_of_mem _ h)
  have hown : s.vm.findClass RX3 = some m.cls := findClass_of_methodNamed B.named
  have hlocks := B.notSynchronized
  have hl := lv_entry ([.ref m0, .int f, .int f2]) (n := 5) (Nat.le_of_ble_eq_true rfl)
  rw [lg_entry_eq]
  generalize (lg_sl ([.ref m0, .int f, .int f2]) ++ List.replicate (5 - (lg_sl ([.ref m0, .int f, .int f2])).length) Slot.unset).toArray = ls at hl ⊢
  have hl : lv_has ls 5 [(0, .ref m0), (1, .int f), (2, .int f2)] := hl
  obtain ⟨hF, hnu, htg, htn, hso, hsn, hpa, hpn, hru, hr1, hr2⟩ := id hM
  have hso4 := oz_lo hsn
  have hpa4 := oz_lo hpn
  refine lv_iload_n hx hb dX3_same_0 rfl (lv_at hl 1 rfl) ?_
  refine vp_callSi (va_Run.run (va_runS (As := [.int f]) (rest := []) ⟨hx, hb, hml, hown, hts⟩ (mX3_isForm l f) (va_cwS 1 hts (gA (m3 k325 k326 k4) k327) rfl rfl rfl (by decide +kernel) ⟨Nat.le_of_ble_eq_true rfl, Nat.le_of_ble_eq_true rfl⟩) (prT) rfl rfl hl.1 rfl (lv_room (Nat.le_of_ble_eq_true rfl)) dX3_same_1 ⟨Nat.le_of_ble_eq_true rfl, Nat.le_of_ble_eq_true rfl⟩)) (fun r1 hwr1 => ?_)
  try dsimp only at hwr1
  refine lv_if_eq (tgt := 44) hx hb dX3_same_4 (by decide) (fun c2 => ?_) (fun c2 => ?_)
  · replace c2 := (ti_eq rfl (by decide : (0 : Int32).toInt = (0 : Int))).mp c2
    refine lv_iconst (v := 0) hx hb dX3_same_44 (by decide) ?_
    refine lv_topi (fun r3 er3 => ?_)
    have hr3 : r3.toInt = (0 : Int) := by rw [er3]; exact (by decide : (0 : Int32).toInt = (0 : Int))
    exact W.zret (ty := .boolean) (v := r3) hx hb hr (nar_b (by omega)) (fun t9 ht9 _ => ⟨r3, rfl, Or.inr ⟨by omega, by omega⟩, ht9⟩) (fun _ h => absurd h List.not_mem_nil) dX3_same_45
  · replace c2 := mt (ti_eq rfl (by decide : (0 : Int32).toInt = (0 : Int))).mpr c2
    refine lv_iload_n hx hb dX3_same_7 rfl (lv_at hl 2 rfl) ?_
    refine vp_callSi (va_Run.run (va_runS (As := [.int f2]) (rest := []) ⟨hx, hb, hml, hown, hts⟩ (mX3_isForm l f2) (va_cwS 1 hts (gA (m3 k325 k326 k4) k327) rfl rfl rfl (by decide +kernel) ⟨Nat.le_of_ble_eq_true rfl, Nat.le_of_ble_eq_true rfl⟩) (prT) rfl rfl hl.1 rfl (lv_room (Nat.le_of_ble_eq_true rfl)) dX3_same_8 ⟨Nat.le_of_ble_eq_true rfl, Nat.le_of_ble_eq_true rfl⟩)) (fun r4 hwr4 => ?_)
    try dsimp only at hwr4
    refine lv_if_eq (tgt := 44) hx hb dX3_same_11 (by decide) (fun c5 => ?_) (fun c5 => ?_)
    · replace c5 := (ti_eq rfl (by decide : (0 : Int32).toInt = (0 : Int))).mp c5
      refine lv_iconst (v := 0) hx hb dX3_same_44 (by decide) ?_
      refine lv_topi (fun r6 er6 => ?_)
      have hr6 : r6.toInt = (0 : Int) := by rw [er6]; exact (by decide : (0 : Int32).toInt = (0 : Int))
      exact W.zret (ty := .boolean) (v := r6) hx hb hr (nar_b (by omega)) (fun t9 ht9 _ => ⟨r6, rfl, Or.inr ⟨by omega, by omega⟩, ht9⟩) (fun _ h => absurd h List.not_mem_nil) dX3_same_45
    · replace c5 := mt (ti_eq rfl (by decide : (0 : Int32).toInt = (0 : Int))).mpr c5
      refine lv_aload_n hx hb dX3_same_14 rfl (lv_at hl 0 rfl) ?_
      obtain ⟨t, et⟩ : ∃ t : Nat, f.toInt = (t : Int) := ⟨f.toInt.toNat, by omega⟩
      have h4t : t < 4 := by omega
      obtain ⟨fw_t, fh_t, f1_t, f2_t, f3_t, f6_t, f7_t, fB_t⟩ := hF t h4t
      have frd_t : rN wN t = (wN t + 15) / 16 := rfl
      obtain ⟨t2, et2⟩ : ∃ t : Nat, f2.toInt = (t : Int) := ⟨f2.toInt.toNat, by omega⟩
      have h4t2 : t2 < 4 := by omega
      obtain ⟨fw_t2, fh_t2, f1_t2, f2_t2, f3_t2, f6_t2, f7_t2, fB_t2⟩ := hF t2 h4t2
      have frd_t2 : rN wN t2 = (wN t2 + 15) / 16 := rfl
      refine va_get (D := (dC, dI)) (ci := 3) (v := .ref a1) (C := RX3) (T := TX3) (N := 10) hx hb hts inX3 hown hK hP 0 rfl rfl 0 (by decide) (hts _ k290) (fun _ h9 => h9) rfl dX3_same_15 ?_
      refine lv_iload_n hx hb dX3_same_18 rfl (lv_at hl 1 rfl) ?_
      refine iaK hx hb hK hP 1 0 rfl rfl (t) (et) (by omega) dX3_same_19 ?_
      refine lv_topi (fun x7 ex7 => ?_)
      have hzx7 : x7.toInt = (wN t : Int) := by rw [ex7]; exact fw_t
      refine lv_aload_n hx hb dX3_same_20 rfl (lv_at hl 0 rfl) ?_
      refine va_get (D := (dC, dI)) (ci := 3) (v := .ref a1) (C := RX3) (T := TX3) (N := 10) hx hb hts inX3 hown hK hP 0 rfl rfl 0 (by decide) (hts _ k290) (fun _ h9 => h9) rfl dX3_same_21 ?_
      refine lv_iload_n hx hb dX3_same_24 rfl (lv_at hl 2 rfl) ?_
      refine iaK hx hb hK hP 1 0 rfl rfl (t2) (et2) (by omega) dX3_same_25 ?_
      refine lv_topi (fun x8 ex8 => ?_)
      have hzx8 : x8.toInt = (wN t2 : Int) := by rw [ex8]; exact fw_t2
      refine lv_icmp_ne (tgt := 44) hx hb dX3_same_26 (by decide) (fun c9 => ?_) (fun c9 => ?_)
      · replace c9 := mt (ti_eq rfl rfl).mpr c9
        refine lv_iconst (v := 0) hx hb dX3_same_44 (by decide) ?_
        refine lv_topi (fun r10 er10 => ?_)
        have hr10 : r10.toInt = (0 : Int) := by rw [er10]; exact (by decide : (0 : Int32).toInt = (0 : Int))
        exact W.zret (ty := .boolean) (v := r10) hx hb hr (nar_b (by omega)) (fun t9 ht9 _ => ⟨r10, rfl, Or.inl ⟨t, t2, et, h4t, et2, h4t2, Or.inr ⟨by omega, fun q => by omega⟩⟩, ht9⟩) (fun _ h => absurd h List.not_mem_nil) dX3_same_45
      · replace c9 := (ti_eq rfl rfl).mp c9
        refine lv_aload_n hx hb dX3_same_29 rfl (lv_at hl 0 rfl) ?_
        refine va_get (D := (dC, dI)) (ci := 3) (v := .ref a2) (C := RX3) (T := TX3) (N := 10) hx hb hts inX3 hown hK hP 0 rfl rfl 1 (by decide) (hts _ k291) (fun _ h9 => h9) rfl dX3_same_30 ?_
        refine lv_iload_n hx hb dX3_same_33 rfl (lv_at hl 1 rfl) ?_
        refine iaK hx hb hK hP 2 0 rfl rfl (t) (et) (by omega) dX3_same_34 ?_
        refine lv_topi (fun x11 ex11 => ?_)
        have hzx11 : x11.toInt = (hN t : Int) := by rw [ex11]; exact fh_t
        refine lv_aload_n hx hb dX3_same_35 rfl (lv_at hl 0 rfl) ?_
        refine va_get (D := (dC, dI)) (ci := 3) (v := .ref a2) (C := RX3) (T := TX3) (N := 10) hx hb hts inX3 hown hK hP 0 rfl rfl 1 (by decide) (hts _ k291) (fun _ h9 => h9) rfl dX3_same_36 ?_
        refine lv_iload_n hx hb dX3_same_39 rfl (lv_at hl 2 rfl) ?_
        refine iaK hx hb hK hP 2 0 rfl rfl (t2) (et2) (by omega) dX3_same_40 ?_
        refine lv_topi (fun x12 ex12 => ?_)
        have hzx12 : x12.toInt = (hN t2 : Int) := by rw [ex12]; exact fh_t2
        refine lv_icmp_eq (tgt := 46) hx hb dX3_same_41 (by decide) (fun c13 => ?_) (fun c13 => ?_)
        · replace c13 := (ti_eq rfl rfl).mp c13
          refine lv_iconst (v := 1) hx hb dX3_same_46 (by decide) ?_
          refine lv_istore_n (lv' := [(3, .int (1 : Int32)), (0, .ref m0), (1, .int f), (2, .int f2)]) hx hb dX3_same_47 rfl hl (by decide) rfl (fun ls hl => ?_)
          refine lv_iconst (v := 0) hx hb dX3_same_48 (by decide) ?_
          refine lv_istore (lv' := [(4, .int (0 : Int32)), (3, .int (1 : Int32)), (0, .ref m0), (1, .int f), (2, .int f2)]) hx hb dX3_same_49 hl (by decide) rfl (fun ls hl => ?_)
          have hww : wN t = wN t2 := by omega
          have hhh : hN t = hN t2 := by omega
          have hrr : rN wN t = rN wN t2 := by omega
          refine lpW (σ := Array Slot × Int32 × Int32 × Nat) (fun u => match u with | (ls, sm, i0, n0) => lv_has ls 5 [(0, .ref m0), (1, .int f), (2, .int f2), (3, .int sm), (4, .int i0)] ∧ (i0.toInt = (n0 : Int)) ∧ (n0 ≤ rN wN t * hN t) ∧ ((sm.toInt = 1 ∧ ∀ j, j < n0 → mw ws t j = mw ws t2 j) ∨ (sm.toInt = 0 ∧ ∃ j, j < n0 ∧ ¬ mw ws t j = mw ws t2 j))) (fun u => match u with | (ls, sm, i0, n0) => rN wN t * hN t - n0) (fun _ => s.heap) (fun _ => []) (fun u => F0 m 51 u.1 []) (fun u hu ih51 => ?_) (ls, 1, 0, 0) ⟨lv_sub hl [2, 3, 4, 1, 0] rfl, rfl, Nat.zero_le _, Or.inl ⟨by decide, fun j hj => absurd hj (Nat.not_lt_zero j)⟩⟩
          obtain ⟨ls, sm, i0, n0⟩ := u
          obtain ⟨hl, hi0, hn0, hs0⟩ := hu
          dsimp only
          refine lv_iload hx hb dX3_same_51 (lv_at hl 4 rfl) ?_
          refine lv_aload_n hx hb dX3_same_53 rfl (lv_at hl 0 rfl) ?_
          refine lv_iload_n hx hb dX3_same_54 rfl (lv_at hl 1 rfl) ?_
          refine vp_callSi (va_Run.run (va_runV (As := [.int f]) (rest := [.int i0]) ⟨hx, hb, hml, hown, hts⟩ (mX3_perRow l f hM et h4t) (cwV 1 hts (gA (m4 k331 k333 ksel9 k4) k334) rfl rfl rfl (by decide +kernel) ⟨Nat.le_of_ble_eq_true rfl, Nat.le_of_ble_eq_true rfl⟩) (prRV hP hK hNS rfl (show (w_md m0 a1 a2 a3 a4 a5 a6 cI wd ht ws bf mk nu tg so pa ru)[0]? = some (m0, .inr (3, [.ref a1, .ref a2, .ref a3, .ref a4, .ref a5, .int tg, .int so, .int pa, .int ru, .ref a6])) from rfl)) rfl rfl hl.1 rfl (lv_room (Nat.le_of_ble_eq_true rfl)) dX3_same_55 ⟨Nat.le_of_ble_eq_true rfl, Nat.le_of_ble_eq_true rfl⟩)) (fun r14 hwr14 => ?_)
          try dsimp only at hwr14
          refine lv_aload_n hx hb dX3_same_58 rfl (lv_at hl 0 rfl) ?_
          refine va_get (D := (dC, dI)) (ci := 3) (v := .ref a2) (C := RX3) (T := TX3) (N := 10) hx hb hts inX3 hown hK hP 0 rfl rfl 1 (by decide) (hts _ k291) (fun _ h9 => h9) rfl dX3_same_59 ?_
          refine lv_iload_n hx hb dX3_same_62 rfl (lv_at hl 1 rfl) ?_
          refine iaK hx hb hK hP 2 0 rfl rfl (t) (et) (by omega) dX3_same_63 ?_
          refine lv_topi (fun x15 ex15 => ?_)
          have hzx15 : x15.toInt = (hN t : Int) := by rw [ex15]; exact fh_t
          have hmb := mul_bd (a := r14.toInt) (b := x15.toInt) (A := 4000) (B := 4000) (by omega) (by omega) (by omega) (by omega)
          have hmm : ((rN wN t * hN t : Nat) : Int) = r14.toInt * x15.toInt := by rw [Int.natCast_mul, hwr14, hzx15]
          refine lv_imul hx hb dX3_same_64 ?_
          refine lv_topi (fun x16 ex16 => ?_)
          have hx16 : x16.toInt = r14.toInt * x15.toInt := by rw [ex16]; exact ti_mul rfl rfl (by omega) (by omega)
          refine lv_icmp_ge (tgt := 113) hx hb dX3_same_65 (by decide) (fun c17 => ?_) (fun c17 => ?_)
          · replace c17 := (ti_le rfl rfl).mp c17
            refine lv_iload_n hx hb dX3_same_113 rfl (lv_at hl 3 rfl) ?_
            have h01 := or01 hs0
            exact W.zret (ty := .boolean) (v := sm) hx hb hr (nar_b (by omega)) (fun t9 ht9 _ => ⟨sm, rfl, Or.inl ⟨t, t2, et, h4t, et2, h4t2, sameM_post (by omega) hww hhh fB_t fB_t2 (show n0 = rN wN t * hN t by omega) hs0⟩, ht9⟩) (fun _ h => absurd h List.not_mem_nil) dX3_same_114
          · replace c17 := mt (ti_le rfl rfl).mpr c17
            have h01 := or01 hs0
            have hj0 : n0 < rN wN t * hN t := by omega
            refine lv_iload_n hx hb dX3_same_68 rfl (lv_at hl 3 rfl) ?_
            refine lv_if_eq (tgt := 105) hx hb dX3_same_69 (by decide) (fun c18 => ?_) (fun c18 => ?_)
            · replace c18 := (ti_eq rfl (by decide : (0 : Int32).toInt = (0 : Int))).mp c18
              refine lv_iconst (v := 0) hx hb dX3_same_105 (by decide) ?_
              refine lv_istore_n (lv' := [(3, .int (0 : Int32)), (0, .ref m0), (1, .int f), (2, .int f2), (4, .int i0)]) hx hb dX3_same_106 rfl hl (by decide) rfl (fun ls hl => ?_)
              obtain ⟨x19, ex19⟩ : ∃ y : Int32, y = i0 + 1 := ⟨_, rfl⟩
              have hx19 : x19.toInt = i0.toInt + 1 := by rw [ex19]; exact ti_add rfl (by decide) (by omega) (by omega)
              refine lv_iinc (v := x19) (lv' := [(4, .int x19), (3, .int (0 : Int32)), (0, .ref m0), (1, .int f), (2, .int f2)]) hx hb dX3_same_107 hl (k := 4) rfl (by rw [ex19]; rfl) (by decide) rfl (fun ls hl => ?_)
              refine lv_goto (tgt := 51) hx hb dX3_same_110 (by decide) ?_
              exact ih51 (ls, (0 : Int32), x19, n0 + 1) ⟨lv_sub hl [2, 3, 4, 1, 0] rfl, by omega, by omega, Or.inr ⟨by decide, lt_sX (or_r hs0 (by omega))⟩⟩ (by dsimp only; omega)
            · replace c18 := mt (ti_eq rfl (by decide : (0 : Int32).toInt = (0 : Int))).mpr c18
              refine lv_aload_n hx hb dX3_same_72 rfl (lv_at hl 0 rfl) ?_
              refine va_get (D := (dC, dI)) (ci := 3) (v := .ref a3) (C := RX3) (T := TX3) (N := 10) hx hb hts inX3 hown hK hP 0 rfl rfl 2 (by decide) (hts _ k292) (fun _ h9 => h9) rfl dX3_same_73 ?_
              refine lv_sipush (v := (4000)) hx hb dX3_same_76 (by decide) ?_
              refine lv_iload_n hx hb dX3_same_79 rfl (lv_at hl 1 rfl) ?_
              refine lv_imul hx hb dX3_same_80 ?_
              refine lv_topi (fun x20 ex20 => ?_)
              have hx20 : x20.toInt = (4000 : Int) * f.toInt := by rw [ex20]; exact ti_mul (by decide : (4000 : Int32).toInt = (4000 : Int)) rfl (by omega) (by omega)
              refine lv_iload hx hb dX3_same_81 (lv_at hl 4 rfl) ?_
              refine lv_iadd hx hb dX3_same_83 ?_
              refine lv_topi (fun x21 ex21 => ?_)
              have hx21 : x21.toInt = x20.toInt + i0.toInt := by rw [ex21]; exact ti_add rfl rfl (by omega) (by omega)
              refine iaK hx hb hK hP 3 0 rfl rfl (4000 * t + n0) (by omega) (by omega) dX3_same_84 ?_
              refine lv_topi (fun x22 ex22 => ?_)
              refine lv_aload_n hx hb dX3_same_85 rfl (lv_at hl 0 rfl) ?_
              refine va_get (D := (dC, dI)) (ci := 3) (v := .ref a3) (C := RX3) (T := TX3) (N := 10) hx hb hts inX3 hown hK hP 0 rfl rfl 2 (by decide) (hts _ k292) (fun _ h9 => h9) rfl dX3_same_86 ?_
              refine lv_sipush (v := (4000)) hx hb dX3_same_89 (by decide) ?_
              refine lv_iload_n hx hb dX3_same_92 rfl (lv_at hl 2 rfl) ?_
              refine lv_imul hx hb dX3_same_93 ?_
              refine lv_topi (fun x23 ex23 => ?_)
              have hx23 : x23.toInt = (4000 : Int) * f2.toInt := by rw [ex23]; exact ti_mul (by decide : (4000 : Int32).toInt = (4000 : Int)) rfl (by omega) (by omega)
              refine lv_iload hx hb dX3_same_94 (lv_at hl 4 rfl) ?_
              refine lv_iadd hx hb dX3_same_96 ?_
              refine lv_topi (fun x24 ex24 => ?_)
              have hx24 : x24.toInt = x23.toInt + i0.toInt := by rw [ex24]; exact ti_add rfl rfl (by omega) (by omega)
              refine iaK hx hb hK hP 3 0 rfl rfl (4000 * t2 + n0) (by omega) (by omega) dX3_same_97 ?_
              refine lv_topi (fun x25 ex25 => ?_)
              refine lv_icmp_ne (tgt := 105) hx hb dX3_same_98 (by decide) (fun c26 => ?_) (fun c26 => ?_)
              · replace c26 := mt (ti_eq rfl rfl).mpr c26
                have hq : ¬ mw ws t n0 = mw ws t2 n0 := fun q => ne_ti (x := x22) (y := x25) (by omega) (by rw [ex22, ex25]; exact q)
                refine lv_iconst (v := 0) hx hb dX3_same_105 (by decide) ?_
                refine lv_istore_n (lv' := [(3, .int (0 : Int32)), (0, .ref m0), (1, .int f), (2, .int f2), (4, .int i0)]) hx hb dX3_same_106 rfl hl (by decide) rfl (fun ls hl => ?_)
                obtain ⟨x27, ex27⟩ : ∃ y : Int32, y = i0 + 1 := ⟨_, rfl⟩
                have hx27 : x27.toInt = i0.toInt + 1 := by rw [ex27]; exact ti_add rfl (by decide) (by omega) (by omega)
                refine lv_iinc (v := x27) (lv' := [(4, .int x27), (3, .int (0 : Int32)), (0, .ref m0), (1, .int f), (2, .int f2)]) hx hb dX3_same_107 hl (k := 4) rfl (by rw [ex27]; rfl) (by decide) rfl (fun ls hl => ?_)
                refine lv_goto (tgt := 51) hx hb dX3_same_110 (by decide) ?_
                exact ih51 (ls, (0 : Int32), x27, n0 + 1) ⟨lv_sub hl [2, 3, 4, 1, 0] rfl, by omega, by omega, Or.inr ⟨by decide, n0, by omega, hq⟩⟩ (by dsimp only; omega)
              · replace c26 := (ti_eq rfl rfl).mp c26
                have hq : mw ws t n0 = mw ws t2 n0 := by have q := (ti_eq rfl rfl).mpr (show x22.toInt = x25.toInt by omega); rw [ex22, ex25] at q; exact q
                refine lv_iconst (v := 1) hx hb dX3_same_101 (by decide) ?_
                refine lv_goto (tgt := 106) hx hb dX3_same_102 (by decide) ?_
                refine lv_istore_n (lv' := [(3, .int (1 : Int32)), (0, .ref m0), (1, .int f), (2, .int f2), (4, .int i0)]) hx hb dX3_same_106 rfl hl (by decide) rfl (fun ls hl => ?_)
                obtain ⟨x28, ex28⟩ : ∃ y : Int32, y = i0 + 1 := ⟨_, rfl⟩
                have hx28 : x28.toInt = i0.toInt + 1 := by rw [ex28]; exact ti_add rfl (by decide) (by omega) (by omega)
                refine lv_iinc (v := x28) (lv' := [(4, .int x28), (3, .int (1 : Int32)), (0, .ref m0), (1, .int f), (2, .int f2)]) hx hb dX3_same_107 hl (k := 4) rfl (by rw [ex28]; rfl) (by decide) rfl (fun ls hl => ?_)
                refine lv_goto (tgt := 51) hx hb dX3_same_110 (by decide) ?_
                exact ih51 (ls, (1 : Int32), x28, n0 + 1) ⟨lv_sub hl [2, 3, 4, 1, 0] rfl, by omega, by omega, Or.inl ⟨by decide, lt_s (or_l hs0 (by omega)) hq⟩⟩ (by dsimp only; omega)
        · replace c13 := mt (ti_eq rfl rfl).mpr c13
          refine lv_iconst (v := 0) hx hb dX3_same_44 (by decide) ?_
          refine lv_topi (fun r29 er29 => ?_)
          have hr29 : r29.toInt = (0 : Int) := by rw [er29]; exact (by decide : (0 : Int32).toInt = (0 : Int))
          exact W.zret (ty := .boolean) (v := r29) hx hb hr (nar_b (by omega)) (fun t9 ht9 _ => ⟨r29, rfl, Or.inl ⟨t, t2, et, h4t, et2, h4t2, Or.inr ⟨by omega, fun q => by omega⟩⟩, ht9⟩) (fun _ h => absurd h List.not_mem_nil) dX3_same_45
set_option maxHeartbeats 8000000 in
set_option maxRecDepth 100000 in
theorem mX3_rule (l : Launch) {dC : Nat → ClassId} {dI : Nat → Nat → Nat} {sz : Nat} {m0 a1 a2 a3 a4 a5 a6 : Nat} {cI : ClassId} {wd ht ws bf mk nu : Nat → Int32} {tg so pa ru : Int32} {wN hN : Nat → Nat} {Bt : Nat → Nat → Nat → Bool} {nz : Nat → Int} {tn : Nat} {sn pn : Option Nat} {rA : Int32} (rl : Int32) (hM : RM wN hN Bt nz tn sn pn rA wd ht ws nu tg so pa ru) : Met l yX3_rule (wM yX3_rule cX3_rule 2 (some .boolean)) ({ frames := 0, cells := 0, slots := 0, locals := 0 }) (va_Pc [.ref m0, .int rl] (wP (dC, dI) vwCl (tyM cI) (w_md m0 a1 a2 a3 a4 a5 a6 cI wd ht ws bf mk nu tg so pa ru) sz)) (va_Qi (fun (r : Int32) (u : Int32) => (r.toInt = 1 ∧ 0 ≤ rl.toInt ∧ rl.toInt < 16 ∧ u = rl) ∨ (r.toInt = 0 ∧ (rl.toInt < 0 ∨ 16 ≤ rl.toInt) ∧ u = ru)) (wB (dC, dI) vwCl (va_A (w_md m0 a1 a2 a3 a4 a5 a6 cI wd ht ws bf mk nu tg so pa ru) sz) (fun u : Int32 => (tyM cI)) (fun u : Int32 => (w_md m0 a1 a2 a3 a4 a5 a6 cI wd ht ws bf mk nu tg so pa u))) (va_A (w_md m0 a1 a2 a3 a4 a5 a6 cI wd ht ws bf mk nu tg so pa ru) sz)) 0 0 (va_A (w_md m0 a1 a2 a3 a4 a5 a6 cI wd ht ws bf mk nu tg so pa ru) sz) := by
  refine Met.ofW (cc := cX3_rule) (maxL := 2) (ret := (some .boolean)) (by decide +kernel) rfl ?_
  intro p e s m args below meth c s₁ B hml hv
  obtain ⟨rfl, hsz, hP, hK, hD0, hNS⟩ := hv
  have hx := B.exec
  have hb := B.bytes
  have hr := B.returns
  have hts : ∀ w ∈ tblG, w.before _ s = true := fun w h => atoms_spec (ws := wM yX3_rule cX3_rule 2 (some .boolean)) B.pre w (List.mem_cons_of_mem _ h)
  have hown : s.vm.findClass RX3 = some m.cls := findClass_of_methodNamed B.named
  have hlocks := B.notSynchronized
  subst hsz
  have hD := hD0.self (sz := s.heap.size)
  generalize hAe : va_A (w_md m0 a1 a2 a3 a4 a5 a6 cI wd ht ws bf mk nu tg so pa ru) s.heap.size = A at hD ⊢
  have hA : ∀ q : Nat, s.heap.size ≤ q → A q := fun q h => by rw [← hAe]; exact Or.inr h
  have hS : va_S A s.heap s.heap [] := va_S.rf
  have hP : va_P (dC, dI) vwCl (w_md m0 a1 a2 a3 a4 a5 a6 cI wd ht ws bf mk nu tg so pa ru) s.heap := hP
  have hl := lv_entry ([.ref m0, .int rl]) (n := 2) (Nat.le_of_ble_eq_true rfl)
  rw [lg_entry_eq]
  generalize (lg_sl ([.ref m0, .int rl]) ++ List.replicate (2 - (lg_sl ([.ref m0, .int rl])).length) Slot.unset).toArray = ls at hl ⊢
  have hl : lv_has ls 2 [(0, .ref m0), (1, .int rl)] := hl
  obtain ⟨hF, hnu, htg, htn, hso, hsn, hpa, hpn, hru, hr1, hr2⟩ := id hM
  have hso4 := oz_lo hsn
  have hpa4 := oz_lo hpn
  refine lv_iload_n hx hb dX3_rule_0 rfl (lv_at hl 1 rfl) ?_
  refine lv_if_lt (tgt := 10) hx hb dX3_rule_1 (by decide) (fun c1 => ?_) (fun c1 => ?_)
  · replace c1 := (ti_lt rfl (by decide : (0 : Int32).toInt = (0 : Int))).mp c1
    refine lv_iconst (v := 0) hx hb dX3_rule_10 (by decide) ?_
    refine lv_topi (fun r2 er2 => ?_)
    have hr2 : r2.toInt = (0 : Int) := by rw [er2]; exact (by decide : (0 : Int32).toInt = (0 : Int))
    exact W.zret (ty := .boolean) (v := r2) hx hb hr (nar_b (by omega)) (fun t9 ht9 hW9 => ⟨⟨r2, ru, rfl, Or.inr ⟨by omega, by omega, rfl⟩, by rw [ht9]; exact hP, va_K.moved hW9.alike hK, hD⟩, hS.F ht9⟩) hS.2.2 dX3_rule_11
  · replace c1 := mt (ti_lt rfl (by decide : (0 : Int32).toInt = (0 : Int))).mpr c1
    refine lv_iload_n hx hb dX3_rule_4 rfl (lv_at hl 1 rfl) ?_
    refine lv_bipush (v := (15)) hx hb dX3_rule_5 (by decide) ?_
    refine lv_icmp_le (tgt := 12) hx hb dX3_rule_7 (by decide) (fun c3 => ?_) (fun c3 => ?_)
    · replace c3 := (ti_le rfl (by decide : (15 : Int32).toInt = (15 : Int))).mp c3
      refine lv_aload_n hx hb dX3_rule_12 rfl (lv_at hl 0 rfl) ?_
      refine lv_iload_n hx hb dX3_rule_13 rfl (lv_at hl 1 rfl) ?_
      refine va_put (D := (dC, dI)) (ci := 3) (v := .int rl) (ty := .int) (C := RX3) (T := TX3) (N := 10) hx hb hts inX3 tyX3 tyX3_ok nmX3 hown hK hP hD hS 0 rfl rfl 8 (by decide) (hts _ k298) (fun _ h9 => h9) rfl (by decide +kernel) rfl rfl (Nat.le_of_ble_eq_true rfl) dX3_rule_14 (fun H locs hP hD hS => ?_)
      have hP : va_P (dC, dI) vwCl (w_md m0 a1 a2 a3 a4 a5 a6 cI wd ht ws bf mk nu tg so pa rl) H := hP
      have hD : va_D A (w_md m0 a1 a2 a3 a4 a5 a6 cI wd ht ws bf mk nu tg so pa rl) := hD
      refine lv_iconst (v := 1) hx hb dX3_rule_17 (by decide) ?_
      refine lv_topi (fun r4 er4 => ?_)
      have hr4 : r4.toInt = (1 : Int) := by rw [er4]; exact (by decide : (1 : Int32).toInt = (1 : Int))
      exact W.zret (ty := .boolean) (v := r4) hx hb hr (nar_b (by omega)) (fun t9 ht9 hW9 => ⟨⟨r4, rl, rfl, Or.inl ⟨by omega, by omega, by omega, rfl⟩, by rw [ht9]; exact hP, va_K.moved hW9.alike hK, hD⟩, hS.F ht9⟩) hS.2.2 dX3_rule_18
    · replace c3 := mt (ti_le rfl (by decide : (15 : Int32).toInt = (15 : Int))).mpr c3
      refine lv_iconst (v := 0) hx hb dX3_rule_10 (by decide) ?_
      refine lv_topi (fun r5 er5 => ?_)
      have hr5 : r5.toInt = (0 : Int) := by rw [er5]; exact (by decide : (0 : Int32).toInt = (0 : Int))
      exact W.zret (ty := .boolean) (v := r5) hx hb hr (nar_b (by omega)) (fun t9 ht9 hW9 => ⟨⟨r5, ru, rfl, Or.inr ⟨by omega, by omega, rfl⟩, by rw [ht9]; exact hP, va_K.moved hW9.alike hK, hD⟩, hS.F ht9⟩) hS.2.2 dX3_rule_11
set_option maxHeartbeats 8000000 in
set_option maxRecDepth 100000 in
theorem mX3_set (l : Launch) {dC : Nat → ClassId} {dI : Nat → Nat → Nat} {sz : Nat} {m0 a1 a2 a3 a4 a5 a6 : Nat} {cI : ClassId} {wd ht ws bf mk nu : Nat → Int32} {tg so pa ru : Int32} {wN hN : Nat → Nat} {Bt : Nat → Nat → Nat → Bool} {nz : Nat → Int} {tn : Nat} {sn pn : Option Nat} {rA : Int32} (wh : Int32) (av : Int32) (bv : Int32) (hM : RM wN hN Bt nz tn sn pn rA wd ht ws nu tg so pa ru) : Met l yX3_set (wM yX3_set cX3_set 4 (some .boolean)) ({ frames := 1, cells := 0, slots := 0, locals := 20 }) (va_Pc [.ref m0, .int wh, .int av, .int bv] (wP (dC, dI) vwCl (tyM cI) (w_md m0 a1 a2 a3 a4 a5 a6 cI wd ht ws bf mk nu tg so pa ru) sz)) (va_Qi (fun (r : Int32) (u : Nat → Int32) => (r.toInt = 1 ∧ 0 ≤ wh.toInt ∧ wh.toInt < 5 ∧ -32768 ≤ av.toInt ∧ av.toInt ≤ 32767 ∧ -32768 ≤ bv.toInt ∧ bv.toInt ≤ 32767 ∧ RM wN hN Bt (va_up (va_up nz (2 * wh.toInt.toNat) av.toInt) (2 * wh.toInt.toNat + 1) bv.toInt) tn sn pn rA wd ht ws u tg so pa ru) ∨ (r.toInt = 0 ∧ (wh.toInt < 0 ∨ 5 ≤ wh.toInt ∨ av.toInt < -32768 ∨ 32767 < av.toInt ∨ bv.toInt < -32768 ∨ 32767 < bv.toInt) ∧ u = nu)) (wB (dC, dI) vwCl (va_A (w_md m0 a1 a2 a3 a4 a5 a6 cI wd ht ws bf mk nu tg so pa ru) sz) (fun u : Nat → Int32 => (tyM cI)) (fun u : Nat → Int32 => (w_md m0 a1 a2 a3 a4 a5 a6 cI wd ht ws bf mk u tg so pa ru))) (va_A (w_md m0 a1 a2 a3 a4 a5 a6 cI wd ht ws bf mk nu tg so pa ru) sz)) 0 0 (va_A (w_md m0 a1 a2 a3 a4 a5 a6 cI wd ht ws bf mk nu tg so pa ru) sz) := by
  refine Met.ofW (cc := cX3_set) (maxL := 4) (ret := (some .boolean)) (by decide +kernel) rfl ?_
  intro p e s m args below meth c s₁ B hml hv
  obtain ⟨rfl, hsz, hP, hK, hD0, hNS⟩ := hv
  have hx := B.exec
  have hb := B.bytes
  have hr := B.returns
  have hts : ∀ w ∈ tblG, w.before _ s = true := fun w h => atoms_spec (ws := wM yX3_set cX3_set 4 (some .boolean)) B.pre w (List.mem_cons_of_mem _ h)
  have hown : s.vm.findClass RX3 = some m.cls := findClass_of_methodNamed B.named
  have hlocks := B.notSynchronized
  subst hsz
  have hD := hD0.self (sz := s.heap.size)
  generalize hAe : va_A (w_md m0 a1 a2 a3 a4 a5 a6 cI wd ht ws bf mk nu tg so pa ru) s.heap.size = A at hD ⊢
  have hA : ∀ q : Nat, s.heap.size ≤ q → A q := fun q h => by rw [← hAe]; exact Or.inr h
  have hS : va_S A s.heap s.heap [] := va_S.rf
  have hP : va_P (dC, dI) vwCl (w_md m0 a1 a2 a3 a4 a5 a6 cI wd ht ws bf mk nu tg so pa ru) s.heap := hP
  have hl := lv_entry ([.ref m0, .int wh, .int av, .int bv]) (n := 4) (Nat.le_of_ble_eq_true rfl)
  rw [lg_entry_eq]
  generalize (lg_sl ([.ref m0, .int wh, .int av, .int bv]) ++ List.replicate (4 - (lg_sl ([.ref m0, .int wh, .int av, .int bv])).length) Slot.unset).toArray = ls at hl ⊢
  have hl : lv_has ls 4 [(0, .ref m0), (1, .int wh), (2, .int av), (3, .int bv)] := hl
  obtain ⟨hF, hnu, htg, htn, hso, hsn, hpa, hpn, hru, hr1, hr2⟩ := id hM
  have hso4 := oz_lo hsn
  have hpa4 := oz_lo hpn
  refine lv_iload_n hx hb dX3_set_0 rfl (lv_at hl 1 rfl) ?_
  refine lv_if_lt (tgt := 23) hx hb dX3_set_1 (by decide) (fun c1 => ?_) (fun c1 => ?_)
  · replace c1 := (ti_lt rfl (by decide : (0 : Int32).toInt = (0 : Int))).mp c1
    refine lv_iconst (v := 0) hx hb dX3_set_23 (by decide) ?_
    refine lv_topi (fun r2 er2 => ?_)
    have hr2 : r2.toInt = (0 : Int) := by rw [er2]; exact (by decide : (0 : Int32).toInt = (0 : Int))
    exact W.zret (ty := .boolean) (v := r2) hx hb hr (nar_b (by omega)) (fun t9 ht9 hW9 => ⟨⟨r2, nu, rfl, Or.inr ⟨by omega, by omega, rfl⟩, by rw [ht9]; exact hP, va_K.moved hW9.alike hK, hD⟩, hS.F ht9⟩) hS.2.2 dX3_set_24
  · replace c1 := mt (ti_lt rfl (by decide : (0 : Int32).toInt = (0 : Int))).mpr c1
    refine lv_iload_n hx hb dX3_set_4 rfl (lv_at hl 1 rfl) ?_
    refine lv_iconst (v := 4) hx hb dX3_set_5 (by decide) ?_
    refine lv_icmp_gt (tgt := 23) hx hb dX3_set_6 (by decide) (fun c3 => ?_) (fun c3 => ?_)
    · replace c3 := (ti_lt (by decide : (4 : Int32).toInt = (4 : Int)) rfl).mp c3
      refine lv_iconst (v := 0) hx hb dX3_set_23 (by decide) ?_
      refine lv_topi (fun r4 er4 => ?_)
      have hr4 : r4.toInt = (0 : Int) := by rw [er4]; exact (by decide : (0 : Int32).toInt = (0 : Int))
      exact W.zret (ty := .boolean) (v := r4) hx hb hr (nar_b (by omega)) (fun t9 ht9 hW9 => ⟨⟨r4, nu, rfl, Or.inr ⟨by omega, by omega, rfl⟩, by rw [ht9]; exact hP, va_K.moved hW9.alike hK, hD⟩, hS.F ht9⟩) hS.2.2 dX3_set_24
    · replace c3 := mt (ti_lt (by decide : (4 : Int32).toInt = (4 : Int)) rfl).mpr c3
      refine lv_iload_n hx hb dX3_set_9 rfl (lv_at hl 2 rfl) ?_
      refine vp_callSi (va_Run.run (va_runS (As := [.int av]) (rest := []) ⟨hx, hb, hml, hown, hts⟩ (mX3_isNumber l av) (va_cwS 1 hts (gA (m3 k385 k386 k4) k387) rfl rfl rfl (by decide +kernel) ⟨Nat.le_of_ble_eq_true rfl, Nat.le_of_ble_eq_true rfl⟩) (prT) rfl rfl hl.1 rfl (lv_room (Nat.le_of_ble_eq_true rfl)) dX3_set_10 ⟨Nat.le_of_ble_eq_true rfl, Nat.le_of_ble_eq_true rfl⟩)) (fun r5 hwr5 => ?_)
      try dsimp only at hwr5
      refine lv_if_eq (tgt := 23) hx hb dX3_set_13 (by decide) (fun c6 => ?_) (fun c6 => ?_)
      · replace c6 := (ti_eq rfl (by decide : (0 : Int32).toInt = (0 : Int))).mp c6
        refine lv_iconst (v := 0) hx hb dX3_set_23 (by decide) ?_
        refine lv_topi (fun r7 er7 => ?_)
        have hr7 : r7.toInt = (0 : Int) := by rw [er7]; exact (by decide : (0 : Int32).toInt = (0 : Int))
        exact W.zret (ty := .boolean) (v := r7) hx hb hr (nar_b (by omega)) (fun t9 ht9 hW9 => ⟨⟨r7, nu, rfl, Or.inr ⟨by omega, by omega, rfl⟩, by rw [ht9]; exact hP, va_K.moved hW9.alike hK, hD⟩, hS.F ht9⟩) hS.2.2 dX3_set_24
      · replace c6 := mt (ti_eq rfl (by decide : (0 : Int32).toInt = (0 : Int))).mpr c6
        refine lv_iload_n hx hb dX3_set_16 rfl (lv_at hl 3 rfl) ?_
        refine vp_callSi (va_Run.run (va_runS (As := [.int bv]) (rest := []) ⟨hx, hb, hml, hown, hts⟩ (mX3_isNumber l bv) (va_cwS 1 hts (gA (m3 k385 k386 k4) k387) rfl rfl rfl (by decide +kernel) ⟨Nat.le_of_ble_eq_true rfl, Nat.le_of_ble_eq_true rfl⟩) (prT) rfl rfl hl.1 rfl (lv_room (Nat.le_of_ble_eq_true rfl)) dX3_set_17 ⟨Nat.le_of_ble_eq_true rfl, Nat.le_of_ble_eq_true rfl⟩)) (fun r8 hwr8 => ?_)
        try dsimp only at hwr8
        refine lv_if_ne (tgt := 25) hx hb dX3_set_20 (by decide) (fun c9 => ?_) (fun c9 => ?_)
        · replace c9 := mt (ti_eq rfl (by decide : (0 : Int32).toInt = (0 : Int))).mpr c9
          refine lv_aload_n hx hb dX3_set_25 rfl (lv_at hl 0 rfl) ?_
          refine va_get (D := (dC, dI)) (ci := 3) (v := .ref a6) (C := RX3) (T := TX3) (N := 10) hx hb hts inX3 hown hK hP 0 rfl rfl 9 (by decide) (hts _ k299) (fun _ h9 => h9) rfl dX3_set_26 ?_
          refine lv_iconst (v := 2) hx hb dX3_set_29 (by decide) ?_
          refine lv_iload_n hx hb dX3_set_30 rfl (lv_at hl 1 rfl) ?_
          refine lv_imul hx hb dX3_set_31 ?_
          refine lv_topi (fun x10 ex10 => ?_)
          have hx10 : x10.toInt = (2 : Int) * wh.toInt := by rw [ex10]; exact ti_mul (by decide : (2 : Int32).toInt = (2 : Int)) rfl (by omega) (by omega)
          refine lv_iload_n hx hb dX3_set_32 rfl (lv_at hl 2 rfl) ?_
          refine isK hx hb hK hP hD hS 6 0 rfl rfl (2 * wh.toInt.toNat) (by omega) (by omega) dX3_set_33 (fun H locs hP hD hS => ?_)
          have hP : va_P (dC, dI) vwCl (w_md m0 a1 a2 a3 a4 a5 a6 cI wd ht ws bf mk (upd nu (2 * wh.toInt.toNat) av) tg so pa ru) H := hP
          have hD : va_D A (w_md m0 a1 a2 a3 a4 a5 a6 cI wd ht ws bf mk (upd nu (2 * wh.toInt.toNat) av) tg so pa ru) := hD
          refine lv_aload_n hx hb dX3_set_34 rfl (lv_at hl 0 rfl) ?_
          refine va_get (D := (dC, dI)) (ci := 3) (v := .ref a6) (C := RX3) (T := TX3) (N := 10) hx hb hts inX3 hown hK hP 0 rfl rfl 9 (by decide) (hts _ k299) (fun _ h9 => h9) rfl dX3_set_35 ?_
          refine lv_iconst (v := 2) hx hb dX3_set_38 (by decide) ?_
          refine lv_iload_n hx hb dX3_set_39 rfl (lv_at hl 1 rfl) ?_
          refine lv_imul hx hb dX3_set_40 ?_
          refine lv_topi (fun x11 ex11 => ?_)
          have hx11 : x11.toInt = (2 : Int) * wh.toInt := by rw [ex11]; exact ti_mul (by decide : (2 : Int32).toInt = (2 : Int)) rfl (by omega) (by omega)
          refine lv_iconst (v := 1) hx hb dX3_set_41 (by decide) ?_
          refine lv_iadd hx hb dX3_set_42 ?_
          refine lv_topi (fun x12 ex12 => ?_)
          have hx12 : x12.toInt = x11.toInt + (1 : Int) := by rw [ex12]; exact ti_add rfl (by decide : (1 : Int32).toInt = (1 : Int)) (by omega) (by omega)
          refine lv_iload_n hx hb dX3_set_43 rfl (lv_at hl 3 rfl) ?_
          refine isK hx hb hK hP hD hS 6 0 rfl rfl (2 * wh.toInt.toNat + 1) (by omega) (by omega) dX3_set_44 (fun H locs hP hD hS => ?_)
          have hP : va_P (dC, dI) vwCl (w_md m0 a1 a2 a3 a4 a5 a6 cI wd ht ws bf mk (upd (upd nu (2 * wh.toInt.toNat) av) (2 * wh.toInt.toNat + 1) bv) tg so pa ru) H := hP
          have hD : va_D A (w_md m0 a1 a2 a3 a4 a5 a6 cI wd ht ws bf mk (upd (upd nu (2 * wh.toInt.toNat) av) (2 * wh.toInt.toNat + 1) bv) tg so pa ru) := hD
          refine lv_iconst (v := 1) hx hb dX3_set_45 (by decide) ?_
          refine lv_topi (fun r13 er13 => ?_)
          have hr13 : r13.toInt = (1 : Int) := by rw [er13]; exact (by decide : (1 : Int32).toInt = (1 : Int))
          exact W.zret (ty := .boolean) (v := r13) hx hb hr (nar_b (by omega)) (fun t9 ht9 hW9 => ⟨⟨r13, (upd (upd nu (2 * wh.toInt.toNat) av) (2 * wh.toInt.toNat + 1) bv), rfl, Or.inl ⟨by omega, by omega, by omega, by omega, by omega, by omega, by omega, (hM.num rfl ⟨by omega, by omega⟩).num rfl ⟨by omega, by omega⟩⟩, by rw [ht9]; exact hP, va_K.moved hW9.alike hK, hD⟩, hS.F ht9⟩) hS.2.2 dX3_set_46
        · replace c9 := (ti_eq rfl (by decide : (0 : Int32).toInt = (0 : Int))).mp c9
          refine lv_iconst (v := 0) hx hb dX3_set_23 (by decide) ?_
          refine lv_topi (fun r14 er14 => ?_)
          have hr14 : r14.toInt = (0 : Int) := by rw [er14]; exact (by decide : (0 : Int32).toInt = (0 : Int))
          exact W.zret (ty := .boolean) (v := r14) hx hb hr (nar_b (by omega)) (fun t9 ht9 hW9 => ⟨⟨r14, nu, rfl, Or.inr ⟨by omega, by omega, rfl⟩, by rw [ht9]; exact hP, va_K.moved hW9.alike hK, hD⟩, hS.F ht9⟩) hS.2.2 dX3_set_24
set_option maxHeartbeats 8000000 in
set_option maxRecDepth 100000 in
theorem mX3_forms (l : Launch) {dC : Nat → ClassId} {dI : Nat → Nat → Nat} {sz : Nat} {m0 a1 a2 a3 a4 a5 a6 : Nat} {cI : ClassId} {wd ht ws bf mk nu : Nat → Int32} {tg so pa ru : Int32} {wN hN : Nat → Nat} {Bt : Nat → Nat → Nat → Bool} {nz : Nat → Int} {tn : Nat} {sn pn : Option Nat} {rA : Int32} (ta : Int32) (sr : Int32) (pt : Int32) (hM : RM wN hN Bt nz tn sn pn rA wd ht ws nu tg so pa ru) : Met l yX3_forms (wM yX3_forms cX3_forms 4 (some .boolean)) ({ frames := 1, cells := 0, slots := 0, locals := 21 }) (va_Pc [.ref m0, .int ta, .int sr, .int pt] (wP (dC, dI) vwCl (tyM cI) (w_md m0 a1 a2 a3 a4 a5 a6 cI wd ht ws bf mk nu tg so pa ru) sz)) (va_Qi (fun (r : Int32) (u : Int32 × Int32 × Int32) => (r.toInt = 1 ∧ 0 ≤ ta.toInt ∧ ta.toInt < 4 ∧ -1 ≤ sr.toInt ∧ sr.toInt < 4 ∧ -1 ≤ pt.toInt ∧ pt.toInt < 4 ∧ (∀ q : Nat, pt.toInt = (q : Int) → wN q = 16 ∧ hN q = 16) ∧ u = (ta, sr, pt)) ∨ (r.toInt = 0 ∧ u = (tg, so, pa) ∧ ((ta.toInt < 0 ∨ 4 ≤ ta.toInt) ∨ (sr.toInt < -1 ∨ 4 ≤ sr.toInt) ∨ (pt.toInt < -1 ∨ 4 ≤ pt.toInt) ∨ ∃ q : Nat, pt.toInt = (q : Int) ∧ q < 4 ∧ ¬ (wN q = 16 ∧ hN q = 16)))) (wB (dC, dI) vwCl (va_A (w_md m0 a1 a2 a3 a4 a5 a6 cI wd ht ws bf mk nu tg so pa ru) sz) (fun u : Int32 × Int32 × Int32 => (tyM cI)) (fun u : Int32 × Int32 × Int32 => (w_md m0 a1 a2 a3 a4 a5 a6 cI wd ht ws bf mk nu u.1 u.2.1 u.2.2 ru))) (va_A (w_md m0 a1 a2 a3 a4 a5 a6 cI wd ht ws bf mk nu tg so pa ru) sz)) 0 0 (va_A (w_md m0 a1 a2 a3 a4 a5 a6 cI wd ht ws bf mk nu tg so pa ru) sz) := by
  refine Met.ofW (cc := cX3_forms) (maxL := 4) (ret := (some .boolean)) (by decide +kernel) rfl ?_
  intro p e s m args below meth c s₁ B hml hv
  obtain ⟨rfl, hsz, hP, hK, hD0, hNS⟩ := hv
  have hx := B.exec
  have hb := B.bytes
  have hr := B.returns
  have hts : ∀ w ∈ tblG, w.before _ s = true := fun w h => atoms_spec (ws := wM yX3_forms cX3_forms 4 (some .boolean)) B.pre w (List.mem_cons_of_mem _ h)
  have hown : s.vm.findClass RX3 = some m.cls := findClass_of_methodNamed B.named
  have hlocks := B.notSynchronized
  subst hsz
  have hD := hD0.self (sz := s.heap.size)
  generalize hAe : va_A (w_md m0 a1 a2 a3 a4 a5 a6 cI wd ht ws bf mk nu tg so pa ru) s.heap.size = A at hD ⊢
  have hA : ∀ q : Nat, s.heap.size ≤ q → A q := fun q h => by rw [← hAe]; exact Or.inr h
  have hS : va_S A s.heap s.heap [] := va_S.rf
  have hP : va_P (dC, dI) vwCl (w_md m0 a1 a2 a3 a4 a5 a6 cI wd ht ws bf mk nu tg so pa ru) s.heap := hP
  have hl := lv_entry ([.ref m0, .int ta, .int sr, .int pt]) (n := 4) (Nat.le_of_ble_eq_true rfl)
  rw [lg_entry_eq]
  generalize (lg_sl ([.ref m0, .int ta, .int sr, .int pt]) ++ List.replicate (4 - (lg_sl ([.ref m0, .int ta, .int sr, .int pt])).length) Slot.unset).toArray = ls at hl ⊢
  have hl : lv_has ls 4 [(0, .ref m0), (1, .int ta), (2, .int sr), (3, .int pt)] := hl
  obtain ⟨hF, hnu, htg, htn, hso, hsn, hpa, hpn, hru, hr1, hr2⟩ := id hM
  have hso4 := oz_lo hsn
  have hpa4 := oz_lo hpn
  refine lv_iload_n hx hb dX3_forms_0 rfl (lv_at hl 1 rfl) ?_
  refine vp_callSi (va_Run.run (va_runS (As := [.int ta]) (rest := []) ⟨hx, hb, hml, hown, hts⟩ (mX3_isForm l ta) (va_cwS 1 hts (gA (m3 k325 k326 k4) k327) rfl rfl rfl (by decide +kernel) ⟨Nat.le_of_ble_eq_true rfl, Nat.le_of_ble_eq_true rfl⟩) (prT) rfl rfl hl.1 rfl (lv_room (Nat.le_of_ble_eq_true rfl)) dX3_forms_1 ⟨Nat.le_of_ble_eq_true rfl, Nat.le_of_ble_eq_true rfl⟩)) (fun r1 hwr1 => ?_)
  try dsimp only at hwr1
  refine lv_if_eq (tgt := 39) hx hb dX3_forms_4 (by decide) (fun c2 => ?_) (fun c2 => ?_)
  · replace c2 := (ti_eq rfl (by decide : (0 : Int32).toInt = (0 : Int))).mp c2
    refine lv_iconst (v := 0) hx hb dX3_forms_39 (by decide) ?_
    refine lv_topi (fun r3 er3 => ?_)
    have hr3 : r3.toInt = (0 : Int) := by rw [er3]; exact (by decide : (0 : Int32).toInt = (0 : Int))
    exact W.zret (ty := .boolean) (v := r3) hx hb hr (nar_b (by omega)) (fun t9 ht9 hW9 => ⟨⟨r3, (tg, so, pa), rfl, Or.inr ⟨by omega, rfl, by first | exact Or.inl (by omega) | exact Or.inr (Or.inl (by omega)) | exact Or.inr (Or.inr (Or.inl (by omega)))⟩, by rw [ht9]; exact hP, va_K.moved hW9.alike hK, hD⟩, hS.F ht9⟩) hS.2.2 dX3_forms_40
  · replace c2 := mt (ti_eq rfl (by decide : (0 : Int32).toInt = (0 : Int))).mpr c2
    refine lv_iload_n hx hb dX3_forms_7 rfl (lv_at hl 2 rfl) ?_
    refine lv_iconst (v := (-1)) hx hb dX3_forms_8 (by decide) ?_
    refine lv_icmp_eq (tgt := 19) hx hb dX3_forms_9 (by decide) (fun c4 => ?_) (fun c4 => ?_)
    · replace c4 := (ti_eq rfl (by decide : (-1 : Int32).toInt = (-1 : Int))).mp c4
      refine lv_iload_n hx hb dX3_forms_19 rfl (lv_at hl 3 rfl) ?_
      refine lv_iconst (v := (-1)) hx hb dX3_forms_20 (by decide) ?_
      refine lv_icmp_eq (tgt := 41) hx hb dX3_forms_21 (by decide) (fun c5 => ?_) (fun c5 => ?_)
      · replace c5 := (ti_eq rfl (by decide : (-1 : Int32).toInt = (-1 : Int))).mp c5
        refine lv_aload_n hx hb dX3_forms_41 rfl (lv_at hl 0 rfl) ?_
        refine lv_iload_n hx hb dX3_forms_42 rfl (lv_at hl 1 rfl) ?_
        refine va_put (D := (dC, dI)) (ci := 3) (v := .int ta) (ty := .int) (C := RX3) (T := TX3) (N := 10) hx hb hts inX3 tyX3 tyX3_ok nmX3 hown hK hP hD hS 0 rfl rfl 5 (by decide) (hts _ k295) (fun _ h9 => h9) rfl (by decide +kernel) rfl rfl (Nat.le_of_ble_eq_true rfl) dX3_forms_43 (fun H locs hP hD hS => ?_)
        have hP : va_P (dC, dI) vwCl (w_md m0 a1 a2 a3 a4 a5 a6 cI wd ht ws bf mk nu ta so pa ru) H := hP
        have hD : va_D A (w_md m0 a1 a2 a3 a4 a5 a6 cI wd ht ws bf mk nu ta so pa ru) := hD
        refine lv_aload_n hx hb dX3_forms_46 rfl (lv_at hl 0 rfl) ?_
        refine lv_iload_n hx hb dX3_forms_47 rfl (lv_at hl 2 rfl) ?_
        refine va_put (D := (dC, dI)) (ci := 3) (v := .int sr) (ty := .int) (C := RX3) (T := TX3) (N := 10) hx hb hts inX3 tyX3 tyX3_ok nmX3 hown hK hP hD hS 0 rfl rfl 6 (by decide) (hts _ k296) (fun _ h9 => h9) rfl (by decide +kernel) rfl rfl (Nat.le_of_ble_eq_true rfl) dX3_forms_48 (fun H locs hP hD hS => ?_)
        have hP : va_P (dC, dI) vwCl (w_md m0 a1 a2 a3 a4 a5 a6 cI wd ht ws bf mk nu ta sr pa ru) H := hP
        have hD : va_D A (w_md m0 a1 a2 a3 a4 a5 a6 cI wd ht ws bf mk nu ta sr pa ru) := hD
        refine lv_aload_n hx hb dX3_forms_51 rfl (lv_at hl 0 rfl) ?_
        refine lv_iload_n hx hb dX3_forms_52 rfl (lv_at hl 3 rfl) ?_
        refine va_put (D := (dC, dI)) (ci := 3) (v := .int pt) (ty := .int) (C := RX3) (T := TX3) (N := 10) hx hb hts inX3 tyX3 tyX3_ok nmX3 hown hK hP hD hS 0 rfl rfl 7 (by decide) (hts _ k297) (fun _ h9 => h9) rfl (by decide +kernel) rfl rfl (Nat.le_of_ble_eq_true rfl) dX3_forms_53 (fun H locs hP hD hS => ?_)
        have hP : va_P (dC, dI) vwCl (w_md m0 a1 a2 a3 a4 a5 a6 cI wd ht ws bf mk nu ta sr pt ru) H := hP
        have hD : va_D A (w_md m0 a1 a2 a3 a4 a5 a6 cI wd ht ws bf mk nu ta sr pt ru) := hD
        refine lv_iconst (v := 1) hx hb dX3_forms_56 (by decide) ?_
        refine lv_topi (fun r6 er6 => ?_)
        have hr6 : r6.toInt = (1 : Int) := by rw [er6]; exact (by decide : (1 : Int32).toInt = (1 : Int))
        have hp16 : ∀ z : Nat, pt.toInt = (z : Int) → wN z = 16 ∧ hN z = 16 := fun z hz => by omega
        exact W.zret (ty := .boolean) (v := r6) hx hb hr (nar_b (by omega)) (fun t9 ht9 hW9 => ⟨⟨r6, (ta, sr, pt), rfl, Or.inl ⟨by omega, by omega, by omega, by omega, by omega, by omega, by omega, hp16, rfl⟩, by rw [ht9]; exact hP, va_K.moved hW9.alike hK, hD⟩, hS.F ht9⟩) hS.2.2 dX3_forms_57
      · replace c5 := mt (ti_eq rfl (by decide : (-1 : Int32).toInt = (-1 : Int))).mpr c5
        refine lv_iload_n hx hb dX3_forms_24 rfl (lv_at hl 3 rfl) ?_
        refine vp_callSi (va_Run.run (va_runS (As := [.int pt]) (rest := []) ⟨hx, hb, hml, hown, hts⟩ (mX3_isForm l pt) (va_cwS 1 hts (gA (m3 k325 k326 k4) k327) rfl rfl rfl (by decide +kernel) ⟨Nat.le_of_ble_eq_true rfl, Nat.le_of_ble_eq_true rfl⟩) (prT) rfl rfl hl.1 rfl (lv_room (Nat.le_of_ble_eq_true rfl)) dX3_forms_25 ⟨Nat.le_of_ble_eq_true rfl, Nat.le_of_ble_eq_true rfl⟩)) (fun r7 hwr7 => ?_)
        try dsimp only at hwr7
        refine lv_if_eq (tgt := 39) hx hb dX3_forms_28 (by decide) (fun c8 => ?_) (fun c8 => ?_)
        · replace c8 := (ti_eq rfl (by decide : (0 : Int32).toInt = (0 : Int))).mp c8
          refine lv_iconst (v := 0) hx hb dX3_forms_39 (by decide) ?_
          refine lv_topi (fun r9 er9 => ?_)
          have hr9 : r9.toInt = (0 : Int) := by rw [er9]; exact (by decide : (0 : Int32).toInt = (0 : Int))
          exact W.zret (ty := .boolean) (v := r9) hx hb hr (nar_b (by omega)) (fun t9 ht9 hW9 => ⟨⟨r9, (tg, so, pa), rfl, Or.inr ⟨by omega, rfl, by first | exact Or.inl (by omega) | exact Or.inr (Or.inl (by omega)) | exact Or.inr (Or.inr (Or.inl (by omega)))⟩, by rw [ht9]; exact hP, va_K.moved hW9.alike hK, hD⟩, hS.F ht9⟩) hS.2.2 dX3_forms_40
        · replace c8 := mt (ti_eq rfl (by decide : (0 : Int32).toInt = (0 : Int))).mpr c8
          refine lv_aload_n hx hb dX3_forms_31 rfl (lv_at hl 0 rfl) ?_
          refine lv_iload_n hx hb dX3_forms_32 rfl (lv_at hl 3 rfl) ?_
          obtain ⟨q, eq9⟩ : ∃ t : Nat, pt.toInt = (t : Int) := ⟨pt.toInt.toNat, by omega⟩
          have h4q : q < 4 := by omega
          refine vp_callSi (va_Run.run (va_runV (As := [.int pt]) (rest := []) ⟨hx, hb, hml, hown, hts⟩ (mX3_isPattern l pt hM (t := q) eq9 h4q) (cwV 1 hts (gA (m4 k373 k375 ksel13 k4) k376) rfl rfl rfl (by decide +kernel) ⟨Nat.le_of_ble_eq_true rfl, Nat.le_of_ble_eq_true rfl⟩) (prRV hP hK hNS rfl (show (w_md m0 a1 a2 a3 a4 a5 a6 cI wd ht ws bf mk nu tg so pa ru)[0]? = some (m0, .inr (3, [.ref a1, .ref a2, .ref a3, .ref a4, .ref a5, .int tg, .int so, .int pa, .int ru, .ref a6])) from rfl)) rfl rfl hl.1 rfl (lv_room (Nat.le_of_ble_eq_true rfl)) dX3_forms_33 ⟨Nat.le_of_ble_eq_true rfl, Nat.le_of_ble_eq_true rfl⟩)) (fun r10 hwr10 => ?_)
          try dsimp only at hwr10
          refine lv_if_ne (tgt := 41) hx hb dX3_forms_36 (by decide) (fun c11 => ?_) (fun c11 => ?_)
          · replace c11 := mt (ti_eq rfl (by decide : (0 : Int32).toInt = (0 : Int))).mpr c11
            refine lv_aload_n hx hb dX3_forms_41 rfl (lv_at hl 0 rfl) ?_
            refine lv_iload_n hx hb dX3_forms_42 rfl (lv_at hl 1 rfl) ?_
            refine va_put (D := (dC, dI)) (ci := 3) (v := .int ta) (ty := .int) (C := RX3) (T := TX3) (N := 10) hx hb hts inX3 tyX3 tyX3_ok nmX3 hown hK hP hD hS 0 rfl rfl 5 (by decide) (hts _ k295) (fun _ h9 => h9) rfl (by decide +kernel) rfl rfl (Nat.le_of_ble_eq_true rfl) dX3_forms_43 (fun H locs hP hD hS => ?_)
            have hP : va_P (dC, dI) vwCl (w_md m0 a1 a2 a3 a4 a5 a6 cI wd ht ws bf mk nu ta so pa ru) H := hP
            have hD : va_D A (w_md m0 a1 a2 a3 a4 a5 a6 cI wd ht ws bf mk nu ta so pa ru) := hD
            refine lv_aload_n hx hb dX3_forms_46 rfl (lv_at hl 0 rfl) ?_
            refine lv_iload_n hx hb dX3_forms_47 rfl (lv_at hl 2 rfl) ?_
            refine va_put (D := (dC, dI)) (ci := 3) (v := .int sr) (ty := .int) (C := RX3) (T := TX3) (N := 10) hx hb hts inX3 tyX3 tyX3_ok nmX3 hown hK hP hD hS 0 rfl rfl 6 (by decide) (hts _ k296) (fun _ h9 => h9) rfl (by decide +kernel) rfl rfl (Nat.le_of_ble_eq_true rfl) dX3_forms_48 (fun H locs hP hD hS => ?_)
            have hP : va_P (dC, dI) vwCl (w_md m0 a1 a2 a3 a4 a5 a6 cI wd ht ws bf mk nu ta sr pa ru) H := hP
            have hD : va_D A (w_md m0 a1 a2 a3 a4 a5 a6 cI wd ht ws bf mk nu ta sr pa ru) := hD
            refine lv_aload_n hx hb dX3_forms_51 rfl (lv_at hl 0 rfl) ?_
            refine lv_iload_n hx hb dX3_forms_52 rfl (lv_at hl 3 rfl) ?_
            refine va_put (D := (dC, dI)) (ci := 3) (v := .int pt) (ty := .int) (C := RX3) (T := TX3) (N := 10) hx hb hts inX3 tyX3 tyX3_ok nmX3 hown hK hP hD hS 0 rfl rfl 7 (by decide) (hts _ k297) (fun _ h9 => h9) rfl (by decide +kernel) rfl rfl (Nat.le_of_ble_eq_true rfl) dX3_forms_53 (fun H locs hP hD hS => ?_)
            have hP : va_P (dC, dI) vwCl (w_md m0 a1 a2 a3 a4 a5 a6 cI wd ht ws bf mk nu ta sr pt ru) H := hP
            have hD : va_D A (w_md m0 a1 a2 a3 a4 a5 a6 cI wd ht ws bf mk nu ta sr pt ru) := hD
            refine lv_iconst (v := 1) hx hb dX3_forms_56 (by decide) ?_
            refine lv_topi (fun r12 er12 => ?_)
            have hr12 : r12.toInt = (1 : Int) := by rw [er12]; exact (by decide : (1 : Int32).toInt = (1 : Int))
            have hp16 : ∀ z : Nat, pt.toInt = (z : Int) → wN z = 16 ∧ hN z = 16 := fun z hz => by rw [show z = q by omega]; omega
            exact W.zret (ty := .boolean) (v := r12) hx hb hr (nar_b (by omega)) (fun t9 ht9 hW9 => ⟨⟨r12, (ta, sr, pt), rfl, Or.inl ⟨by omega, by omega, by omega, by omega, by omega, by omega, by omega, hp16, rfl⟩, by rw [ht9]; exact hP, va_K.moved hW9.alike hK, hD⟩, hS.F ht9⟩) hS.2.2 dX3_forms_57
          · replace c11 := (ti_eq rfl (by decide : (0 : Int32).toInt = (0 : Int))).mp c11
            refine lv_iconst (v := 0) hx hb dX3_forms_39 (by decide) ?_
            refine lv_topi (fun r13 er13 => ?_)
            have hr13 : r13.toInt = (0 : Int) := by rw [er13]; exact (by decide : (0 : Int32).toInt = (0 : Int))
            exact W.zret (ty := .boolean) (v := r13) hx hb hr (nar_b (by omega)) (fun t9 ht9 hW9 => ⟨⟨r13, (tg, so, pa), rfl, Or.inr ⟨by omega, rfl, Or.inr (Or.inr (Or.inr ⟨q, eq9, h4q, by omega⟩))⟩, by rw [ht9]; exact hP, va_K.moved hW9.alike hK, hD⟩, hS.F ht9⟩) hS.2.2 dX3_forms_40
    · replace c4 := mt (ti_eq rfl (by decide : (-1 : Int32).toInt = (-1 : Int))).mpr c4
      refine lv_iload_n hx hb dX3_forms_12 rfl (lv_at hl 2 rfl) ?_
      refine vp_callSi (va_Run.run (va_runS (As := [.int sr]) (rest := []) ⟨hx, hb, hml, hown, hts⟩ (mX3_isForm l sr) (va_cwS 1 hts (gA (m3 k325 k326 k4) k327) rfl rfl rfl (by decide +kernel) ⟨Nat.le_of_ble_eq_true rfl, Nat.le_of_ble_eq_true rfl⟩) (prT) rfl rfl hl.1 rfl (lv_room (Nat.le_of_ble_eq_true rfl)) dX3_forms_13 ⟨Nat.le_of_ble_eq_true rfl, Nat.le_of_ble_eq_true rfl⟩)) (fun r14 hwr14 => ?_)
      try dsimp only at hwr14
      refine lv_if_eq (tgt := 39) hx hb dX3_forms_16 (by decide) (fun c15 => ?_) (fun c15 => ?_)
      · replace c15 := (ti_eq rfl (by decide : (0 : Int32).toInt = (0 : Int))).mp c15
        refine lv_iconst (v := 0) hx hb dX3_forms_39 (by decide) ?_
        refine lv_topi (fun r16 er16 => ?_)
        have hr16 : r16.toInt = (0 : Int) := by rw [er16]; exact (by decide : (0 : Int32).toInt = (0 : Int))
        exact W.zret (ty := .boolean) (v := r16) hx hb hr (nar_b (by omega)) (fun t9 ht9 hW9 => ⟨⟨r16, (tg, so, pa), rfl, Or.inr ⟨by omega, rfl, by first | exact Or.inl (by omega) | exact Or.inr (Or.inl (by omega)) | exact Or.inr (Or.inr (Or.inl (by omega)))⟩, by rw [ht9]; exact hP, va_K.moved hW9.alike hK, hD⟩, hS.F ht9⟩) hS.2.2 dX3_forms_40
      · replace c15 := mt (ti_eq rfl (by decide : (0 : Int32).toInt = (0 : Int))).mpr c15
        refine lv_iload_n hx hb dX3_forms_19 rfl (lv_at hl 3 rfl) ?_
        refine lv_iconst (v := (-1)) hx hb dX3_forms_20 (by decide) ?_
        refine lv_icmp_eq (tgt := 41) hx hb dX3_forms_21 (by decide) (fun c17 => ?_) (fun c17 => ?_)
        · replace c17 := (ti_eq rfl (by decide : (-1 : Int32).toInt = (-1 : Int))).mp c17
          refine lv_aload_n hx hb dX3_forms_41 rfl (lv_at hl 0 rfl) ?_
          refine lv_iload_n hx hb dX3_forms_42 rfl (lv_at hl 1 rfl) ?_
          refine va_put (D := (dC, dI)) (ci := 3) (v := .int ta) (ty := .int) (C := RX3) (T := TX3) (N := 10) hx hb hts inX3 tyX3 tyX3_ok nmX3 hown hK hP hD hS 0 rfl rfl 5 (by decide) (hts _ k295) (fun _ h9 => h9) rfl (by decide +kernel) rfl rfl (Nat.le_of_ble_eq_true rfl) dX3_forms_43 (fun H locs hP hD hS => ?_)
          have hP : va_P (dC, dI) vwCl (w_md m0 a1 a2 a3 a4 a5 a6 cI wd ht ws bf mk nu ta so pa ru) H := hP
          have hD : va_D A (w_md m0 a1 a2 a3 a4 a5 a6 cI wd ht ws bf mk nu ta so pa ru) := hD
          refine lv_aload_n hx hb dX3_forms_46 rfl (lv_at hl 0 rfl) ?_
          refine lv_iload_n hx hb dX3_forms_47 rfl (lv_at hl 2 rfl) ?_
          refine va_put (D := (dC, dI)) (ci := 3) (v := .int sr) (ty := .int) (C := RX3) (T := TX3) (N := 10) hx hb hts inX3 tyX3 tyX3_ok nmX3 hown hK hP hD hS 0 rfl rfl 6 (by decide) (hts _ k296) (fun _ h9 => h9) rfl (by decide +kernel) rfl rfl (Nat.le_of_ble_eq_true rfl) dX3_forms_48 (fun H locs hP hD hS => ?_)
          have hP : va_P (dC, dI) vwCl (w_md m0 a1 a2 a3 a4 a5 a6 cI wd ht ws bf mk nu ta sr pa ru) H := hP
          have hD : va_D A (w_md m0 a1 a2 a3 a4 a5 a6 cI wd ht ws bf mk nu ta sr pa ru) := hD
          refine lv_aload_n hx hb dX3_forms_51 rfl (lv_at hl 0 rfl) ?_
          refine lv_iload_n hx hb dX3_forms_52 rfl (lv_at hl 3 rfl) ?_
          refine va_put (D := (dC, dI)) (ci := 3) (v := .int pt) (ty := .int) (C := RX3) (T := TX3) (N := 10) hx hb hts inX3 tyX3 tyX3_ok nmX3 hown hK hP hD hS 0 rfl rfl 7 (by decide) (hts _ k297) (fun _ h9 => h9) rfl (by decide +kernel) rfl rfl (Nat.le_of_ble_eq_true rfl) dX3_forms_53 (fun H locs hP hD hS => ?_)
          have hP : va_P (dC, dI) vwCl (w_md m0 a1 a2 a3 a4 a5 a6 cI wd ht ws bf mk nu ta sr pt ru) H := hP
          have hD : va_D A (w_md m0 a1 a2 a3 a4 a5 a6 cI wd ht ws bf mk nu ta sr pt ru) := hD
          refine lv_iconst (v := 1) hx hb dX3_forms_56 (by decide) ?_
          refine lv_topi (fun r18 er18 => ?_)
          have hr18 : r18.toInt = (1 : Int) := by rw [er18]; exact (by decide : (1 : Int32).toInt = (1 : Int))
          have hp16 : ∀ z : Nat, pt.toInt = (z : Int) → wN z = 16 ∧ hN z = 16 := fun z hz => by omega
          exact W.zret (ty := .boolean) (v := r18) hx hb hr (nar_b (by omega)) (fun t9 ht9 hW9 => ⟨⟨r18, (ta, sr, pt), rfl, Or.inl ⟨by omega, by omega, by omega, by omega, by omega, by omega, by omega, hp16, rfl⟩, by rw [ht9]; exact hP, va_K.moved hW9.alike hK, hD⟩, hS.F ht9⟩) hS.2.2 dX3_forms_57
        · replace c17 := mt (ti_eq rfl (by decide : (-1 : Int32).toInt = (-1 : Int))).mpr c17
          refine lv_iload_n hx hb dX3_forms_24 rfl (lv_at hl 3 rfl) ?_
          refine vp_callSi (va_Run.run (va_runS (As := [.int pt]) (rest := []) ⟨hx, hb, hml, hown, hts⟩ (mX3_isForm l pt) (va_cwS 1 hts (gA (m3 k325 k326 k4) k327) rfl rfl rfl (by decide +kernel) ⟨Nat.le_of_ble_eq_true rfl, Nat.le_of_ble_eq_true rfl⟩) (prT) rfl rfl hl.1 rfl (lv_room (Nat.le_of_ble_eq_true rfl)) dX3_forms_25 ⟨Nat.le_of_ble_eq_true rfl, Nat.le_of_ble_eq_true rfl⟩)) (fun r19 hwr19 => ?_)
          try dsimp only at hwr19
          refine lv_if_eq (tgt := 39) hx hb dX3_forms_28 (by decide) (fun c20 => ?_) (fun c20 => ?_)
          · replace c20 := (ti_eq rfl (by decide : (0 : Int32).toInt = (0 : Int))).mp c20
            refine lv_iconst (v := 0) hx hb dX3_forms_39 (by decide) ?_
            refine lv_topi (fun r21 er21 => ?_)
            have hr21 : r21.toInt = (0 : Int) := by rw [er21]; exact (by decide : (0 : Int32).toInt = (0 : Int))
            exact W.zret (ty := .boolean) (v := r21) hx hb hr (nar_b (by omega)) (fun t9 ht9 hW9 => ⟨⟨r21, (tg, so, pa), rfl, Or.inr ⟨by omega, rfl, by first | exact Or.inl (by omega) | exact Or.inr (Or.inl (by omega)) | exact Or.inr (Or.inr (Or.inl (by omega)))⟩, by rw [ht9]; exact hP, va_K.moved hW9.alike hK, hD⟩, hS.F ht9⟩) hS.2.2 dX3_forms_40
          · replace c20 := mt (ti_eq rfl (by decide : (0 : Int32).toInt = (0 : Int))).mpr c20
            refine lv_aload_n hx hb dX3_forms_31 rfl (lv_at hl 0 rfl) ?_
            refine lv_iload_n hx hb dX3_forms_32 rfl (lv_at hl 3 rfl) ?_
            obtain ⟨q, eq9⟩ : ∃ t : Nat, pt.toInt = (t : Int) := ⟨pt.toInt.toNat, by omega⟩
            have h4q : q < 4 := by omega
            refine vp_callSi (va_Run.run (va_runV (As := [.int pt]) (rest := []) ⟨hx, hb, hml, hown, hts⟩ (mX3_isPattern l pt hM (t := q) eq9 h4q) (cwV 1 hts (gA (m4 k373 k375 ksel13 k4) k376) rfl rfl rfl (by decide +kernel) ⟨Nat.le_of_ble_eq_true rfl, Nat.le_of_ble_eq_true rfl⟩) (prRV hP hK hNS rfl (show (w_md m0 a1 a2 a3 a4 a5 a6 cI wd ht ws bf mk nu tg so pa ru)[0]? = some (m0, .inr (3, [.ref a1, .ref a2, .ref a3, .ref a4, .ref a5, .int tg, .int so, .int pa, .int ru, .ref a6])) from rfl)) rfl rfl hl.1 rfl (lv_room (Nat.le_of_ble_eq_true rfl)) dX3_forms_33 ⟨Nat.le_of_ble_eq_true rfl, Nat.le_of_ble_eq_true rfl⟩)) (fun r22 hwr22 => ?_)
            try dsimp only at hwr22
            refine lv_if_ne (tgt := 41) hx hb dX3_forms_36 (by decide) (fun c23 => ?_) (fun c23 => ?_)
            · replace c23 := mt (ti_eq rfl (by decide : (0 : Int32).toInt = (0 : Int))).mpr c23
              refine lv_aload_n hx hb dX3_forms_41 rfl (lv_at hl 0 rfl) ?_
              refine lv_iload_n hx hb dX3_forms_42 rfl (lv_at hl 1 rfl) ?_
              refine va_put (D := (dC, dI)) (ci := 3) (v := .int ta) (ty := .int) (C := RX3) (T := TX3) (N := 10) hx hb hts inX3 tyX3 tyX3_ok nmX3 hown hK hP hD hS 0 rfl rfl 5 (by decide) (hts _ k295) (fun _ h9 => h9) rfl (by decide +kernel) rfl rfl (Nat.le_of_ble_eq_true rfl) dX3_forms_43 (fun H locs hP hD hS => ?_)
              have hP : va_P (dC, dI) vwCl (w_md m0 a1 a2 a3 a4 a5 a6 cI wd ht ws bf mk nu ta so pa ru) H := hP
              have hD : va_D A (w_md m0 a1 a2 a3 a4 a5 a6 cI wd ht ws bf mk nu ta so pa ru) := hD
              refine lv_aload_n hx hb dX3_forms_46 rfl (lv_at hl 0 rfl) ?_
              refine lv_iload_n hx hb dX3_forms_47 rfl (lv_at hl 2 rfl) ?_
              refine va_put (D := (dC, dI)) (ci := 3) (v := .int sr) (ty := .int) (C := RX3) (T := TX3) (N := 10) hx hb hts inX3 tyX3 tyX3_ok nmX3 hown hK hP hD hS 0 rfl rfl 6 (by decide) (hts _ k296) (fun _ h9 => h9) rfl (by decide +kernel) rfl rfl (Nat.le_of_ble_eq_true rfl) dX3_forms_48 (fun H locs hP hD hS => ?_)
              have hP : va_P (dC, dI) vwCl (w_md m0 a1 a2 a3 a4 a5 a6 cI wd ht ws bf mk nu ta sr pa ru) H := hP
              have hD : va_D A (w_md m0 a1 a2 a3 a4 a5 a6 cI wd ht ws bf mk nu ta sr pa ru) := hD
              refine lv_aload_n hx hb dX3_forms_51 rfl (lv_at hl 0 rfl) ?_
              refine lv_iload_n hx hb dX3_forms_52 rfl (lv_at hl 3 rfl) ?_
              refine va_put (D := (dC, dI)) (ci := 3) (v := .int pt) (ty := .int) (C := RX3) (T := TX3) (N := 10) hx hb hts inX3 tyX3 tyX3_ok nmX3 hown hK hP hD hS 0 rfl rfl 7 (by decide) (hts _ k297) (fun _ h9 => h9) rfl (by decide +kernel) rfl rfl (Nat.le_of_ble_eq_true rfl) dX3_forms_53 (fun H locs hP hD hS => ?_)
              have hP : va_P (dC, dI) vwCl (w_md m0 a1 a2 a3 a4 a5 a6 cI wd ht ws bf mk nu ta sr pt ru) H := hP
              have hD : va_D A (w_md m0 a1 a2 a3 a4 a5 a6 cI wd ht ws bf mk nu ta sr pt ru) := hD
              refine lv_iconst (v := 1) hx hb dX3_forms_56 (by decide) ?_
              refine lv_topi (fun r24 er24 => ?_)
              have hr24 : r24.toInt = (1 : Int) := by rw [er24]; exact (by decide : (1 : Int32).toInt = (1 : Int))
              have hp16 : ∀ z : Nat, pt.toInt = (z : Int) → wN z = 16 ∧ hN z = 16 := fun z hz => by rw [show z = q by omega]; omega
              exact W.zret (ty := .boolean) (v := r24) hx hb hr (nar_b (by omega)) (fun t9 ht9 hW9 => ⟨⟨r24, (ta, sr, pt), rfl, Or.inl ⟨by omega, by omega, by omega, by omega, by omega, by omega, by omega, hp16, rfl⟩, by rw [ht9]; exact hP, va_K.moved hW9.alike hK, hD⟩, hS.F ht9⟩) hS.2.2 dX3_forms_57
            · replace c23 := (ti_eq rfl (by decide : (0 : Int32).toInt = (0 : Int))).mp c23
              refine lv_iconst (v := 0) hx hb dX3_forms_39 (by decide) ?_
              refine lv_topi (fun r25 er25 => ?_)
              have hr25 : r25.toInt = (0 : Int) := by rw [er25]; exact (by decide : (0 : Int32).toInt = (0 : Int))
              exact W.zret (ty := .boolean) (v := r25) hx hb hr (nar_b (by omega)) (fun t9 ht9 hW9 => ⟨⟨r25, (tg, so, pa), rfl, Or.inr ⟨by omega, rfl, Or.inr (Or.inr (Or.inr ⟨q, eq9, h4q, by omega⟩))⟩, by rw [ht9]; exact hP, va_K.moved hW9.alike hK, hD⟩, hS.F ht9⟩) hS.2.2 dX3_forms_40
set_option maxHeartbeats 8000000 in
set_option maxRecDepth 100000 in
theorem mX3_form (l : Launch) {dC : Nat → ClassId} {dI : Nat → Nat → Nat} {sz : Nat} {m0 a1 a2 a3 a4 a5 a6 : Nat} {cI : ClassId} {wd ht ws bf mk nu : Nat → Int32} {tg so pa ru : Int32} {wN hN : Nat → Nat} {Bt : Nat → Nat → Nat → Bool} {nz : Nat → Int} {tn : Nat} {sn pn : Option Nat} {rA : Int32} (f : Int32) (w1 : Int32) (h1 : Int32) (hM : RM wN hN Bt nz tn sn pn rA wd ht ws nu tg so pa ru) : Met l yX3_form (wM yX3_form cX3_form 5 (some .int)) ({ frames := 1, cells := 0, slots := 0, locals := 21 }) (va_Pc [.ref m0, .int f, .int w1, .int h1] (wP (dC, dI) vwCl (tyM cI) (w_md m0 a1 a2 a3 a4 a5 a6 cI wd ht ws bf mk nu tg so pa ru) sz)) (va_Qi (fun (r : Int32) (u : (Nat → Int32) × (Nat → Int32) × (Nat → Int32)) => (r.toInt = -1 ∧ u = (wd, ht, ws) ∧ (f.toInt < 0 ∨ 4 ≤ f.toInt ∨ w1.toInt < 1 ∨ h1.toInt < 1 ∨ 4000 < ((w1.toInt + 15) / 16) * h1.toInt)) ∨ (∃ t : Nat, f.toInt = (t : Int) ∧ t < 4 ∧ 1 ≤ w1.toInt ∧ 1 ≤ h1.toInt ∧ w1.toInt ≤ 64000 ∧ h1.toInt ≤ 4000 ∧ ((w1.toInt + 15) / 16) * h1.toInt ≤ 4000 ∧ r.toInt = ((w1.toInt + 15) / 16) * h1.toInt ∧ RM (va_up wN t w1.toInt.toNat) (va_up hN t h1.toInt.toNat) (va_up Bt t (fun _ _ => false)) nz tn sn pn rA u.1 u.2.1 u.2.2 nu tg so pa ru)) (wB (dC, dI) vwCl (va_A (w_md m0 a1 a2 a3 a4 a5 a6 cI wd ht ws bf mk nu tg so pa ru) sz) (fun u : (Nat → Int32) × (Nat → Int32) × (Nat → Int32) => (tyM cI)) (fun u : (Nat → Int32) × (Nat → Int32) × (Nat → Int32) => (w_md m0 a1 a2 a3 a4 a5 a6 cI u.1 u.2.1 u.2.2 bf mk nu tg so pa ru))) (va_A (w_md m0 a1 a2 a3 a4 a5 a6 cI wd ht ws bf mk nu tg so pa ru) sz)) 0 0 (va_A (w_md m0 a1 a2 a3 a4 a5 a6 cI wd ht ws bf mk nu tg so pa ru) sz) := by
  refine Met.ofW (cc := cX3_form) (maxL := 5) (ret := (some .int)) (by decide +kernel) rfl ?_
  intro p e s m args below meth c s₁ B hml hv
  obtain ⟨rfl, hsz, hP, hK, hD0, hNS⟩ := hv
  have hx := B.exec
  have hb := B.bytes
  have hr := B.returns
  have hts : ∀ w ∈ tblG, w.before _ s = true := fun w h => atoms_spec (ws := wM yX3_form cX3_form 5 (some .int)) B.pre w (List.mem_cons_of_mem _ h)
  have hown : s.vm.findClass RX3 = some m.cls := findClass_of_methodNamed B.named
  have hlocks := B.notSynchronized
  subst hsz
  have hD := hD0.self (sz := s.heap.size)
  generalize hAe : va_A (w_md m0 a1 a2 a3 a4 a5 a6 cI wd ht ws bf mk nu tg so pa ru) s.heap.size = A at hD ⊢
  have hA : ∀ q : Nat, s.heap.size ≤ q → A q := fun q h => by rw [← hAe]; exact Or.inr h
  have hS : va_S A s.heap s.heap [] := va_S.rf
  have hP : va_P (dC, dI) vwCl (w_md m0 a1 a2 a3 a4 a5 a6 cI wd ht ws bf mk nu tg so pa ru) s.heap := hP
  have hl := lv_entry ([.ref m0, .int f, .int w1, .int h1]) (n := 5) (Nat.le_of_ble_eq_true rfl)
  rw [lg_entry_eq]
  generalize (lg_sl ([.ref m0, .int f, .int w1, .int h1]) ++ List.replicate (5 - (lg_sl ([.ref m0, .int f, .int w1, .int h1])).length) Slot.unset).toArray = ls at hl ⊢
  have hl : lv_has ls 5 [(0, .ref m0), (1, .int f), (2, .int w1), (3, .int h1)] := hl
  have hb32 := ti_hi w1
  have hb33 := ti_hi h1
  obtain ⟨hF, hnu, htg, htn, hso, hsn, hpa, hpn, hru, hr1, hr2⟩ := id hM
  have hso4 := oz_lo hsn
  have hpa4 := oz_lo hpn
  refine lv_iload_n hx hb dX3_form_0 rfl (lv_at hl 1 rfl) ?_
  refine vp_callSi (va_Run.run (va_runS (As := [.int f]) (rest := []) ⟨hx, hb, hml, hown, hts⟩ (mX3_isForm l f) (va_cwS 1 hts (gA (m3 k325 k326 k4) k327) rfl rfl rfl (by decide +kernel) ⟨Nat.le_of_ble_eq_true rfl, Nat.le_of_ble_eq_true rfl⟩) (prT) rfl rfl hl.1 rfl (lv_room (Nat.le_of_ble_eq_true rfl)) dX3_form_1 ⟨Nat.le_of_ble_eq_true rfl, Nat.le_of_ble_eq_true rfl⟩)) (fun r1 hwr1 => ?_)
  try dsimp only at hwr1
  refine lv_if_eq (tgt := 37) hx hb dX3_form_4 (by decide) (fun c2 => ?_) (fun c2 => ?_)
  · replace c2 := (ti_eq rfl (by decide : (0 : Int32).toInt = (0 : Int))).mp c2
    refine lv_iconst (v := (-1)) hx hb dX3_form_37 (by decide) ?_
    refine lv_topi (fun r3 er3 => ?_)
    have hr3 : r3.toInt = (-1 : Int) := by rw [er3]; exact (by decide : (-1 : Int32).toInt = (-1 : Int))
    exact W.iret (v := r3) hx hb hr (fun t9 ht9 hW9 => ⟨⟨r3, (wd, ht, ws), rfl, Or.inl ⟨by omega, rfl, by omega⟩, by rw [ht9]; exact hP, va_K.moved hW9.alike hK, hD⟩, hS.F ht9⟩) hS.2.2 dX3_form_38
  · replace c2 := mt (ti_eq rfl (by decide : (0 : Int32).toInt = (0 : Int))).mpr c2
    refine lv_iload_n hx hb dX3_form_7 rfl (lv_at hl 2 rfl) ?_
    refine lv_iconst (v := 1) hx hb dX3_form_8 (by decide) ?_
    refine lv_icmp_lt (tgt := 37) hx hb dX3_form_9 (by decide) (fun c4 => ?_) (fun c4 => ?_)
    · replace c4 := (ti_lt rfl (by decide : (1 : Int32).toInt = (1 : Int))).mp c4
      refine lv_iconst (v := (-1)) hx hb dX3_form_37 (by decide) ?_
      refine lv_topi (fun r5 er5 => ?_)
      have hr5 : r5.toInt = (-1 : Int) := by rw [er5]; exact (by decide : (-1 : Int32).toInt = (-1 : Int))
      exact W.iret (v := r5) hx hb hr (fun t9 ht9 hW9 => ⟨⟨r5, (wd, ht, ws), rfl, Or.inl ⟨by omega, rfl, by omega⟩, by rw [ht9]; exact hP, va_K.moved hW9.alike hK, hD⟩, hS.F ht9⟩) hS.2.2 dX3_form_38
    · replace c4 := mt (ti_lt rfl (by decide : (1 : Int32).toInt = (1 : Int))).mpr c4
      refine lv_iload_n hx hb dX3_form_12 rfl (lv_at hl 3 rfl) ?_
      refine lv_iconst (v := 1) hx hb dX3_form_13 (by decide) ?_
      refine lv_icmp_lt (tgt := 37) hx hb dX3_form_14 (by decide) (fun c6 => ?_) (fun c6 => ?_)
      · replace c6 := (ti_lt rfl (by decide : (1 : Int32).toInt = (1 : Int))).mp c6
        refine lv_iconst (v := (-1)) hx hb dX3_form_37 (by decide) ?_
        refine lv_topi (fun r7 er7 => ?_)
        have hr7 : r7.toInt = (-1 : Int) := by rw [er7]; exact (by decide : (-1 : Int32).toInt = (-1 : Int))
        exact W.iret (v := r7) hx hb hr (fun t9 ht9 hW9 => ⟨⟨r7, (wd, ht, ws), rfl, Or.inl ⟨by omega, rfl, by omega⟩, by rw [ht9]; exact hP, va_K.moved hW9.alike hK, hD⟩, hS.F ht9⟩) hS.2.2 dX3_form_38
      · replace c6 := mt (ti_lt rfl (by decide : (1 : Int32).toInt = (1 : Int))).mpr c6
        refine lv_iload_n hx hb dX3_form_17 rfl (lv_at hl 2 rfl) ?_
        refine lv_i2l hx hb dX3_form_18 rfl ?_
        refine lv_topl (fun y8 ey8 => ?_)
        have hy8 : y8.toInt = w1.toInt := (tl_i ey8).trans rfl
        refine lv_ldc2 (own := RX3) (v := 15) hx hb hown (hts _ k328) dX3_form_19 ?_
        refine lv_ladd hx hb dX3_form_22 ?_
        refine lv_topl (fun y9 ey9 => ?_)
        have hy9 : y9.toInt = y8.toInt + (15 : Int) := by rw [ey9]; exact tl_add rfl (by decide : (15 : Int64).toInt = (15 : Int)) (by omega) (by omega)
        refine lv_ldc2 (own := RX3) (v := 16) hx hb hown (hts _ k329) dX3_form_23 ?_
        refine lv_ldiv hx hb dX3_form_26 (by decide) ?_
        refine lv_topl (fun y10 ey10 => ?_)
        have hy10 : y10.toInt = y9.toInt / (16 : Int) := by rw [ey10]; exact tl_div rfl (by decide : (16 : Int64).toInt = (16 : Int)) (by omega) (by omega)
        refine lv_iload_n hx hb dX3_form_27 rfl (lv_at hl 3 rfl) ?_
        refine lv_i2l hx hb dX3_form_28 rfl ?_
        refine lv_topl (fun y11 ey11 => ?_)
        have hy11 : y11.toInt = h1.toInt := (tl_i ey11).trans rfl
        have hmb := mul_bd (a := y10.toInt) (b := y11.toInt) (A := 2147483647) (B := 2147483647) (by omega) (by omega) (by omega) (by omega)
        refine lv_lmul hx hb dX3_form_29 ?_
        refine lv_topl (fun y12 ey12 => ?_)
        have hy12 : y12.toInt = y10.toInt * y11.toInt := by rw [ey12]; exact tl_mul rfl rfl (by omega) (by omega)
        refine lv_ldc2 (own := RX3) (v := 4000) hx hb hown (hts _ k330) dX3_form_30 ?_
        refine W.lcmp hx hb dX3_form_33 ?_
        refine lv_topi (fun x13 ex13 => ?_)
        have hx13 := tl_cmp rfl (by decide : (4000 : Int64).toInt = (4000 : Int)) ex13
        refine lv_if_le (tgt := 39) hx hb dX3_form_34 (by decide) (fun c14 => ?_) (fun c14 => ?_)
        · replace c14 := (ti_le rfl (by decide : (0 : Int32).toInt = (0 : Int))).mp c14
          refine lv_aload_n hx hb dX3_form_39 rfl (lv_at hl 0 rfl) ?_
          obtain ⟨t, et⟩ : ∃ t : Nat, f.toInt = (t : Int) := ⟨f.toInt.toNat, by omega⟩
          have h4t : t < 4 := by omega
          obtain ⟨fw_t, fh_t, f1_t, f2_t, f3_t, f6_t, f7_t, fB_t⟩ := hF t h4t
          have frd_t : rN wN t = (wN t + 15) / 16 := rfl
          have hpr : y12.toInt = ((w1.toInt + 15) / 16) * h1.toInt := by rw [hy12]; congr 1; omega
          have hsm := wn_small (w := w1.toInt) (h := h1.toInt) (by omega) (by omega) (by omega)
          refine va_get (D := (dC, dI)) (ci := 3) (v := .ref a1) (C := RX3) (T := TX3) (N := 10) hx hb hts inX3 hown hK hP 0 rfl rfl 0 (by decide) (hts _ k290) (fun _ h9 => h9) rfl dX3_form_40 ?_
          refine lv_iload_n hx hb dX3_form_43 rfl (lv_at hl 1 rfl) ?_
          refine lv_iload_n hx hb dX3_form_44 rfl (lv_at hl 2 rfl) ?_
          refine isK hx hb hK hP hD hS 1 0 rfl rfl (t) (et) (by omega) dX3_form_45 (fun H locs hP hD hS => ?_)
          have hP : va_P (dC, dI) vwCl (w_md m0 a1 a2 a3 a4 a5 a6 cI (upd wd t w1) ht ws bf mk nu tg so pa ru) H := hP
          have hD : va_D A (w_md m0 a1 a2 a3 a4 a5 a6 cI (upd wd t w1) ht ws bf mk nu tg so pa ru) := hD
          refine lv_aload_n hx hb dX3_form_46 rfl (lv_at hl 0 rfl) ?_
          refine va_get (D := (dC, dI)) (ci := 3) (v := .ref a2) (C := RX3) (T := TX3) (N := 10) hx hb hts inX3 hown hK hP 0 rfl rfl 1 (by decide) (hts _ k291) (fun _ h9 => h9) rfl dX3_form_47 ?_
          refine lv_iload_n hx hb dX3_form_50 rfl (lv_at hl 1 rfl) ?_
          refine lv_iload_n hx hb dX3_form_51 rfl (lv_at hl 3 rfl) ?_
          refine isK hx hb hK hP hD hS 2 0 rfl rfl (t) (et) (by omega) dX3_form_52 (fun H locs hP hD hS => ?_)
          have hP : va_P (dC, dI) vwCl (w_md m0 a1 a2 a3 a4 a5 a6 cI (upd wd t w1) (upd ht t h1) ws bf mk nu tg so pa ru) H := hP
          have hD : va_D A (w_md m0 a1 a2 a3 a4 a5 a6 cI (upd wd t w1) (upd ht t h1) ws bf mk nu tg so pa ru) := hD
          refine lv_iconst (v := 0) hx hb dX3_form_53 (by decide) ?_
          refine lv_istore (lv' := [(4, .int (0 : Int32)), (0, .ref m0), (1, .int f), (2, .int w1), (3, .int h1)]) hx hb dX3_form_54 hl (by decide) rfl (fun ls hl => ?_)
          have hws0 : ws = fun j => if 4000 * t ≤ j ∧ j < 4000 * t + 0 then 0 else ws j := by funext j; rw [if_neg (by omega)]
          have hP : va_P (dC, dI) vwCl (w_md m0 a1 a2 a3 a4 a5 a6 cI (upd wd t w1) (upd ht t h1) (fun j => if 4000 * t ≤ j ∧ j < 4000 * t + 0 then 0 else ws j) bf mk nu tg so pa ru) H := by rw [← hws0]; exact hP
          have hD : va_D A (w_md m0 a1 a2 a3 a4 a5 a6 cI (upd wd t w1) (upd ht t h1) (fun j => if 4000 * t ≤ j ∧ j < 4000 * t + 0 then 0 else ws j) bf mk nu tg so pa ru) := by rw [← hws0]; exact hD
          refine lpW (σ := Heap × List Loc × Array Slot × Int32 × Nat) (fun u => match u with | (H, locs, ls, i0, n0) => lv_has ls 5 [(0, .ref m0), (1, .int f), (2, .int w1), (3, .int h1), (4, .int i0)] ∧ va_P (dC, dI) vwCl (w_md m0 a1 a2 a3 a4 a5 a6 cI (upd wd t w1) (upd ht t h1) (fun j => if 4000 * t ≤ j ∧ j < 4000 * t + n0 then 0 else ws j) bf mk nu tg so pa ru) H ∧ va_D A (w_md m0 a1 a2 a3 a4 a5 a6 cI (upd wd t w1) (upd ht t h1) (fun j => if 4000 * t ≤ j ∧ j < 4000 * t + n0 then 0 else ws j) bf mk nu tg so pa ru) ∧ va_S A s.heap H locs ∧ (i0.toInt = (n0 : Int)) ∧ (n0 ≤ 4000)) (fun u => match u with | (H, locs, ls, i0, n0) => 4000 - n0) (fun u : Heap × List Loc × Array Slot × Int32 × Nat => u.1) (fun u : Heap × List Loc × Array Slot × Int32 × Nat => u.2.1) (fun u => F0 m 56 u.2.2.1 []) (fun u hu ih56 => ?_) (H, locs, ls, 0, 0) ⟨lv_sub hl [1, 2, 3, 4, 0] rfl, hP, hD, hS, rfl, Nat.zero_le _⟩
          obtain ⟨H, locs, ls, i0, n0⟩ := u
          obtain ⟨hl, hP, hD, hS, hi0, hn0⟩ := hu
          dsimp only
          refine lv_iload hx hb dX3_form_56 (lv_at hl 4 rfl) ?_
          refine lv_sipush (v := (4000)) hx hb dX3_form_58 (by decide) ?_
          refine lv_icmp_ge (tgt := 84) hx hb dX3_form_61 (by decide) (fun c15 => ?_) (fun c15 => ?_)
          · replace c15 := (ti_le (by decide : (4000 : Int32).toInt = (4000 : Int)) rfl).mp c15
            refine lv_aload_n hx hb dX3_form_84 rfl (lv_at hl 0 rfl) ?_
            refine lv_iload_n hx hb dX3_form_85 rfl (lv_at hl 1 rfl) ?_
            have hn4 : n0 = 4000 := by omega
            subst hn4
            have hM2 := hM.form (t := t) (w1 := w1) (h1 := h1) h4t ⟨by omega, by omega⟩ ⟨by omega, by omega⟩ (by omega)
            refine vp_callSi (va_Run.run (va_runV (As := [.int f]) (rest := []) ⟨hx, hb, hml, hown, hts⟩ (mX3_perRow l f hM2 et h4t) (cwV 1 hts (gA (m4 k331 k333 ksel9 k4) k334) rfl rfl rfl (by decide +kernel) ⟨Nat.le_of_ble_eq_true rfl, Nat.le_of_ble_eq_true rfl⟩) (prRV hP hK hNS rfl (show (w_md m0 a1 a2 a3 a4 a5 a6 cI (upd wd t w1) (upd ht t h1) (fun j => if 4000 * t ≤ j ∧ j < 4000 * t + 4000 then 0 else ws j) bf mk nu tg so pa ru)[0]? = some (m0, .inr (3, [.ref a1, .ref a2, .ref a3, .ref a4, .ref a5, .int tg, .int so, .int pa, .int ru, .ref a6])) from rfl)) rfl rfl hl.1 rfl (lv_room (Nat.le_of_ble_eq_true rfl)) dX3_form_86 ⟨Nat.le_of_ble_eq_true rfl, Nat.le_of_ble_eq_true rfl⟩)) (fun r16 hwr16 => ?_)
            try dsimp only at hwr16
            refine lv_iload_n hx hb dX3_form_89 rfl (lv_at hl 3 rfl) ?_
            have hr9 : r16.toInt = (w1.toInt + 15) / 16 := by rw [hwr16]; unfold rN; rw [va_up_self]; omega
            have hr10 : r16.toInt * h1.toInt = ((w1.toInt + 15) / 16) * h1.toInt := by rw [hr9]
            refine lv_imul hx hb dX3_form_90 ?_
            refine lv_topi (fun x17 ex17 => ?_)
            have hx17 : x17.toInt = r16.toInt * h1.toInt := by rw [ex17]; exact ti_mul rfl rfl (by omega) (by omega)
            exact W.iret (v := x17) hx hb hr (fun t9 ht9 hW9 => ⟨⟨x17, ((upd wd t w1), (upd ht t h1), (fun j => if 4000 * t ≤ j ∧ j < 4000 * t + 4000 then 0 else ws j)), rfl, Or.inr ⟨t, et, h4t, by omega, by omega, by omega, by omega, by omega, by omega, hM2⟩, by rw [ht9]; exact hP, va_K.moved hW9.alike hK, hD⟩, hS.F ht9⟩) hS.2.2 dX3_form_91
          · replace c15 := mt (ti_le (by decide : (4000 : Int32).toInt = (4000 : Int)) rfl).mpr c15
            refine lv_aload_n hx hb dX3_form_64 rfl (lv_at hl 0 rfl) ?_
            refine va_get (D := (dC, dI)) (ci := 3) (v := .ref a3) (C := RX3) (T := TX3) (N := 10) hx hb hts inX3 hown hK hP 0 rfl rfl 2 (by decide) (hts _ k292) (fun _ h9 => h9) rfl dX3_form_65 ?_
            refine lv_sipush (v := (4000)) hx hb dX3_form_68 (by decide) ?_
            refine lv_iload_n hx hb dX3_form_71 rfl (lv_at hl 1 rfl) ?_
            refine lv_imul hx hb dX3_form_72 ?_
            refine lv_topi (fun x18 ex18 => ?_)
            have hx18 : x18.toInt = (4000 : Int) * f.toInt := by rw [ex18]; exact ti_mul (by decide : (4000 : Int32).toInt = (4000 : Int)) rfl (by omega) (by omega)
            refine lv_iload hx hb dX3_form_73 (lv_at hl 4 rfl) ?_
            refine lv_iadd hx hb dX3_form_75 ?_
            refine lv_topi (fun x19 ex19 => ?_)
            have hx19 : x19.toInt = x18.toInt + i0.toInt := by rw [ex19]; exact ti_add rfl rfl (by omega) (by omega)
            refine lv_iconst (v := 0) hx hb dX3_form_76 (by decide) ?_
            refine isK hx hb hK hP hD hS 3 0 rfl rfl (4000 * t + n0) (by omega) (by omega) dX3_form_77 (fun H locs hP hD hS => ?_)
            have hP : va_P (dC, dI) vwCl (w_md m0 a1 a2 a3 a4 a5 a6 cI (upd wd t w1) (upd ht t h1) (upd (fun j => if 4000 * t ≤ j ∧ j < 4000 * t + n0 then 0 else ws j) (4000 * t + n0) (0 : Int32)) bf mk nu tg so pa ru) H := hP
            have hD : va_D A (w_md m0 a1 a2 a3 a4 a5 a6 cI (upd wd t w1) (upd ht t h1) (upd (fun j => if 4000 * t ≤ j ∧ j < 4000 * t + n0 then 0 else ws j) (4000 * t + n0) (0 : Int32)) bf mk nu tg so pa ru) := hD
            obtain ⟨x20, ex20⟩ : ∃ y : Int32, y = i0 + 1 := ⟨_, rfl⟩
            have hx20 : x20.toInt = i0.toInt + 1 := by rw [ex20]; exact ti_add rfl (by decide) (by omega) (by omega)
            refine lv_iinc (v := x20) (lv' := [(4, .int x20), (0, .ref m0), (1, .int f), (2, .int w1), (3, .int h1)]) hx hb dX3_form_78 hl (k := 4) rfl (by rw [ex20]; rfl) (by decide) rfl (fun ls hl => ?_)
            refine lv_goto (tgt := 56) hx hb dX3_form_81 (by decide) ?_
            have hz4 := zero_up ws t n0
            rw [hz4] at hP hD
            exact ih56 (H, locs, ls, x20, n0 + 1) ⟨lv_sub hl [1, 2, 3, 4, 0] rfl, hP, hD, hS, by omega, by omega⟩ (by dsimp only; omega)
        · replace c14 := mt (ti_le rfl (by decide : (0 : Int32).toInt = (0 : Int))).mpr c14
          refine lv_iconst (v := (-1)) hx hb dX3_form_37 (by decide) ?_
          refine lv_topi (fun r21 er21 => ?_)
          have hr21 : r21.toInt = (-1 : Int) := by rw [er21]; exact (by decide : (-1 : Int32).toInt = (-1 : Int))
          have hpr : y12.toInt = ((w1.toInt + 15) / 16) * h1.toInt := by rw [hy12]; congr 1; omega
          exact W.iret (v := r21) hx hb hr (fun t9 ht9 hW9 => ⟨⟨r21, (wd, ht, ws), rfl, Or.inl ⟨by omega, rfl, by omega⟩, by rw [ht9]; exact hP, va_K.moved hW9.alike hK, hD⟩, hS.F ht9⟩) hS.2.2 dX3_form_38
set_option maxHeartbeats 8000000 in
set_option maxRecDepth 100000 in
theorem mX3_put (l : Launch) {dC : Nat → ClassId} {dI : Nat → Nat → Nat} {sz : Nat} {m0 a1 a2 a3 a4 a5 a6 : Nat} {cI : ClassId} {wd ht ws bf mk nu : Nat → Int32} {tg so pa ru : Int32} {wN hN : Nat → Nat} {Bt : Nat → Nat → Nat → Bool} {nz : Nat → Int} {tn : Nat} {sn pn : Option Nat} {rA : Int32} (f : Int32) (i : Int32) (v : Int32) (hM : RM wN hN Bt nz tn sn pn rA wd ht ws nu tg so pa ru) : Met l yX3_put (wM yX3_put cX3_put 7 (some .boolean)) ({ frames := 2, cells := 0, slots := 0, locals := 43 }) (va_Pc [.ref m0, .int f, .int i, .int v] (wP (dC, dI) vwCl (tyM cI) (w_md m0 a1 a2 a3 a4 a5 a6 cI wd ht ws bf mk nu tg so pa ru) sz)) (va_Qi (fun (r : Int32) (u : Nat → Int32) => (r.toInt = 0 ∧ u = ws ∧ ((f.toInt < 0 ∨ 4 ≤ f.toInt) ∨ ∃ t : Nat, f.toInt = (t : Int) ∧ t < 4 ∧ (i.toInt < 0 ∨ ((rN wN t * hN t : Nat) : Int) ≤ i.toInt))) ∨ (∃ t : Nat, f.toInt = (t : Int) ∧ t < 4 ∧ 0 ≤ i.toInt ∧ i.toInt < ((rN wN t * hN t : Nat) : Int) ∧ r.toInt = 1 ∧ RM wN hN (va_up Bt t (putB (rN wN t) i.toInt.toNat v (Bt t))) nz tn sn pn rA wd ht u nu tg so pa ru)) (wB (dC, dI) vwCl (va_A (w_md m0 a1 a2 a3 a4 a5 a6 cI wd ht ws bf mk nu tg so pa ru) sz) (fun u : Nat → Int32 => (tyM cI)) (fun u : Nat → Int32 => (w_md m0 a1 a2 a3 a4 a5 a6 cI wd ht u bf mk nu tg so pa ru))) (va_A (w_md m0 a1 a2 a3 a4 a5 a6 cI wd ht ws bf mk nu tg so pa ru) sz)) 0 0 (va_A (w_md m0 a1 a2 a3 a4 a5 a6 cI wd ht ws bf mk nu tg so pa ru) sz) := by
  refine Met.ofW (cc := cX3_put) (maxL := 7) (ret := (some .boolean)) (by decide +kernel) rfl ?_
  intro p e s m args below meth c s₁ B hml hv
  obtain ⟨rfl, hsz, hP, hK, hD0, hNS⟩ := hv
  have hx := B.exec
  have hb := B.bytes
  have hr := B.returns
  have hts : ∀ w ∈ tblG, w.before _ s = true := fun w h => atoms_spec (ws := wM yX3_put cX3_put 7 (some .boolean)) B.pre w (List.mem_cons_of_mem _ h)
  have hown : s.vm.findClass RX3 = some m.cls := findClass_of_methodNamed B.named
  have hlocks := B.notSynchronized
  subst hsz
  have hD := hD0.self (sz := s.heap.size)
  generalize hAe : va_A (w_md m0 a1 a2 a3 a4 a5 a6 cI wd ht ws bf mk nu tg so pa ru) s.heap.size = A at hD ⊢
  have hA : ∀ q : Nat, s.heap.size ≤ q → A q := fun q h => by rw [← hAe]; exact Or.inr h
  have hS : va_S A s.heap s.heap [] := va_S.rf
  have hP : va_P (dC, dI) vwCl (w_md m0 a1 a2 a3 a4 a5 a6 cI wd ht ws bf mk nu tg so pa ru) s.heap := hP
  have hl := lv_entry ([.ref m0, .int f, .int i, .int v]) (n := 7) (Nat.le_of_ble_eq_true rfl)
  rw [lg_entry_eq]
  generalize (lg_sl ([.ref m0, .int f, .int i, .int v]) ++ List.replicate (7 - (lg_sl ([.ref m0, .int f, .int i, .int v])).length) Slot.unset).toArray = ls at hl ⊢
  have hl : lv_has ls 7 [(0, .ref m0), (1, .int f), (2, .int i), (3, .int v)] := hl
  obtain ⟨hF, hnu, htg, htn, hso, hsn, hpa, hpn, hru, hr1, hr2⟩ := id hM
  have hso4 := oz_lo hsn
  have hpa4 := oz_lo hpn
  refine lv_aload_n hx hb dX3_put_0 rfl (lv_at hl 0 rfl) ?_
  refine lv_iload_n hx hb dX3_put_1 rfl (lv_at hl 1 rfl) ?_
  refine lv_iload_n hx hb dX3_put_2 rfl (lv_at hl 2 rfl) ?_
  refine vp_callSi (va_Run.run (va_runV (As := [.int f, .int i]) (rest := []) ⟨hx, hb, hml, hown, hts⟩ (mX3_isWord l f i hM) (cwV 2 hts (gA (m4 k339 k341 ksel10 k4) k342) rfl rfl rfl (by decide +kernel) ⟨Nat.le_of_ble_eq_true rfl, Nat.le_of_ble_eq_true rfl⟩) (prRV hP hK hNS rfl (show (w_md m0 a1 a2 a3 a4 a5 a6 cI wd ht ws bf mk nu tg so pa ru)[0]? = some (m0, .inr (3, [.ref a1, .ref a2, .ref a3, .ref a4, .ref a5, .int tg, .int so, .int pa, .int ru, .ref a6])) from rfl)) rfl rfl hl.1 rfl (lv_room (Nat.le_of_ble_eq_true rfl)) dX3_put_3 ⟨Nat.le_of_ble_eq_true rfl, Nat.le_of_ble_eq_true rfl⟩)) (fun r1 hwr1 => ?_)
  have h01r1 := or01 hwr1
  refine lv_if_ne (tgt := 11) hx hb dX3_put_6 (by decide) (fun c2 => ?_) (fun c2 => ?_)
  · replace c2 := mt (ti_eq rfl (by decide : (0 : Int32).toInt = (0 : Int))).mpr c2
    refine lv_aload_n hx hb dX3_put_11 rfl (lv_at hl 0 rfl) ?_
    obtain ⟨t, et, h4t, hi1, hi2⟩ := or_l hwr1 (by omega)
    obtain ⟨fw_t, fh_t, f1_t, f2_t, f3_t, f6_t, f7_t, fB_t⟩ := hF t h4t
    have frd_t : rN wN t = (wN t + 15) / 16 := rfl
    refine va_get (D := (dC, dI)) (ci := 3) (v := .ref a1) (C := RX3) (T := TX3) (N := 10) hx hb hts inX3 hown hK hP 0 rfl rfl 0 (by decide) (hts _ k290) (fun _ h9 => h9) rfl dX3_put_12 ?_
    refine lv_iload_n hx hb dX3_put_15 rfl (lv_at hl 1 rfl) ?_
    refine iaK hx hb hK hP 1 0 rfl rfl (t) (et) (by omega) dX3_put_16 ?_
    refine lv_topi (fun x3 ex3 => ?_)
    have hzx3 : x3.toInt = (wN t : Int) := by rw [ex3]; exact fw_t
    refine lv_bipush (v := (16)) hx hb dX3_put_17 (by decide) ?_
    refine lv_iload_n hx hb dX3_put_19 rfl (lv_at hl 2 rfl) ?_
    refine lv_aload_n hx hb dX3_put_20 rfl (lv_at hl 0 rfl) ?_
    refine lv_iload_n hx hb dX3_put_21 rfl (lv_at hl 1 rfl) ?_
    refine vp_callSi (va_Run.run (va_runV (As := [.int f]) (rest := [.int i, .int (16 : Int32), .int x3]) ⟨hx, hb, hml, hown, hts⟩ (mX3_perRow l f hM et h4t) (cwV 1 hts (gA (m4 k331 k333 ksel9 k4) k334) rfl rfl rfl (by decide +kernel) ⟨Nat.le_of_ble_eq_true rfl, Nat.le_of_ble_eq_true rfl⟩) (prRV hP hK hNS rfl (show (w_md m0 a1 a2 a3 a4 a5 a6 cI wd ht ws bf mk nu tg so pa ru)[0]? = some (m0, .inr (3, [.ref a1, .ref a2, .ref a3, .ref a4, .ref a5, .int tg, .int so, .int pa, .int ru, .ref a6])) from rfl)) rfl rfl hl.1 rfl (lv_room (Nat.le_of_ble_eq_true rfl)) dX3_put_22 ⟨Nat.le_of_ble_eq_true rfl, Nat.le_of_ble_eq_true rfl⟩)) (fun r4 hwr4 => ?_)
    try dsimp only at hwr4
    have hdm : i.toInt % r4.toInt < r4.toInt ∧ 0 ≤ i.toInt % r4.toInt := ⟨Int.emod_lt_of_pos _ (by omega), Int.emod_nonneg _ (by omega)⟩
    have hpw := hwr4
    refine lv_irem hx hb dX3_put_25 (fun h9 => absurd ((ti_eq rfl (by decide : (0 : Int32).toInt = (0 : Int))).mp h9) (by omega)) ?_
    refine lv_topi (fun x5 ex5 => ?_)
    have hx5 : x5.toInt = i.toInt % r4.toInt := by rw [ex5]; exact ti_rem rfl rfl (by omega) (by omega)
    refine lv_imul hx hb dX3_put_26 ?_
    refine lv_topi (fun x6 ex6 => ?_)
    have hx6 : x6.toInt = (16 : Int) * x5.toInt := by rw [ex6]; exact ti_mul (by decide : (16 : Int32).toInt = (16 : Int)) rfl (by omega) (by omega)
    refine lv_isub hx hb dX3_put_27 ?_
    refine lv_topi (fun x7 ex7 => ?_)
    have hx7 : x7.toInt = x3.toInt - x6.toInt := by rw [ex7]; exact ti_sub rfl rfl (by omega) (by omega)
    refine lv_istore (lv' := [(4, .int x7), (0, .ref m0), (1, .int f), (2, .int i), (3, .int v)]) hx hb dX3_put_28 hl (by decide) rfl (fun ls hl => ?_)
    refine lv_iload_n hx hb dX3_put_30 rfl (lv_at hl 4 rfl) ?_
    refine lv_ldc (own := RX3) (v := (65535)) hx hb hown (hts _ k343) dX3_put_31 ?_
    refine lv_iand hx hb dX3_put_33 ?_
    refine lv_topi (fun x8 ex8 => ?_)
    refine lv_istore (lv' := [(5, .int x8), (4, .int x7), (0, .ref m0), (1, .int f), (2, .int i), (3, .int v)]) hx hb dX3_put_34 hl (by decide) rfl (fun ls hl => ?_)
    refine lv_iconst (v := 0) hx hb dX3_put_36 (by decide) ?_
    refine lv_istore (lv' := [(6, .int (0 : Int32)), (5, .int x8), (4, .int x7), (0, .ref m0), (1, .int f), (2, .int i), (3, .int v)]) hx hb dX3_put_37 hl (by decide) rfl (fun ls hl => ?_)
    have hL : x7.toInt = (wN t : Int) - 16 * (i.toInt % (rN wN t : Int)) := by rw [← hpw]; omega
    refine lpW (σ := Array Slot × Int32 × Int32 × Nat) (fun u => match u with | (ls, kp, i0, n0) => lv_has ls 7 [(0, .ref m0), (1, .int f), (2, .int i), (3, .int v), (4, .int x7), (5, .int kp), (6, .int i0)] ∧ (i0.toInt = (n0 : Int)) ∧ (n0 ≤ 16) ∧ (∀ j, j < 32 → bt kp j = (bt v j && (decide (j < 16) && !(decide (15 - j < n0) && decide (x7.toInt ≤ 15 - (j : Int))))))) (fun u => match u with | (ls, kp, i0, n0) => 16 - n0) (fun _ => s.heap) (fun _ => []) (fun u => F0 m 39 u.1 []) (fun u hu ih39 => ?_) (ls, x8, 0, 0) ⟨lv_sub hl [3, 4, 5, 6, 2, 1, 0] rfl, rfl, Nat.zero_le _, fun j hj => by rw [ex8, b_and, b_65535]; exact put_s0⟩
    obtain ⟨ls, kp, i0, n0⟩ := u
    obtain ⟨hl, hi0, hn0, hkp⟩ := hu
    dsimp only
    refine lv_iload hx hb dX3_put_39 (lv_at hl 6 rfl) ?_
    refine lv_bipush (v := (16)) hx hb dX3_put_41 (by decide) ?_
    refine lv_icmp_ge (tgt := 76) hx hb dX3_put_43 (by decide) (fun c9 => ?_) (fun c9 => ?_)
    · replace c9 := (ti_le (by decide : (16 : Int32).toInt = (16 : Int)) rfl).mp c9
      refine lv_aload_n hx hb dX3_put_76 rfl (lv_at hl 0 rfl) ?_
      refine va_get (D := (dC, dI)) (ci := 3) (v := .ref a3) (C := RX3) (T := TX3) (N := 10) hx hb hts inX3 hown hK hP 0 rfl rfl 2 (by decide) (hts _ k292) (fun _ h9 => h9) rfl dX3_put_77 ?_
      refine lv_sipush (v := (4000)) hx hb dX3_put_80 (by decide) ?_
      refine lv_iload_n hx hb dX3_put_83 rfl (lv_at hl 1 rfl) ?_
      refine lv_imul hx hb dX3_put_84 ?_
      refine lv_topi (fun x10 ex10 => ?_)
      have hx10 : x10.toInt = (4000 : Int) * f.toInt := by rw [ex10]; exact ti_mul (by decide : (4000 : Int32).toInt = (4000 : Int)) rfl (by omega) (by omega)
      refine lv_iload_n hx hb dX3_put_85 rfl (lv_at hl 2 rfl) ?_
      refine lv_iadd hx hb dX3_put_86 ?_
      refine lv_topi (fun x11 ex11 => ?_)
      have hx11 : x11.toInt = x10.toInt + i.toInt := by rw [ex11]; exact ti_add rfl rfl (by omega) (by omega)
      refine lv_iload hx hb dX3_put_87 (lv_at hl 5 rfl) ?_
      refine isK hx hb hK hP hD hS 3 0 rfl rfl (4000 * t + i.toInt.toNat) (by omega) (by omega) dX3_put_89 (fun H locs hP hD hS => ?_)
      have hP : va_P (dC, dI) vwCl (w_md m0 a1 a2 a3 a4 a5 a6 cI wd ht (upd ws (4000 * t + i.toInt.toNat) kp) bf mk nu tg so pa ru) H := hP
      have hD : va_D A (w_md m0 a1 a2 a3 a4 a5 a6 cI wd ht (upd ws (4000 * t + i.toInt.toNat) kp) bf mk nu tg so pa ru) := hD
      refine lv_iconst (v := 1) hx hb dX3_put_90 (by decide) ?_
      refine lv_topi (fun r12 er12 => ?_)
      have hr12 : r12.toInt = (1 : Int) := by rw [er12]; exact (by decide : (1 : Int32).toInt = (1 : Int))
      have hM2 := hM.put (u := kp) (v := v) h4t (i := i.toInt.toNat) (by omega) (fun j hj => by rw [hkp j hj, Int.toNat_of_nonneg (by omega)]; exact put_s3 (by omega) hL)
      exact W.zret (ty := .boolean) (v := r12) hx hb hr (nar_b (by omega)) (fun t9 ht9 hW9 => ⟨⟨r12, (upd ws (4000 * t + i.toInt.toNat) kp), rfl, Or.inr ⟨t, et, h4t, hi1, hi2, by omega, hM2⟩, by rw [ht9]; exact hP, va_K.moved hW9.alike hK, hD⟩, hS.F ht9⟩) hS.2.2 dX3_put_91
    · replace c9 := mt (ti_le (by decide : (16 : Int32).toInt = (16 : Int)) rfl).mpr c9
      refine lv_iload hx hb dX3_put_46 (lv_at hl 6 rfl) ?_
      refine lv_iload hx hb dX3_put_48 (lv_at hl 4 rfl) ?_
      refine lv_icmp_ge (tgt := 58) hx hb dX3_put_50 (by decide) (fun c13 => ?_) (fun c13 => ?_)
      · replace c13 := (ti_le rfl rfl).mp c13
        refine lv_iload hx hb dX3_put_58 (lv_at hl 5 rfl) ?_
        refine lv_ldc (own := RX3) (v := (32768)) hx hb hown (hts _ k344) dX3_put_60 ?_
        refine lv_iload hx hb dX3_put_62 (lv_at hl 6 rfl) ?_
        refine lv_ishr hx hb dX3_put_64 ?_
        refine lv_topi (fun x14 ex14 => ?_)
        refine lv_iconst (v := (-1)) hx hb dX3_put_65 (by decide) ?_
        refine lv_ixor hx hb dX3_put_66 ?_
        refine lv_topi (fun x15 ex15 => ?_)
        refine lv_iand hx hb dX3_put_67 ?_
        refine lv_topi (fun x16 ex16 => ?_)
        refine lv_istore (lv' := [(5, .int x16), (0, .ref m0), (1, .int f), (2, .int i), (3, .int v), (4, .int x7), (6, .int i0)]) hx hb dX3_put_68 hl (by decide) rfl (fun ls hl => ?_)
        obtain ⟨x17, ex17⟩ : ∃ y : Int32, y = i0 + 1 := ⟨_, rfl⟩
        have hx17 : x17.toInt = i0.toInt + 1 := by rw [ex17]; exact ti_add rfl (by decide) (by omega) (by omega)
        refine lv_iinc (v := x17) (lv' := [(6, .int x17), (5, .int x16), (0, .ref m0), (1, .int f), (2, .int i), (3, .int v), (4, .int x7)]) hx hb dX3_put_70 hl (k := 6) rfl (by rw [ex17]; rfl) (by decide) rfl (fun ls hl => ?_)
        refine lv_goto (tgt := 39) hx hb dX3_put_73 (by decide) ?_
        exact ih39 (ls, x16, x17, n0 + 1) ⟨lv_sub hl [2, 3, 4, 5, 6, 1, 0] rfl, by omega, by omega, fun j hj => by rw [ex16, b_and, ex15, b_not hj, one_bt hi0 (by omega) ex14 hj, hkp j hj]; exact put_s2 (by omega)⟩ (by dsimp only; omega)
      · replace c13 := mt (ti_le rfl rfl).mpr c13
        refine lv_iload hx hb dX3_put_53 (lv_at hl 5 rfl) ?_
        refine lv_goto (tgt := 68) hx hb dX3_put_55 (by decide) ?_
        refine lv_istore (lv' := [(5, .int kp), (0, .ref m0), (1, .int f), (2, .int i), (3, .int v), (4, .int x7), (6, .int i0)]) hx hb dX3_put_68 hl (by decide) rfl (fun ls hl => ?_)
        obtain ⟨x18, ex18⟩ : ∃ y : Int32, y = i0 + 1 := ⟨_, rfl⟩
        have hx18 : x18.toInt = i0.toInt + 1 := by rw [ex18]; exact ti_add rfl (by decide) (by omega) (by omega)
        refine lv_iinc (v := x18) (lv' := [(6, .int x18), (5, .int kp), (0, .ref m0), (1, .int f), (2, .int i), (3, .int v), (4, .int x7)]) hx hb dX3_put_70 hl (k := 6) rfl (by rw [ex18]; rfl) (by decide) rfl (fun ls hl => ?_)
        refine lv_goto (tgt := 39) hx hb dX3_put_73 (by decide) ?_
        exact ih39 (ls, kp, x18, n0 + 1) ⟨lv_sub hl [2, 3, 4, 5, 6, 1, 0] rfl, by omega, by omega, fun j hj => by rw [hkp j hj]; exact put_s1 (by omega)⟩ (by dsimp only; omega)
  · replace c2 := (ti_eq rfl (by decide : (0 : Int32).toInt = (0 : Int))).mp c2
    refine lv_iconst (v := 0) hx hb dX3_put_9 (by decide) ?_
    refine lv_topi (fun r19 er19 => ?_)
    have hr19 : r19.toInt = (0 : Int) := by rw [er19]; exact (by decide : (0 : Int32).toInt = (0 : Int))
    exact W.zret (ty := .boolean) (v := r19) hx hb hr (nar_b (by omega)) (fun t9 ht9 hW9 => ⟨⟨r19, ws, rfl, Or.inl ⟨by omega, rfl, or_r hwr1 (by omega)⟩, by rw [ht9]; exact hP, va_K.moved hW9.alike hK, hD⟩, hS.F ht9⟩) hS.2.2 dX3_put_10
