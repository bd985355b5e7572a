set_option maxHeartbeats 8000000 in
set_option maxRecDepth 100000 in
theorem mX2_copyBits (l : Launch) {dC : Nat → ClassId} {dI : Nat → Nat → Nat} {sz : Nat} {h0 qa qn qx qy : Nat} {cI cF : ClassId} {fa ar ln : Nat → Nat} {wd ht rw : Nat → Int32} {g : Nat → Nat → Int32} {nu : Nat → Int32} {X Y : Int32 × Int32 × Int32} {tg : Nat} {so pa : Option Nat} {ru : Int32} {wN hN : Nat → Nat} {Bt : Nat → Nat → Nat → Bool} {nz : Nat → Int} (hR : RC wN hN Bt nz tg so pa ru ln wd ht rw g nu) (hpp : ∀ q, pa = some q → wN q = 16 ∧ hN q = 16) : Met l yX2_copyBits (wM yX2_copyBits cX2_copyBits 5 (some .int)) ({ frames := 4, cells := 0, slots := 0, locals := 98 }) (va_Pc [.ref h0] (wP (dC, dI) vwCl (tyB cI cF) (w_bc h0 qa qn qx qy cI cF fa ar ln wd ht rw g nu X Y tg so pa ru) sz)) (va_Qi (fun (r : Int32) (u : (Int32 × Int32 × Int32) × (Int32 × Int32 × Int32) × (Nat → Nat → Int32)) => r.toInt = cnA wN hN nz tg so ∧ RC wN hN (cpA wN hN nz tg so pa ru Bt) nz tg so pa ru ln wd ht rw u.2.2 nu) (wB (dC, dI) vwCl (va_A (w_bc h0 qa qn qx qy cI cF fa ar ln wd ht rw g nu X Y tg so pa ru) sz) (fun u : (Int32 × Int32 × Int32) × (Int32 × Int32 × Int32) × (Nat → Nat → Int32) => (tyB cI cF)) (fun u : (Int32 × Int32 × Int32) × (Int32 × Int32 × Int32) × (Nat → Nat → Int32) => (w_bc h0 qa qn qx qy cI cF fa ar ln wd ht rw u.2.2 nu u.1 u.2.1 tg so pa ru))) (va_A (w_bc h0 qa qn qx qy cI cF fa ar ln wd ht rw g nu X Y tg so pa ru) sz)) 0 0 (va_A (w_bc h0 qa qn qx qy cI cF fa ar ln wd ht rw g nu X Y tg so pa ru) sz) := by
  refine Met.ofW (cc := cX2_copyBits) (maxL := 5) (ret := (some .int)) (by decide +kernel) rfl ?_
  intro p e s m args below meth c s₁ B hml hv
  obtain ⟨rfl, hsz, hP, hK, hD0, hNS⟩ := hv
  have hx := B.exec
  have hb := B.bytes
  have hr := B.returns
  have hts : ∀ w ∈ tblG, w.before _ s = true := fun w h => atoms_spec (ws := wM yX2_copyBits cX2_copyBits 5 (some .int)) B.pre w (List.mem_cons_of_mem _ h)
  have hown : s.vm.findClass RX2 = some m.cls := findClass_of_methodNamed B.named
  have hlocks := B.notSynchronized
  subst hsz
  have hD := hD0.self (sz := s.heap.size)
  generalize hAe : va_A (w_bc h0 qa qn qx qy cI cF fa ar ln wd ht rw g nu X Y tg so pa ru) s.heap.size = A at hD ⊢
  have hA : ∀ q : Nat, s.heap.size ≤ q → A q := fun q h => by rw [← hAe]; exact Or.inr h
  have hS : va_S A s.heap s.heap [] := va_S.rf
  have hP : va_P (dC, dI) vwCl (w_bc h0 qa qn qx qy cI cF fa ar ln wd ht rw g nu X Y tg so pa ru) s.heap := hP
  have hl := lv_entry ([.ref h0]) (n := 5) (Nat.le_of_ble_eq_true rfl)
  rw [lg_entry_eq]
  generalize (lg_sl ([.ref h0]) ++ List.replicate (5 - (lg_sl ([.ref h0])).length) Slot.unset).toArray = ls at hl ⊢
  have hl : lv_has ls 5 [(0, .ref h0)] := hl
  obtain ⟨hF, hnu, htg, hso, hpa, hr1, hr2⟩ := id hR
  obtain ⟨fw_tg, fh_tg, fr_tg, f1_tg, f2_tg, f3_tg, f4_tg, f5_tg, f6_tg, f7_tg, fB_tg⟩ := hF tg htg
  have frd_tg : rN wN tg = (wN tg + 15) / 16 := rfl
  have n0 := hnu 0 (by decide)
  have n1 := hnu 1 (by decide)
  have n4 := hnu 4 (by decide)
  have n5 := hnu 5 (by decide)
  have b0x := stA_0 nz 0 (so.map fun s => (wN s : Int))
  have b0y := stA_0 nz 1 (so.map fun s => (hN s : Int))
  have bex := enA_le nz 0 (wN tg) (so.map fun s => (wN s : Int))
  have bey := enA_le nz 1 (hN tg) (so.map fun s => (hN s : Int))
  have hpt : pa = some tg → rN wN tg = 1 ∧ hN tg = 16 := fun q => by obtain ⟨q1, q2⟩ := hpp tg q; unfold rN; omega
  refine lv_aload_n hx hb dX2_copyBits_0 rfl (lv_at hl 0 rfl) ?_
  refine lv_aload_n hx hb dX2_copyBits_1 rfl (lv_at hl 0 rfl) ?_
  refine va_get (D := (dC, dI)) (ci := 2) (v := .ref qx) (C := RX2) (T := TX2) (N := 8) hx hb hts inX2 hown hK hP 0 rfl rfl 2 (by decide) (hts _ k62) (fun _ h9 => h9) rfl dX2_copyBits_2 ?_
  refine lv_iconst (v := 0) hx hb dX2_copyBits_5 (by decide) ?_
  have hk_0 : (0 : Int32).toInt = (0 : Int) := by decide
  refine cW_v (S := Int32 × Int32 × Int32) (va_runV (As := [.ref qx, .int (0 : Int32)]) (rest := []) ⟨hx, hb, hml, hown, hts⟩ (mX2_findReach_0 l hR.cs) (cwV 2 hts (gA (m4 k213 k215 ksel2 k1) k216) rfl rfl rfl (by decide +kernel) ⟨Nat.le_of_ble_eq_true rfl, Nat.le_of_ble_eq_true rfl⟩) (prWV hP hK hNS hD rfl (show (w_bc h0 qa qn qx qy cI cF fa ar ln wd ht rw g nu X Y tg so pa ru)[0]? = some (h0, .inr (2, [.ref qa, .ref qn, .ref qx, .ref qy, .ref (fa tg), va_rf (so.map fa), va_rf (pa.map fa), .int ru])) from rfl)) rfl rfl hl.1 rfl (lv_room (Nat.le_of_ble_eq_true rfl)) dX2_copyBits_6 ⟨Nat.le_of_ble_eq_true rfl, Nat.le_of_ble_eq_true rfl⟩) hD hS hA (fun r1 H locs hwr1 hP hK hD hS => ?_)
  obtain ⟨r1a, r1b, r1c⟩ := r1
  dsimp only at hwr1
  have hP : va_P (dC, dI) vwCl (w_bc h0 qa qn qx qy cI cF fa ar ln wd ht rw g nu (r1a, r1b, r1c) Y tg so pa ru) H := hP
  have hD : va_D A (w_bc h0 qa qn qx qy cI cF fa ar ln wd ht rw g nu (r1a, r1b, r1c) Y tg so pa ru) := hD
  refine lv_aload_n hx hb dX2_copyBits_9 rfl (lv_at hl 0 rfl) ?_
  refine lv_aload_n hx hb dX2_copyBits_10 rfl (lv_at hl 0 rfl) ?_
  refine va_get (D := (dC, dI)) (ci := 2) (v := .ref qy) (C := RX2) (T := TX2) (N := 8) hx hb hts inX2 hown hK hP 0 rfl rfl 3 (by decide) (hts _ k63) (fun _ h9 => h9) rfl dX2_copyBits_11 ?_
  refine lv_iconst (v := 1) hx hb dX2_copyBits_14 (by decide) ?_
  have hk_1 : (1 : Int32).toInt = (1 : Int) := by decide
  refine cW_v (S := Int32 × Int32 × Int32) (va_runV (As := [.ref qy, .int (1 : Int32)]) (rest := []) ⟨hx, hb, hml, hown, hts⟩ (mX2_findReach_1 l hR.cs) (cwV 2 hts (gA (m4 k213 k215 ksel2 k1) k216) rfl rfl rfl (by decide +kernel) ⟨Nat.le_of_ble_eq_true rfl, Nat.le_of_ble_eq_true rfl⟩) (prWV hP hK hNS hD rfl (show (w_bc h0 qa qn qx qy cI cF fa ar ln wd ht rw g nu (r1a, r1b, r1c) Y tg so pa ru)[0]? = some (h0, .inr (2, [.ref qa, .ref qn, .ref qx, .ref qy, .ref (fa tg), va_rf (so.map fa), va_rf (pa.map fa), .int ru])) from rfl)) rfl rfl hl.1 rfl (lv_room (Nat.le_of_ble_eq_true rfl)) dX2_copyBits_15 ⟨Nat.le_of_ble_eq_true rfl, Nat.le_of_ble_eq_true rfl⟩) hD hS hA (fun r2 H locs hwr2 hP hK hD hS => ?_)
  obtain ⟨r2a, r2b, r2c⟩ := r2
  dsimp only at hwr2
  have hP : va_P (dC, dI) vwCl (w_bc h0 qa qn qx qy cI cF fa ar ln wd ht rw g nu (r1a, r1b, r1c) (r2a, r2b, r2c) tg so pa ru) H := hP
  have hD : va_D A (w_bc h0 qa qn qx qy cI cF fa ar ln wd ht rw g nu (r1a, r1b, r1c) (r2a, r2b, r2c) tg so pa ru) := hD
  refine lv_aload_n hx hb dX2_copyBits_18 rfl (lv_at hl 0 rfl) ?_
  refine va_get (D := (dC, dI)) (ci := 2) (v := .ref qx) (C := RX2) (T := TX2) (N := 8) hx hb hts inX2 hown hK hP 0 rfl rfl 2 (by decide) (hts _ k62) (fun _ h9 => h9) rfl dX2_copyBits_19 ?_
  have h0x := hwr1.1
  have h1x := hwr1.2.1
  have h2x := hwr1.2.2
  have h0y := hwr2.1
  have h1y := hwr2.2.1
  have h2y := hwr2.2.2
  have hbs := stA_hi hnu (by decide : 0 < 2) (so.map fun s => (wN s : Int))
  have hbs2 := stA_hi hnu (by decide : 1 < 2) (so.map fun s => (hN s : Int))
  have hbe := enA_lo hnu (by decide : 0 < 2) (by omega : (0 : Int) ≤ (wN tg : Int)) (so.map fun s => (wN s : Int)) (map_nn wN so)
  have hbe2 := enA_lo hnu (by decide : 1 < 2) (by omega : (0 : Int) ≤ (hN tg : Int)) (so.map fun s => (hN s : Int)) (map_nn hN so)
  refine vp_callSi (va_Run.run (va_runV (As := []) (rest := []) ⟨hx, hb, hml, hown, hts⟩ (mX1_length l (show (w_bc h0 qa qn qx qy cI cF fa ar ln wd ht rw g nu (r1a, r1b, r1c) (r2a, r2b, r2c) tg so pa ru)[3]? = some (qx, .inr (1, [.int r1a, .int r1b, .int r1c])) from rfl) (by omega) (by omega)) (cwV 0 hts (gA (m4 k231 k232 k233 k3) k234) rfl rfl rfl (by decide +kernel) ⟨Nat.le_of_ble_eq_true rfl, Nat.le_of_ble_eq_true rfl⟩) (prRV hP hK hNS rfl (show (w_bc h0 qa qn qx qy cI cF fa ar ln wd ht rw g nu (r1a, r1b, r1c) (r2a, r2b, r2c) tg so pa ru)[3]? = some (qx, .inr (1, [.int r1a, .int r1b, .int r1c])) from rfl)) rfl rfl hl.1 rfl (lv_room (Nat.le_of_ble_eq_true rfl)) dX2_copyBits_22 ⟨Nat.le_of_ble_eq_true rfl, Nat.le_of_ble_eq_true rfl⟩)) (fun r3 hwr3 => ?_)
  try dsimp only at hwr3
  refine lv_istore_n (lv' := [(1, .int r3), (0, .ref h0)]) hx hb dX2_copyBits_25 rfl hl (by decide) rfl (fun ls hl => ?_)
  refine lv_aload_n hx hb dX2_copyBits_26 rfl (lv_at hl 1 rfl) ?_
  refine va_get (D := (dC, dI)) (ci := 2) (v := .ref qy) (C := RX2) (T := TX2) (N := 8) hx hb hts inX2 hown hK hP 0 rfl rfl 3 (by decide) (hts _ k63) (fun _ h9 => h9) rfl dX2_copyBits_27 ?_
  refine vp_callSi (va_Run.run (va_runV (As := []) (rest := []) ⟨hx, hb, hml, hown, hts⟩ (mX1_length l (show (w_bc h0 qa qn qx qy cI cF fa ar ln wd ht rw g nu (r1a, r1b, r1c) (r2a, r2b, r2c) tg so pa ru)[4]? = some (qy, .inr (1, [.int r2a, .int r2b, .int r2c])) from rfl) (by omega) (by omega)) (cwV 0 hts (gA (m4 k231 k232 k233 k3) k234) rfl rfl rfl (by decide +kernel) ⟨Nat.le_of_ble_eq_true rfl, Nat.le_of_ble_eq_true rfl⟩) (prRV hP hK hNS rfl (show (w_bc h0 qa qn qx qy cI cF fa ar ln wd ht rw g nu (r1a, r1b, r1c) (r2a, r2b, r2c) tg so pa ru)[4]? = some (qy, .inr (1, [.int r2a, .int r2b, .int r2c])) from rfl)) rfl rfl hl.1 rfl (lv_room (Nat.le_of_ble_eq_true rfl)) dX2_copyBits_30 ⟨Nat.le_of_ble_eq_true rfl, Nat.le_of_ble_eq_true rfl⟩)) (fun r4 hwr4 => ?_)
  try dsimp only at hwr4
  refine lv_istore_n (lv' := [(2, .int r4), (1, .int r3), (0, .ref h0)]) hx hb dX2_copyBits_33 rfl hl (by decide) rfl (fun ls hl => ?_)
  refine lv_iload_n hx hb dX2_copyBits_34 rfl (lv_at hl 1 rfl) ?_
  refine lv_if_eq (tgt := 42) hx hb dX2_copyBits_35 (by decide) (fun c5 => ?_) (fun c5 => ?_)
  · replace c5 := (ti_eq rfl (by decide : (0 : Int32).toInt = (0 : Int))).mp c5
    refine lv_iconst (v := 0) hx hb dX2_copyBits_42 (by decide) ?_
    refine lv_topi (fun r6 er6 => ?_)
    have hr6 : r6.toInt = (0 : Int) := by rw [er6]; exact (by decide : (0 : Int32).toInt = (0 : Int))
    have hcz := cn_zero (wN := wN) (hN := hN) (nz := nz) (tg := tg) (so := so) (a := r3.toInt) (b := r4.toInt) (by rw [← h0x, ← h1x]; omega) (by rw [← h0y, ← h1y]; omega) (by omega)
    exact W.iret (v := r6) hx hb hr (fun t9 ht9 hW9 => ⟨⟨r6, ((r1a, r1b, r1c), (r2a, r2b, r2c), g), rfl, ⟨by omega, by rw [cp_none (by omega)]; exact hR⟩, by rw [ht9]; exact hP, va_K.moved hW9.alike hK, hD⟩, hS.F ht9⟩) hS.2.2 dX2_copyBits_43
  · replace c5 := mt (ti_eq rfl (by decide : (0 : Int32).toInt = (0 : Int))).mpr c5
    refine lv_iload_n hx hb dX2_copyBits_38 rfl (lv_at hl 0 rfl) ?_
    refine lv_if_ne (tgt := 44) hx hb dX2_copyBits_39 (by decide) (fun c7 => ?_) (fun c7 => ?_)
    · replace c7 := mt (ti_eq rfl (by decide : (0 : Int32).toInt = (0 : Int))).mpr c7
      obtain ⟨st, est⟩ : ∃ z : Nat, r1a.toInt = (z : Int) := ⟨r1a.toInt.toNat, by omega⟩
      obtain ⟨en, een⟩ : ∃ z : Nat, r1b.toInt = (z : Int) := ⟨r1b.toInt.toNat, by omega⟩
      obtain ⟨sty, esty⟩ : ∃ z : Nat, r2a.toInt = (z : Int) := ⟨r2a.toInt.toNat, by omega⟩
      obtain ⟨eny, eeny⟩ : ∃ z : Nat, r2b.toInt = (z : Int) := ⟨r2b.toInt.toNat, by omega⟩
      have hse : st < en := by omega
      have hsey : sty < eny := by omega
      refine mrg (fun lw : Int32 => (lw.toInt = 1 ∧ r2c.toInt < 0) ∨ (lw.toInt = 0 ∧ 0 ≤ r2c.toInt)) (fun lw => F0 m 59 ls [.int lw]) (fun lw hlw => ?_) (fun tl => ?_)
      · refine lv_istore_n (lv' := [(3, .int lw), (2, .int r4), (1, .int r3), (0, .ref h0)]) hx hb dX2_copyBits_59 rfl hl (by decide) rfl (fun ls hl => ?_)
        refine lv_iconst (v := 0) hx hb dX2_copyBits_60 (by decide) ?_
        refine lv_istore (lv' := [(4, .int (0 : Int32)), (3, .int lw), (2, .int r4), (1, .int r3), (0, .ref h0)]) hx hb dX2_copyBits_61 hl (by decide) rfl (fun ls hl => ?_)
        refine lpW (σ := Heap × List Loc × Array Slot × Int32 × Nat × (Nat → Nat → Int32)) (fun u => match u with | (H, locs, ls, i0, n0, gn) => lv_has ls 5 [(0, .ref h0), (1, .int r3), (2, .int r4), (3, .int lw), (4, .int i0)] ∧ va_P (dC, dI) vwCl (w_bc h0 qa qn qx qy cI cF fa ar ln wd ht rw gn nu (r1a, r1b, r1c) (r2a, r2b, r2c) tg so pa ru) H ∧ va_D A (w_bc h0 qa qn qx qy cI cF fa ar ln wd ht rw gn nu (r1a, r1b, r1c) (r2a, r2b, r2c) tg so pa ru) ∧ va_S A s.heap H locs ∧ (i0.toInt = (n0 : Int)) ∧ (n0 ≤ eny - sty) ∧ (CI g gn tg (rN wN) hN so pa r1c.toInt r2c.toInt ru st en (prr r2c sty eny n0)) ∧ (∀ f, f < 4 → ∀ i j, 16 ≤ j → bt (gn f i) j = false)) (fun u => match u with | (H, locs, ls, i0, n0, gn) => eny - sty - n0) (fun u : Heap × List Loc × Array Slot × Int32 × Nat × (Nat → Nat → Int32) => u.1) (fun u : Heap × List Loc × Array Slot × Int32 × Nat × (Nat → Nat → Int32) => u.2.1) (fun u => F0 m 63 u.2.2.1 []) (fun u hu ih63 => ?_) (H, locs, ls, 0, 0, g) ⟨lv_sub hl [4, 3, 2, 1, 0] rfl, hP, hD, hS, rfl, Nat.zero_le _, CI_0 (fun q hq => by unfold prr at hq; omega), fun f hf => (hF f hf).2.2.2.2.2.2.2.2.2.2.1⟩
        obtain ⟨H, locs, ls, i0, n0, gn⟩ := u
        obtain ⟨hl, hP, hD, hS, hi0, hn0, hCI, hHi⟩ := hu
        dsimp only
        refine lv_iload hx hb dX2_copyBits_63 (lv_at hl 4 rfl) ?_
        refine lv_iload_n hx hb dX2_copyBits_65 rfl (lv_at hl 2 rfl) ?_
        refine lv_icmp_ge (tgt := 108) hx hb dX2_copyBits_66 (by decide) (fun c8 => ?_) (fun c8 => ?_)
        · replace c8 := (ti_le rfl rfl).mp c8
          refine lv_iload_n hx hb dX2_copyBits_108 rfl (lv_at hl 1 rfl) ?_
          refine lv_iload_n hx hb dX2_copyBits_109 rfl (lv_at hl 2 rfl) ?_
          have hmb := mul_bd (a := r3.toInt) (b := r4.toInt) (A := 64000) (B := 4000) (by omega) (by omega) (by omega) (by omega)
          refine lv_imul hx hb dX2_copyBits_110 ?_
          refine lv_topi (fun x9 ex9 => ?_)
          have hx9 : x9.toInt = r3.toInt * r4.toInt := by rw [ex9]; exact ti_mul rfl rfl (by omega) (by omega)
          have hret : x9.toInt = cnA wN hN nz tg so := by rw [hx9]; unfold cnA; rw [← h0x, ← h1x, ← h0y, ← h1y]; congr 1 <;> omega
          exact W.iret (v := x9) hx hb hr (fun t9 ht9 hW9 => ⟨⟨x9, ((r1a, r1b, r1c), (r2a, r2b, r2c), gn), rfl, ⟨hret, cb_done hR hpp hwr1 hwr2 est een esty eeny (by omega) hCI⟩, by rw [ht9]; exact hP, va_K.moved hW9.alike hK, hD⟩, hS.F ht9⟩) hS.2.2 dX2_copyBits_111
        · replace c8 := mt (ti_le rfl rfl).mpr c8
          refine lv_aload_n hx hb dX2_copyBits_69 rfl (lv_at hl 0 rfl) ?_
          refine mrg (fun k : Int32 => (r2c.toInt < 0 → k.toInt = (eny : Int) - 1 - n0) ∧ (0 ≤ r2c.toInt → k.toInt = (sty : Int) + n0)) (fun k => F0 m 99 ls [.int k, .ref h0]) (fun k hk => ?_) (fun tk => ?_)
          · obtain ⟨yn, hyn⟩ : ∃ yn : Nat, k.toInt = (yn : Int) := ⟨k.toInt.toNat, by omega⟩
            have hy1 : sty ≤ yn ∧ yn < eny := by omega
            refine cW_v (S := Nat → Nat → Int32) (va_runV (As := [.int k]) (rest := []) ⟨hx, hb, hml, hown, hts⟩ (mX2_copyRow l k (hR.cs.words hHi) (st := st) (en := en) (yn := yn) est een hse (by omega) hyn (by omega) (by dsimp only; omega) (by dsimp only; omega) hpp) (cwV 1 hts (gA (m4 k235 k237 ksel3 k1) k238) rfl rfl rfl (by decide +kernel) ⟨Nat.le_of_ble_eq_true rfl, Nat.le_of_ble_eq_true rfl⟩) (prWV hP hK hNS hD rfl (show (w_bc h0 qa qn qx qy cI cF fa ar ln wd ht rw gn nu (r1a, r1b, r1c) (r2a, r2b, r2c) tg so pa ru)[0]? = some (h0, .inr (2, [.ref qa, .ref qn, .ref qx, .ref qy, .ref (fa tg), va_rf (so.map fa), va_rf (pa.map fa), .int ru])) from rfl)) rfl rfl hl.1 rfl (lv_room (Nat.le_of_ble_eq_true rfl)) dX2_copyBits_99 ⟨Nat.le_of_ble_eq_true rfl, Nat.le_of_ble_eq_true rfl⟩) hD hS hA (fun r10 H locs hwr10 hP hK hD hS => ?_)
            have hP : va_P (dC, dI) vwCl (w_bc h0 qa qn qx qy cI cF fa ar ln wd ht rw r10 nu (r1a, r1b, r1c) (r2a, r2b, r2c) tg so pa ru) H := hP
            have hD : va_D A (w_bc h0 qa qn qx qy cI cF fa ar ln wd ht rw r10 nu (r1a, r1b, r1c) (r2a, r2b, r2c) tg so pa ru) := hD
            have hrow := hwr10
            have hCI2 := rows_step hCI hrow.1 hse (by omega) hy1.1 hy1.2 ⟨fun q => by have := hk.1 q; omega, fun q => by have := hk.2 q; omega⟩ hpt
            obtain ⟨x11, ex11⟩ : ∃ y : Int32, y = i0 + 1 := ⟨_, rfl⟩
            have hx11 : x11.toInt = i0.toInt + 1 := by rw [ex11]; exact ti_add rfl (by decide) (by omega) (by omega)
            refine lv_iinc (v := x11) (lv' := [(4, .int x11), (0, .ref h0), (1, .int r3), (2, .int r4), (3, .int lw)]) hx hb dX2_copyBits_102 hl (k := 4) rfl (by rw [ex11]; rfl) (by decide) rfl (fun ls hl => ?_)
            refine lv_goto (tgt := 63) hx hb dX2_copyBits_105 (by decide) ?_
            exact ih63 (H, locs, ls, x11, n0 + 1, r10) ⟨lv_sub hl [1, 2, 3, 4, 0] rfl, hP, hD, hS, by omega, by omega, hCI2, hrow.2⟩ (by dsimp only; omega)
          · refine lv_iload_n hx hb dX2_copyBits_70 rfl (lv_at hl 3 rfl) ?_
            refine lv_if_eq (tgt := 89) hx hb dX2_copyBits_71 (by decide) (fun c12 => ?_) (fun c12 => ?_)
            · replace c12 := (ti_eq rfl (by decide : (0 : Int32).toInt = (0 : Int))).mp c12
              refine lv_aload_n hx hb dX2_copyBits_89 rfl (lv_at hl 0 rfl) ?_
              refine va_get (D := (dC, dI)) (ci := 2) (v := .ref qy) (C := RX2) (T := TX2) (N := 8) hx hb hts inX2 hown hK hP 0 rfl rfl 3 (by decide) (hts _ k63) (fun _ h9 => h9) rfl dX2_copyBits_90 ?_
              refine va_getN (D := (dC, dI)) (ci := 1) (v := .int r2a) (C := RX1) (T := TX1) (N := 3) hx hb hts inX1 hown hK hP 4 rfl rfl 0 (by decide) (va_Nw.use rfl (hNS.2.2.2.2.2.1)) (fun _ h9 => h9) rfl dX2_copyBits_93 ?_
              refine lv_iload hx hb dX2_copyBits_96 (lv_at hl 4 rfl) ?_
              refine lv_iadd hx hb dX2_copyBits_98 ?_
              refine lv_topi (fun x13 ex13 => ?_)
              have hx13 : x13.toInt = r2a.toInt + i0.toInt := by rw [ex13]; exact ti_add rfl rfl (by omega) (by omega)
              exact tk _ ⟨fun q => by omega, fun q => by omega⟩
            · replace c12 := mt (ti_eq rfl (by decide : (0 : Int32).toInt = (0 : Int))).mpr c12
              refine lv_aload_n hx hb dX2_copyBits_74 rfl (lv_at hl 0 rfl) ?_
              refine va_get (D := (dC, dI)) (ci := 2) (v := .ref qy) (C := RX2) (T := TX2) (N := 8) hx hb hts inX2 hown hK hP 0 rfl rfl 3 (by decide) (hts _ k63) (fun _ h9 => h9) rfl dX2_copyBits_75 ?_
              refine va_getN (D := (dC, dI)) (ci := 1) (v := .int r2b) (C := RX1) (T := TX1) (N := 3) hx hb hts inX1 hown hK hP 4 rfl rfl 1 (by decide) (va_Nw.use rfl (hNS.2.2.2.2.2.2.1)) (fun _ h9 => h9) rfl dX2_copyBits_78 ?_
              refine lv_iconst (v := 1) hx hb dX2_copyBits_81 (by decide) ?_
              refine lv_isub hx hb dX2_copyBits_82 ?_
              refine lv_topi (fun x14 ex14 => ?_)
              have hx14 : x14.toInt = r2b.toInt - (1 : Int) := by rw [ex14]; exact ti_sub rfl (by decide : (1 : Int32).toInt = (1 : Int)) (by omega) (by omega)
              refine lv_iload hx hb dX2_copyBits_83 (lv_at hl 4 rfl) ?_
              refine lv_isub hx hb dX2_copyBits_85 ?_
              refine lv_topi (fun x15 ex15 => ?_)
              have hx15 : x15.toInt = x14.toInt - i0.toInt := by rw [ex15]; exact ti_sub rfl rfl (by omega) (by omega)
              refine lv_goto (tgt := 99) hx hb dX2_copyBits_86 (by decide) ?_
              exact tk _ ⟨fun q => by omega, fun q => by omega⟩
      · refine lv_aload_n hx hb dX2_copyBits_44 rfl (lv_at hl 2 rfl) ?_
        refine va_get (D := (dC, dI)) (ci := 2) (v := .ref qy) (C := RX2) (T := TX2) (N := 8) hx hb hts inX2 hown hK hP 0 rfl rfl 3 (by decide) (hts _ k63) (fun _ h9 => h9) rfl dX2_copyBits_45 ?_
        refine va_getN (D := (dC, dI)) (ci := 1) (v := .int r2c) (C := RX1) (T := TX1) (N := 3) hx hb hts inX1 hown hK hP 4 rfl rfl 2 (by decide) (va_Nw.use rfl (hNS.2.2.2.2.2.2.2.1)) (fun _ h9 => h9) rfl dX2_copyBits_48 ?_
        refine lv_if_ge (tgt := 58) hx hb dX2_copyBits_51 (by decide) (fun c16 => ?_) (fun c16 => ?_)
        · replace c16 := (ti_le (by decide : (0 : Int32).toInt = (0 : Int)) rfl).mp c16
          refine lv_iconst (v := 0) hx hb dX2_copyBits_58 (by decide) ?_
          exact tl _ (Or.inr ⟨by decide, by omega⟩)
        · replace c16 := mt (ti_le (by decide : (0 : Int32).toInt = (0 : Int)) rfl).mpr c16
          refine lv_iconst (v := 1) hx hb dX2_copyBits_54 (by decide) ?_
          refine lv_goto (tgt := 59) hx hb dX2_copyBits_55 (by decide) ?_
          exact tl _ (Or.inl ⟨by decide, by omega⟩)
    · replace c7 := (ti_eq rfl (by decide : (0 : Int32).toInt = (0 : Int))).mp c7
      refine lv_iconst (v := 0) hx hb dX2_copyBits_42 (by decide) ?_
      refine lv_topi (fun r17 er17 => ?_)
      have hr17 : r17.toInt = (0 : Int) := by rw [er17]; exact (by decide : (0 : Int32).toInt = (0 : Int))
      have hcz := cn_zero (wN := wN) (hN := hN) (nz := nz) (tg := tg) (so := so) (a := r3.toInt) (b := r4.toInt) (by rw [← h0x, ← h1x]; omega) (by rw [← h0y, ← h1y]; omega) (by omega)
      exact W.iret (v := r17) hx hb hr (fun t9 ht9 hW9 => ⟨⟨r17, ((r1a, r1b, r1c), (r2a, r2b, r2c), g), rfl, ⟨by omega, by rw [cp_none (by omega)]; exact hR⟩, by rw [ht9]; exact hP, va_K.moved hW9.alike hK, hD⟩, hS.F ht9⟩) hS.2.2 dX2_copyBits_43
