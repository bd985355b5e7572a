set_option maxHeartbeats 8000000 in
set_option maxRecDepth 100000 in
theorem mX3_copyAll (l : Launch) {dC : Nat → ClassId} {dI : Nat → Nat → Nat} {sz : Nat} {m0 a1 a2 a3 a4 a5 a6 : Nat} {cI : ClassId} {wd ht ws bf mk nu : Nat → Int32} {tg so pa ru : Int32} {wN hN : Nat → Nat} {Bt : Nat → Nat → Nat → Bool} {nz : Nat → Int} {tn : Nat} {sn pn : Option Nat} {rA : Int32} (hM : RM wN hN Bt nz tn sn pn rA wd ht ws nu tg so pa ru) (hmk0 : ∀ i j, 16 ≤ j → bt (mk i) j = false) (hbf0 : ∀ i j, 16 ≤ j → bt (bf i) j = false) (hpp : ∀ q, pn = some q → wN q = 16 ∧ hN q = 16) : Met l yX3_copyAll (wM yX3_copyAll cX3_copyAll 8 (some .int)) ({ frames := 3, cells := 0, slots := 0, locals := 74 }) (va_Pc [.ref m0] (wP (dC, dI) vwCl (tyM cI) (w_md m0 a1 a2 a3 a4 a5 a6 cI wd ht ws bf mk nu tg so pa ru) sz)) (va_Qi (fun (r : Int32) (u : (Nat → Int32) × (Nat → Int32) × (Nat → Int32)) => r.toInt = cnA wN hN nz tn sn ∧ RM wN hN (cpA wN hN nz tn sn pn rA Bt) nz tn sn pn rA wd ht u.1 nu tg so pa ru ∧ (∀ i j, 16 ≤ j → bt (u.2.1 i) j = false) ∧ (∀ i j, 16 ≤ j → bt (u.2.2 i) j = false)) (wB (dC, dI) vwCl (va_A (w_md m0 a1 a2 a3 a4 a5 a6 cI wd ht ws bf mk nu tg so pa ru) sz) (fun u : (Nat → Int32) × (Nat → Int32) × (Nat → Int32) => (tyM cI)) (fun u : (Nat → Int32) × (Nat → Int32) × (Nat → Int32) => (w_md m0 a1 a2 a3 a4 a5 a6 cI wd ht u.1 u.2.1 u.2.2 nu tg so pa ru))) (va_A (w_md m0 a1 a2 a3 a4 a5 a6 cI wd ht ws bf mk nu tg so pa ru) sz)) 0 0 (va_A (w_md m0 a1 a2 a3 a4 a5 a6 cI wd ht ws bf mk nu tg so pa ru) sz) := by
  refine Met.ofW (cc := cX3_copyAll) (maxL := 8) (ret := (some .int)) (by decide +kernel) rfl ?_
  intro p e s m args below meth c s₁ B hml hv
  obtain ⟨rfl, hsz, hP, hK, hD0, hNS⟩ := hv
  have hx := B.exec
  have hb := B.bytes
  have hr := B.returns
  have hts : ∀ w ∈ tblG, w.before _ s = true := fun w h => atoms_spec (ws := wM yX3_copyAll cX3_copyAll 8 (some .int)) B.pre w (List.mem_cons_of_mem _ h)
  have hown : s.vm.findClass RX3 = some m.cls := findClass_of_methodNamed B.named
  have hlocks := B.notSynchronized
  subst hsz
  have hD := hD0.self (sz := s.heap.size)
  generalize hAe : va_A (w_md m0 a1 a2 a3 a4 a5 a6 cI wd ht ws bf mk nu tg so pa ru) s.heap.size = A at hD ⊢
  have hA : ∀ q : Nat, s.heap.size ≤ q → A q := fun q h => by rw [← hAe]; exact Or.inr h
  have hS : va_S A s.heap s.heap [] := va_S.rf
  have hP : va_P (dC, dI) vwCl (w_md m0 a1 a2 a3 a4 a5 a6 cI wd ht ws bf mk nu tg so pa ru) s.heap := hP
  have hl := lv_entry ([.ref m0]) (n := 8) (Nat.le_of_ble_eq_true rfl)
  rw [lg_entry_eq]
  generalize (lg_sl ([.ref m0]) ++ List.replicate (8 - (lg_sl ([.ref m0])).length) Slot.unset).toArray = ls at hl ⊢
  have hl : lv_has ls 8 [(0, .ref m0)] := hl
  obtain ⟨hF, hnu, htg, htn, hso, hsn, hpa, hpn, hru, hr1, hr2⟩ := id hM
  have hso4 := oz_lo hsn
  have hpa4 := oz_lo hpn
  obtain ⟨fw_tn, fh_tn, f1_tn, f2_tn, f3_tn, f6_tn, f7_tn, fB_tn⟩ := hF tn htn
  have frd_tn : rN wN tn = (wN tn + 15) / 16 := rfl
  have n0 := hnu 0 (by decide)
  have n1 := hnu 1 (by decide)
  have n2 := hnu 2 (by decide)
  have n3 := hnu 3 (by decide)
  have n4 := hnu 4 (by decide)
  have n5 := hnu 5 (by decide)
  have n6 := hnu 6 (by decide)
  have n7 := hnu 7 (by decide)
  have n8 := hnu 8 (by decide)
  have n9 := hnu 9 (by decide)
  refine lv_aload_n hx hb dX3_copyAll_0 rfl (lv_at hl 0 rfl) ?_
  refine cW_v (S := (Nat → Int32) × (Nat → Int32)) (va_runV (As := []) (rest := []) ⟨hx, hb, hml, hown, hts⟩ (mX3_keep l hM hmk0 hbf0) (cwV 0 hts (gA (m4 k404 k406 ksel16 k4) k407) rfl rfl rfl (by decide +kernel) ⟨Nat.le_of_ble_eq_true rfl, Nat.le_of_ble_eq_true rfl⟩) (prWV hP hK hNS hD rfl (show (w_md m0 a1 a2 a3 a4 a5 a6 cI wd ht ws bf mk nu tg so pa ru)[0]? = some (m0, .inr (3, [.ref a1, .ref a2, .ref a3, .ref a4, .ref a5, .int tg, .int so, .int pa, .int ru, .ref a6])) from rfl)) rfl rfl hl.1 rfl (lv_room (Nat.le_of_ble_eq_true rfl)) dX3_copyAll_1 ⟨Nat.le_of_ble_eq_true rfl, Nat.le_of_ble_eq_true rfl⟩) hD hS hA (fun r1 H locs hwr1 hP hK hD hS => ?_)
  obtain ⟨bf1, mk1⟩ := r1
  dsimp only at hwr1
  have hP : va_P (dC, dI) vwCl (w_md m0 a1 a2 a3 a4 a5 a6 cI wd ht ws bf1 mk1 nu tg so pa ru) H := hP
  have hD : va_D A (w_md m0 a1 a2 a3 a4 a5 a6 cI wd ht ws bf1 mk1 nu tg so pa ru) := hD
  obtain ⟨hk1, hk2, hk3, hk4⟩ := hwr1
  have hmkR : ∀ q, pn = some q → RF mk1 1 16 16 (Bt q) := fun q hq => pat_rf (hpp q hq) (hM.rf q (hpn q hq)) (hk1 q hq) hk3
  have hbfR : sn = some tn → RF bf1 (rN wN tn) (wN tn) (hN tn) (Bt tn) := fun hq => fB_tn.words hk4 (fun i hi => hk2 (by rw [hq]; rfl) i (by omega))
  refine mrg (α := Array Slot × Int32 × Int32 × Int32 × Int32) (fun q => match q with | (ls, Lv, Tv, Rv, Bv) => lv_has ls 8 [(0, .ref m0), (1, .int Lv), (2, .int Tv), (3, .int Rv), (4, .int Bv)] ∧ nz 0 + Lv.toInt = stA nz 0 (sn.map fun s => (wN s : Int)) ∧ nz 0 + Rv.toInt = enA nz 0 (wN tn) (sn.map fun s => (wN s : Int)) ∧ nz 1 + Tv.toInt = stA nz 1 (sn.map fun s => (hN s : Int)) ∧ nz 1 + Bv.toInt = enA nz 1 (hN tn) (sn.map fun s => (hN s : Int))) (fun q => F0 m 234 q.1 []) (fun q hq => ?_) (fun tl => ?_)
  · obtain ⟨ls, Lv, Tv, Rv, Bv⟩ := q
    obtain ⟨hl, hsx1, hsx2, hsy1, hsy2⟩ := hq
    dsimp only
    clear n2 n3 n6 n7 n8 n9
    have b0x := stA_0 nz 0 (sn.map fun s => (wN s : Int))
    have b0y := stA_0 nz 1 (sn.map fun s => (hN s : Int))
    have bex := enA_le nz 0 (wN tn) (sn.map fun s => (wN s : Int))
    have bey := enA_le nz 1 (hN tn) (sn.map fun s => (hN s : Int))
    have hbs := stA_hi hnu (by decide : 0 < 2) (sn.map fun s => (wN s : Int))
    have hbs2 := stA_hi hnu (by decide : 1 < 2) (sn.map fun s => (hN s : Int))
    have hbe := enA_lo hnu (by decide : 0 < 2) (by omega : (0 : Int) ≤ (wN tn : Int)) (sn.map fun s => (wN s : Int)) (map_nn wN sn)
    have hbe2 := enA_lo hnu (by decide : 1 < 2) (by omega : (0 : Int) ≤ (hN tn : Int)) (sn.map fun s => (hN s : Int)) (map_nn hN sn)
    have hsrc : ∀ s, sn = some s → -(nz 4 - nz 0) ≤ stA nz 0 (sn.map fun s => (wN s : Int)) ∧ enA nz 0 (wN tn) (sn.map fun s => (wN s : Int)) ≤ (wN s : Int) - (nz 4 - nz 0) ∧ -(nz 5 - nz 1) ≤ stA nz 1 (sn.map fun s => (hN s : Int)) ∧ enA nz 1 (hN tn) (sn.map fun s => (hN s : Int)) ≤ (hN s : Int) - (nz 5 - nz 1) := fun s hs => src_bd hs
    generalize hgx : stA nz 0 (sn.map fun s => (wN s : Int)) = sX at *
    generalize hgX : enA nz 0 (wN tn) (sn.map fun s => (wN s : Int)) = eX at *
    generalize hgy : stA nz 1 (sn.map fun s => (hN s : Int)) = sY at *
    generalize hgY : enA nz 1 (hN tn) (sn.map fun s => (hN s : Int)) = eY at *
    obtain ⟨stx, estx⟩ : ∃ z : Nat, (z : Int) = sX := ⟨sX.toNat, by omega⟩
    obtain ⟨sty, esty⟩ : ∃ z : Nat, (z : Int) = sY := ⟨sY.toNat, by omega⟩
    obtain ⟨exN, eexN⟩ : ∃ z : Nat, (z : Int) = max eX (stx : Int) := ⟨(max eX (stx : Int)).toNat, by omega⟩
    obtain ⟨eyN, eeyN⟩ : ∃ z : Nat, (z : Int) = max eY (sty : Int) := ⟨(max eY (sty : Int)).toNat, by omega⟩
    have hxw : exN ≤ max (wN tn) stx := by omega
    have hyw : eyN ≤ max (hN tn) sty := by omega
    obtain ⟨cw, ecw⟩ : ∃ z : Int, z = (exN : Int) - stx := ⟨_, rfl⟩
    refine lv_iconst (v := 0) hx hb dX3_copyAll_234 (by decide) ?_
    refine lv_istore (lv' := [(5, .int (0 : Int32)), (0, .ref m0), (1, .int Lv), (2, .int Tv), (3, .int Rv), (4, .int Bv)]) hx hb dX3_copyAll_235 hl (by decide) rfl (fun ls hl => ?_)
    refine lv_iload_n hx hb dX3_copyAll_237 rfl (lv_at hl 3 rfl) ?_
    refine lv_istore (lv' := [(6, .int Tv), (5, .int (0 : Int32)), (0, .ref m0), (1, .int Lv), (2, .int Tv), (3, .int Rv), (4, .int Bv)]) hx hb dX3_copyAll_238 hl (by decide) rfl (fun ls hl => ?_)
    refine lpW (σ := Heap × List Loc × Array Slot × Int32 × Int32 × Nat × (Nat → Int32)) (fun u => match u with | (H, locs, ls, cn, jv, Y, ws1) => lv_has ls 8 [(0, .ref m0), (1, .int Lv), (2, .int Tv), (3, .int Rv), (4, .int Bv), (5, .int cn), (6, .int jv)] ∧ va_P (dC, dI) vwCl (w_md m0 a1 a2 a3 a4 a5 a6 cI wd ht ws1 bf1 mk1 nu tg so pa ru) H ∧ va_D A (w_md m0 a1 a2 a3 a4 a5 a6 cI wd ht ws1 bf1 mk1 nu tg so pa ru) ∧ va_S A s.heap H locs ∧ (nz 1 + jv.toInt = (Y : Int)) ∧ (sty ≤ Y) ∧ (Y ≤ eyN) ∧ (cn.toInt = ((Y : Int) - sty) * cw) ∧ (RM wN hN (va_up Bt tn (cuB Bt nz tn sn pn rA stx exN sty Y stx)) nz tn sn pn rA wd ht ws1 nu tg so pa ru)) (fun u => match u with | (H, locs, ls, cn, jv, Y, ws1) => eyN - Y) (fun u : Heap × List Loc × Array Slot × Int32 × Int32 × Nat × (Nat → Int32) => u.1) (fun u : Heap × List Loc × Array Slot × Int32 × Int32 × Nat × (Nat → Int32) => u.2.1) (fun u => F0 m 240 u.2.2.1 []) (fun u hu ih240 => ?_) (H, locs, ls, 0, Tv, sty, ws) ⟨lv_sub hl [2, 3, 4, 5, 6, 1, 0] rfl, hP, hD, hS, by omega, Nat.le_refl _, by omega, by rw [Int.sub_self, Int.zero_mul]; rfl, by rw [cu_0]; exact hM⟩
    obtain ⟨H, locs, ls, cn, jv, Y, ws1⟩ := u
    obtain ⟨hl, hP, hD, hS, hY, hY1, hY2, hcn, hM1⟩ := hu
    dsimp only
    refine lv_iload hx hb dX3_copyAll_240 (lv_at hl 6 rfl) ?_
    refine lv_iload hx hb dX3_copyAll_242 (lv_at hl 4 rfl) ?_
    refine lv_icmp_ge (tgt := 311) hx hb dX3_copyAll_244 (by decide) (fun c2 => ?_) (fun c2 => ?_)
    · replace c2 := (ti_le rfl rfl).mp c2
      refine lv_iload hx hb dX3_copyAll_311 (lv_at hl 5 rfl) ?_
      have hYY : Y = eyN := by omega
      subst hYY
      have hres : cn.toInt = cnA wN hN nz tn sn := by unfold cnA; rw [hgx, hgX, hgy, hgY, hcn, Int.mul_comm]; congr 1 <;> omega
      have hMe := hM1; rw [cu_end (wN := wN) (hN := hN) (by rw [hgx]; exact estx) (by rw [hgX]; exact eexN) (by rw [hgy]; exact esty) (by rw [hgY]; exact eeyN)] at hMe
      exact W.iret (v := cn) hx hb hr (fun t9 ht9 hW9 => ⟨⟨cn, (ws1, bf1, mk1), rfl, ⟨hres, hMe, hk4, hk3⟩, by rw [ht9]; exact hP, va_K.moved hW9.alike hK, hD⟩, hS.F ht9⟩) hS.2.2 dX3_copyAll_313
    · replace c2 := mt (ti_le rfl rfl).mpr c2
      refine lv_iload_n hx hb dX3_copyAll_247 rfl (lv_at hl 1 rfl) ?_
      refine lv_istore (lv' := [(7, .int Lv), (0, .ref m0), (1, .int Lv), (2, .int Tv), (3, .int Rv), (4, .int Bv), (5, .int cn), (6, .int jv)]) hx hb dX3_copyAll_248 hl (by decide) rfl (fun ls hl => ?_)
      have hYe : Y < eyN ∧ (eyN : Int) = eY := by omega
      have hcb := mul_bd (a := (Y : Int) - sty) (b := cw) (A := 4000) (B := 64000) (by omega) (by omega) (by omega) (by omega)
      refine lpW (σ := Heap × List Loc × Array Slot × Int32 × Int32 × Nat × (Nat → Int32)) (fun u => match u with | (H, locs, ls, c2, iv, X, ws2) => lv_has ls 8 [(0, .ref m0), (1, .int Lv), (2, .int Tv), (3, .int Rv), (4, .int Bv), (5, .int c2), (6, .int jv), (7, .int iv)] ∧ va_P (dC, dI) vwCl (w_md m0 a1 a2 a3 a4 a5 a6 cI wd ht ws2 bf1 mk1 nu tg so pa ru) H ∧ va_D A (w_md m0 a1 a2 a3 a4 a5 a6 cI wd ht ws2 bf1 mk1 nu tg so pa ru) ∧ va_S A s.heap H locs ∧ (nz 0 + iv.toInt = (X : Int)) ∧ (stx ≤ X) ∧ (X ≤ exN) ∧ (c2.toInt = ((Y : Int) - sty) * cw + ((X : Int) - stx)) ∧ (RM wN hN (va_up Bt tn (cuB Bt nz tn sn pn rA stx exN sty Y X)) nz tn sn pn rA wd ht ws2 nu tg so pa ru)) (fun u => match u with | (H, locs, ls, c2, iv, X, ws2) => exN - X) (fun u : Heap × List Loc × Array Slot × Int32 × Int32 × Nat × (Nat → Int32) => u.1) (fun u : Heap × List Loc × Array Slot × Int32 × Int32 × Nat × (Nat → Int32) => u.2.1) (fun u => F0 m 250 u.2.2.1 []) (fun u hu ih250 => ?_) (H, locs, ls, cn, Lv, stx, ws1) ⟨lv_sub hl [1, 2, 3, 4, 5, 6, 7, 0] rfl, hP, hD, hS, by omega, Nat.le_refl _, by omega, by omega, hM1⟩
      obtain ⟨H, locs, ls, c2, iv, X, ws2⟩ := u
      obtain ⟨hl, hP, hD, hS, hX, hX1, hX2, hc2, hM2⟩ := hu
      dsimp only
      refine lv_iload hx hb dX3_copyAll_250 (lv_at hl 7 rfl) ?_
      refine lv_iload_n hx hb dX3_copyAll_252 rfl (lv_at hl 3 rfl) ?_
      refine lv_icmp_ge (tgt := 305) hx hb dX3_copyAll_253 (by decide) (fun c3 => ?_) (fun c3 => ?_)
      · replace c3 := (ti_le rfl rfl).mp c3
        obtain ⟨x4, ex4⟩ : ∃ y : Int32, y = jv + 1 := ⟨_, rfl⟩
        have hx4 : x4.toInt = jv.toInt + 1 := by rw [ex4]; exact ti_add rfl (by decide) (by omega) (by omega)
        refine lv_iinc (v := x4) (lv' := [(6, .int x4), (0, .ref m0), (1, .int Lv), (2, .int Tv), (3, .int Rv), (4, .int Bv), (5, .int c2), (7, .int iv)]) hx hb dX3_copyAll_305 hl (k := 6) rfl (by rw [ex4]; rfl) (by decide) rfl (fun ls hl => ?_)
        refine lv_goto (tgt := 240) hx hb dX3_copyAll_308 (by decide) ?_
        have hXe : X = exN := by omega
        rw [hXe, cu_row (by omega)] at hM2
        have hrm := row_mul (cw := cw) (show sty ≤ Y by omega)
        exact ih240 (H, locs, ls, c2, x4, Y + 1, ws2) ⟨lv_sub hl [1, 2, 3, 4, 5, 6, 0] rfl, hP, hD, hS, by omega, by omega, by omega, by rw [hrm]; omega, hM2⟩ (by dsimp only; omega)
      · replace c3 := mt (ti_le rfl rfl).mpr c3
        have hXe : X < exN ∧ (exN : Int) = eX := by omega
        refine lv_aload_n hx hb dX3_copyAll_256 rfl (lv_at hl 0 rfl) ?_
        refine lv_aload_n hx hb dX3_copyAll_257 rfl (lv_at hl 0 rfl) ?_
        refine va_get (D := (dC, dI)) (ci := 3) (v := .ref a6) (C := RX3) (T := TX3) (N := 10) hx hb hts inX3 hown hK hP 0 rfl rfl 9 (by decide) (hts _ k299) (fun _ h9 => h9) rfl dX3_copyAll_258 ?_
        refine lv_iconst (v := 0) hx hb dX3_copyAll_261 (by decide) ?_
        refine iaK hx hb hK hP 6 0 rfl rfl (0) (by decide) (by omega) dX3_copyAll_262 ?_
        refine lv_topi (fun x5 ex5 => ?_)
        have hzx5 : x5.toInt = nz 0 := by rw [ex5]; exact (hnu 0 (by decide)).1
        refine lv_iload hx hb dX3_copyAll_263 (lv_at hl 7 rfl) ?_
        refine lv_iadd hx hb dX3_copyAll_265 ?_
        refine lv_topi (fun x6 ex6 => ?_)
        have hx6 : x6.toInt = x5.toInt + iv.toInt := by rw [ex6]; exact ti_add rfl rfl (by omega) (by omega)
        refine lv_aload_n hx hb dX3_copyAll_266 rfl (lv_at hl 0 rfl) ?_
        refine va_get (D := (dC, dI)) (ci := 3) (v := .ref a6) (C := RX3) (T := TX3) (N := 10) hx hb hts inX3 hown hK hP 0 rfl rfl 9 (by decide) (hts _ k299) (fun _ h9 => h9) rfl dX3_copyAll_267 ?_
        refine lv_iconst (v := 1) hx hb dX3_copyAll_270 (by decide) ?_
        refine iaK hx hb hK hP 6 0 rfl rfl (1) (by decide) (by omega) dX3_copyAll_271 ?_
        refine lv_topi (fun x7 ex7 => ?_)
        have hzx7 : x7.toInt = nz 1 := by rw [ex7]; exact (hnu 1 (by decide)).1
        refine lv_iload hx hb dX3_copyAll_272 (lv_at hl 6 rfl) ?_
        refine lv_iadd hx hb dX3_copyAll_274 ?_
        refine lv_topi (fun x8 ex8 => ?_)
        have hx8 : x8.toInt = x7.toInt + jv.toInt := by rw [ex8]; exact ti_add rfl rfl (by omega) (by omega)
        refine lv_aload_n hx hb dX3_copyAll_275 rfl (lv_at hl 0 rfl) ?_
        refine va_get (D := (dC, dI)) (ci := 3) (v := .ref a6) (C := RX3) (T := TX3) (N := 10) hx hb hts inX3 hown hK hP 0 rfl rfl 9 (by decide) (hts _ k299) (fun _ h9 => h9) rfl dX3_copyAll_276 ?_
        refine lv_iconst (v := 4) hx hb dX3_copyAll_279 (by decide) ?_
        refine iaK hx hb hK hP 6 0 rfl rfl (4) (by decide) (by omega) dX3_copyAll_280 ?_
        refine lv_topi (fun x9 ex9 => ?_)
        have hzx9 : x9.toInt = nz 4 := by rw [ex9]; exact (hnu 4 (by decide)).1
        refine lv_iload hx hb dX3_copyAll_281 (lv_at hl 7 rfl) ?_
        refine lv_iadd hx hb dX3_copyAll_283 ?_
        refine lv_topi (fun x10 ex10 => ?_)
        have hx10 : x10.toInt = x9.toInt + iv.toInt := by rw [ex10]; exact ti_add rfl rfl (by omega) (by omega)
        refine lv_aload_n hx hb dX3_copyAll_284 rfl (lv_at hl 0 rfl) ?_
        refine va_get (D := (dC, dI)) (ci := 3) (v := .ref a6) (C := RX3) (T := TX3) (N := 10) hx hb hts inX3 hown hK hP 0 rfl rfl 9 (by decide) (hts _ k299) (fun _ h9 => h9) rfl dX3_copyAll_285 ?_
        refine lv_iconst (v := 5) hx hb dX3_copyAll_288 (by decide) ?_
        refine iaK hx hb hK hP 6 0 rfl rfl (5) (by decide) (by omega) dX3_copyAll_289 ?_
        refine lv_topi (fun x11 ex11 => ?_)
        have hzx11 : x11.toInt = nz 5 := by rw [ex11]; exact (hnu 5 (by decide)).1
        refine lv_iload hx hb dX3_copyAll_290 (lv_at hl 6 rfl) ?_
        refine lv_iadd hx hb dX3_copyAll_292 ?_
        refine lv_topi (fun x12 ex12 => ?_)
        have hx12 : x12.toInt = x11.toInt + jv.toInt := by rw [ex12]; exact ti_add rfl rfl (by omega) (by omega)
        refine cW_v (S := Nat → Int32) (va_runV (As := [.int x6, .int x8, .int x10, .int x12]) (rest := []) ⟨hx, hb, hml, hown, hts⟩ (mX3_copyBit l x6 x8 x10 x12 hM2 (X := X) (Y := Y) (SX := ((X : Int) + (nz 4 - nz 0)).toNat) (SY := ((Y : Int) + (nz 5 - nz 1)).toNat) (B0 := Bt) (by omega) (by omega) (by omega) (by omega) (fun s hs => by have z := hsrc s hs; omega) hbfR (fun s hs hne => va_up_ne _ _ hne) hmkR) (cwV 4 hts (gA (m4 k414 k416 ksel17 k4) k417) rfl rfl rfl (by decide +kernel) ⟨Nat.le_of_ble_eq_true rfl, Nat.le_of_ble_eq_true rfl⟩) (prWV hP hK hNS hD rfl (show (w_md m0 a1 a2 a3 a4 a5 a6 cI wd ht ws2 bf1 mk1 nu tg so pa ru)[0]? = some (m0, .inr (3, [.ref a1, .ref a2, .ref a3, .ref a4, .ref a5, .int tg, .int so, .int pa, .int ru, .ref a6])) from rfl)) rfl rfl hl.1 rfl (lv_room (Nat.le_of_ble_eq_true rfl)) dX3_copyAll_293 ⟨Nat.le_of_ble_eq_true rfl, Nat.le_of_ble_eq_true rfl⟩) hD hS hA (fun r13 H locs hwr13 hP hK hD hS => ?_)
        have hP : va_P (dC, dI) vwCl (w_md m0 a1 a2 a3 a4 a5 a6 cI wd ht r13 bf1 mk1 nu tg so pa ru) H := hP
        have hD : va_D A (w_md m0 a1 a2 a3 a4 a5 a6 cI wd ht r13 bf1 mk1 nu tg so pa ru) := hD
        obtain ⟨x14, ex14⟩ : ∃ y : Int32, y = c2 + 1 := ⟨_, rfl⟩
        have hx14 : x14.toInt = c2.toInt + 1 := by rw [ex14]; exact ti_add rfl (by decide) (by omega) (by omega)
        refine lv_iinc (v := x14) (lv' := [(5, .int x14), (0, .ref m0), (1, .int Lv), (2, .int Tv), (3, .int Rv), (4, .int Bv), (6, .int jv), (7, .int iv)]) hx hb dX3_copyAll_296 hl (k := 5) rfl (by rw [ex14]; rfl) (by decide) rfl (fun ls hl => ?_)
        obtain ⟨x15, ex15⟩ : ∃ y : Int32, y = iv + 1 := ⟨_, rfl⟩
        have hx15 : x15.toInt = iv.toInt + 1 := by rw [ex15]; exact ti_add rfl (by decide) (by omega) (by omega)
        refine lv_iinc (v := x15) (lv' := [(7, .int x15), (5, .int x14), (0, .ref m0), (1, .int Lv), (2, .int Tv), (3, .int Rv), (4, .int Bv), (6, .int jv)]) hx hb dX3_copyAll_299 hl (k := 7) rfl (by rw [ex15]; rfl) (by decide) rfl (fun ls hl => ?_)
        refine lv_goto (tgt := 250) hx hb dX3_copyAll_302 (by decide) ?_
        rw [cu_step (by omega)] at hwr13
        exact ih250 (H, locs, ls, x14, x15, X + 1, r13) ⟨lv_sub hl [2, 3, 4, 5, 6, 1, 7, 0] rfl, hP, hD, hS, by omega, by omega, by omega, by omega, hwr13⟩ (by dsimp only; omega)
  · have hsk : True := trivial
    refine lv_iconst (v := 0) hx hb dX3_copyAll_4 (by decide) ?_
    refine lv_aload_n hx hb dX3_copyAll_5 rfl (lv_at hl 0 rfl) ?_
    refine va_get (D := (dC, dI)) (ci := 3) (v := .ref a6) (C := RX3) (T := TX3) (N := 10) hx hb hts inX3 hown hK hP 0 rfl rfl 9 (by decide) (hts _ k299) (fun _ h9 => h9) rfl dX3_copyAll_6 ?_
    refine lv_bipush (v := (6)) hx hb dX3_copyAll_9 (by decide) ?_
    refine iaK hx hb hK hP 6 0 rfl rfl (6) (by decide) (by omega) dX3_copyAll_11 ?_
    refine lv_topi (fun x16 ex16 => ?_)
    have hzx16 : x16.toInt = nz 6 := by rw [ex16]; exact (hnu 6 (by decide)).1
    refine lv_aload_n hx hb dX3_copyAll_12 rfl (lv_at hl 0 rfl) ?_
    refine va_get (D := (dC, dI)) (ci := 3) (v := .ref a6) (C := RX3) (T := TX3) (N := 10) hx hb hts inX3 hown hK hP 0 rfl rfl 9 (by decide) (hts _ k299) (fun _ h9 => h9) rfl dX3_copyAll_13 ?_
    refine lv_iconst (v := 0) hx hb dX3_copyAll_16 (by decide) ?_
    refine iaK hx hb hK hP 6 0 rfl rfl (0) (by decide) (by omega) dX3_copyAll_17 ?_
    refine lv_topi (fun x17 ex17 => ?_)
    have hzx17 : x17.toInt = nz 0 := by rw [ex17]; exact (hnu 0 (by decide)).1
    refine lv_isub hx hb dX3_copyAll_18 ?_
    refine lv_topi (fun x18 ex18 => ?_)
    have hx18 : x18.toInt = x16.toInt - x17.toInt := by rw [ex18]; exact ti_sub rfl rfl (by omega) (by omega)
    refine lv_aload_n hx hb dX3_copyAll_19 rfl (lv_at hl 0 rfl) ?_
    refine va_get (D := (dC, dI)) (ci := 3) (v := .ref a6) (C := RX3) (T := TX3) (N := 10) hx hb hts inX3 hown hK hP 0 rfl rfl 9 (by decide) (hts _ k299) (fun _ h9 => h9) rfl dX3_copyAll_20 ?_
    refine lv_iconst (v := 0) hx hb dX3_copyAll_23 (by decide) ?_
    refine iaK hx hb hK hP 6 0 rfl rfl (0) (by decide) (by omega) dX3_copyAll_24 ?_
    refine lv_topi (fun x19 ex19 => ?_)
    have hzx19 : x19.toInt = nz 0 := by rw [ex19]; exact (hnu 0 (by decide)).1
    refine lv_ineg hx hb dX3_copyAll_25 ?_
    refine lv_topi (fun x20 ex20 => ?_)
    have hx20 : x20.toInt = -x19.toInt := by rw [ex20]; exact ti_neg rfl (by omega)
    have hk_0 : (0 : Int32).toInt = (0 : Int) := by decide
    refine vp_callSi (va_Run.run (va_runS (As := [.int (0 : Int32), .int x18, .int x20]) (rest := []) ⟨hx, hb, hml, hown, hts⟩ (mX3_greatest l (0 : Int32) x18 x20) (va_cwS 3 hts (gA (m3 k408 k409 k4) k410) rfl rfl rfl (by decide +kernel) ⟨Nat.le_of_ble_eq_true rfl, Nat.le_of_ble_eq_true rfl⟩) (prT) rfl rfl hl.1 rfl (lv_room (Nat.le_of_ble_eq_true rfl)) dX3_copyAll_26 ⟨Nat.le_of_ble_eq_true rfl, Nat.le_of_ble_eq_true rfl⟩)) (fun r21 hwr21 => ?_)
    try dsimp only at hwr21
    refine lv_istore_n (lv' := [(1, .int r21), (0, .ref m0)]) hx hb dX3_copyAll_29 rfl hl (by decide) rfl (fun ls hl => ?_)
    refine lv_iconst (v := 0) hx hb dX3_copyAll_30 (by decide) ?_
    refine lv_aload_n hx hb dX3_copyAll_31 rfl (lv_at hl 1 rfl) ?_
    refine va_get (D := (dC, dI)) (ci := 3) (v := .ref a6) (C := RX3) (T := TX3) (N := 10) hx hb hts inX3 hown hK hP 0 rfl rfl 9 (by decide) (hts _ k299) (fun _ h9 => h9) rfl dX3_copyAll_32 ?_
    refine lv_bipush (v := (7)) hx hb dX3_copyAll_35 (by decide) ?_
    refine iaK hx hb hK hP 6 0 rfl rfl (7) (by decide) (by omega) dX3_copyAll_37 ?_
    refine lv_topi (fun x22 ex22 => ?_)
    have hzx22 : x22.toInt = nz 7 := by rw [ex22]; exact (hnu 7 (by decide)).1
    refine lv_aload_n hx hb dX3_copyAll_38 rfl (lv_at hl 1 rfl) ?_
    refine va_get (D := (dC, dI)) (ci := 3) (v := .ref a6) (C := RX3) (T := TX3) (N := 10) hx hb hts inX3 hown hK hP 0 rfl rfl 9 (by decide) (hts _ k299) (fun _ h9 => h9) rfl dX3_copyAll_39 ?_
    refine lv_iconst (v := 1) hx hb dX3_copyAll_42 (by decide) ?_
    refine iaK hx hb hK hP 6 0 rfl rfl (1) (by decide) (by omega) dX3_copyAll_43 ?_
    refine lv_topi (fun x23 ex23 => ?_)
    have hzx23 : x23.toInt = nz 1 := by rw [ex23]; exact (hnu 1 (by decide)).1
    refine lv_isub hx hb dX3_copyAll_44 ?_
    refine lv_topi (fun x24 ex24 => ?_)
    have hx24 : x24.toInt = x22.toInt - x23.toInt := by rw [ex24]; exact ti_sub rfl rfl (by omega) (by omega)
    refine lv_aload_n hx hb dX3_copyAll_45 rfl (lv_at hl 1 rfl) ?_
    refine va_get (D := (dC, dI)) (ci := 3) (v := .ref a6) (C := RX3) (T := TX3) (N := 10) hx hb hts inX3 hown hK hP 0 rfl rfl 9 (by decide) (hts _ k299) (fun _ h9 => h9) rfl dX3_copyAll_46 ?_
    refine lv_iconst (v := 1) hx hb dX3_copyAll_49 (by decide) ?_
    refine iaK hx hb hK hP 6 0 rfl rfl (1) (by decide) (by omega) dX3_copyAll_50 ?_
    refine lv_topi (fun x25 ex25 => ?_)
    have hzx25 : x25.toInt = nz 1 := by rw [ex25]; exact (hnu 1 (by decide)).1
    refine lv_ineg hx hb dX3_copyAll_51 ?_
    refine lv_topi (fun x26 ex26 => ?_)
    have hx26 : x26.toInt = -x25.toInt := by rw [ex26]; exact ti_neg rfl (by omega)
    have hk_0 : (0 : Int32).toInt = (0 : Int) := by decide
    refine vp_callSi (va_Run.run (va_runS (As := [.int (0 : Int32), .int x24, .int x26]) (rest := []) ⟨hx, hb, hml, hown, hts⟩ (mX3_greatest l (0 : Int32) x24 x26) (va_cwS 3 hts (gA (m3 k408 k409 k4) k410) rfl rfl rfl (by decide +kernel) ⟨Nat.le_of_ble_eq_true rfl, Nat.le_of_ble_eq_true rfl⟩) (prT) rfl rfl hl.1 rfl (lv_room (Nat.le_of_ble_eq_true rfl)) dX3_copyAll_52 ⟨Nat.le_of_ble_eq_true rfl, Nat.le_of_ble_eq_true rfl⟩)) (fun r27 hwr27 => ?_)
    try dsimp only at hwr27
    refine lv_istore_n (lv' := [(2, .int r27), (1, .int r21), (0, .ref m0)]) hx hb dX3_copyAll_55 rfl hl (by decide) rfl (fun ls hl => ?_)
    refine lv_aload_n hx hb dX3_copyAll_56 rfl (lv_at hl 2 rfl) ?_
    refine va_get (D := (dC, dI)) (ci := 3) (v := .ref a6) (C := RX3) (T := TX3) (N := 10) hx hb hts inX3 hown hK hP 0 rfl rfl 9 (by decide) (hts _ k299) (fun _ h9 => h9) rfl dX3_copyAll_57 ?_
    refine lv_iconst (v := 2) hx hb dX3_copyAll_60 (by decide) ?_
    refine iaK hx hb hK hP 6 0 rfl rfl (2) (by decide) (by omega) dX3_copyAll_61 ?_
    refine lv_topi (fun x28 ex28 => ?_)
    have hzx28 : x28.toInt = nz 2 := by rw [ex28]; exact (hnu 2 (by decide)).1
    refine lv_aload_n hx hb dX3_copyAll_62 rfl (lv_at hl 2 rfl) ?_
    refine va_get (D := (dC, dI)) (ci := 3) (v := .ref a6) (C := RX3) (T := TX3) (N := 10) hx hb hts inX3 hown hK hP 0 rfl rfl 9 (by decide) (hts _ k299) (fun _ h9 => h9) rfl dX3_copyAll_63 ?_
    refine lv_bipush (v := (6)) hx hb dX3_copyAll_66 (by decide) ?_
    refine iaK hx hb hK hP 6 0 rfl rfl (6) (by decide) (by omega) dX3_copyAll_68 ?_
    refine lv_topi (fun x29 ex29 => ?_)
    have hzx29 : x29.toInt = nz 6 := by rw [ex29]; exact (hnu 6 (by decide)).1
    refine lv_aload_n hx hb dX3_copyAll_69 rfl (lv_at hl 2 rfl) ?_
    refine va_get (D := (dC, dI)) (ci := 3) (v := .ref a6) (C := RX3) (T := TX3) (N := 10) hx hb hts inX3 hown hK hP 0 rfl rfl 9 (by decide) (hts _ k299) (fun _ h9 => h9) rfl dX3_copyAll_70 ?_
    refine lv_bipush (v := (8)) hx hb dX3_copyAll_73 (by decide) ?_
    refine iaK hx hb hK hP 6 0 rfl rfl (8) (by decide) (by omega) dX3_copyAll_75 ?_
    refine lv_topi (fun x30 ex30 => ?_)
    have hzx30 : x30.toInt = nz 8 := by rw [ex30]; exact (hnu 8 (by decide)).1
    refine lv_iadd hx hb dX3_copyAll_76 ?_
    refine lv_topi (fun x31 ex31 => ?_)
    have hx31 : x31.toInt = x29.toInt + x30.toInt := by rw [ex31]; exact ti_add rfl rfl (by omega) (by omega)
    refine lv_aload_n hx hb dX3_copyAll_77 rfl (lv_at hl 2 rfl) ?_
    refine va_get (D := (dC, dI)) (ci := 3) (v := .ref a6) (C := RX3) (T := TX3) (N := 10) hx hb hts inX3 hown hK hP 0 rfl rfl 9 (by decide) (hts _ k299) (fun _ h9 => h9) rfl dX3_copyAll_78 ?_
    refine lv_iconst (v := 0) hx hb dX3_copyAll_81 (by decide) ?_
    refine iaK hx hb hK hP 6 0 rfl rfl (0) (by decide) (by omega) dX3_copyAll_82 ?_
    refine lv_topi (fun x32 ex32 => ?_)
    have hzx32 : x32.toInt = nz 0 := by rw [ex32]; exact (hnu 0 (by decide)).1
    refine lv_isub hx hb dX3_copyAll_83 ?_
    refine lv_topi (fun x33 ex33 => ?_)
    have hx33 : x33.toInt = x31.toInt - x32.toInt := by rw [ex33]; exact ti_sub rfl rfl (by omega) (by omega)
    refine lv_aload_n hx hb dX3_copyAll_84 rfl (lv_at hl 2 rfl) ?_
    refine va_get (D := (dC, dI)) (ci := 3) (v := .ref a1) (C := RX3) (T := TX3) (N := 10) hx hb hts inX3 hown hK hP 0 rfl rfl 0 (by decide) (hts _ k290) (fun _ h9 => h9) rfl dX3_copyAll_85 ?_
    refine lv_aload_n hx hb dX3_copyAll_88 rfl (lv_at hl 2 rfl) ?_
    refine va_get (D := (dC, dI)) (ci := 3) (v := .int tg) (C := RX3) (T := TX3) (N := 10) hx hb hts inX3 hown hK hP 0 rfl rfl 5 (by decide) (hts _ k295) (fun _ h9 => h9) rfl dX3_copyAll_89 ?_
    refine iaK hx hb hK hP 1 0 rfl rfl (tn) (htg) (by omega) dX3_copyAll_92 ?_
    refine lv_topi (fun x34 ex34 => ?_)
    have hzx34 : x34.toInt = (wN tn : Int) := by rw [ex34]; exact fw_tn
    refine lv_aload_n hx hb dX3_copyAll_93 rfl (lv_at hl 2 rfl) ?_
    refine va_get (D := (dC, dI)) (ci := 3) (v := .ref a6) (C := RX3) (T := TX3) (N := 10) hx hb hts inX3 hown hK hP 0 rfl rfl 9 (by decide) (hts _ k299) (fun _ h9 => h9) rfl dX3_copyAll_94 ?_
    refine lv_iconst (v := 0) hx hb dX3_copyAll_97 (by decide) ?_
    refine iaK hx hb hK hP 6 0 rfl rfl (0) (by decide) (by omega) dX3_copyAll_98 ?_
    refine lv_topi (fun x35 ex35 => ?_)
    have hzx35 : x35.toInt = nz 0 := by rw [ex35]; exact (hnu 0 (by decide)).1
    refine lv_isub hx hb dX3_copyAll_99 ?_
    refine lv_topi (fun x36 ex36 => ?_)
    have hx36 : x36.toInt = x34.toInt - x35.toInt := by rw [ex36]; exact ti_sub rfl rfl (by omega) (by omega)
    refine vp_callSi (va_Run.run (va_runS (As := [.int x28, .int x33, .int x36]) (rest := []) ⟨hx, hb, hml, hown, hts⟩ (mX3_least l x28 x33 x36) (va_cwS 3 hts (gA (m3 k411 k412 k4) k413) rfl rfl rfl (by decide +kernel) ⟨Nat.le_of_ble_eq_true rfl, Nat.le_of_ble_eq_true rfl⟩) (prT) rfl rfl hl.1 rfl (lv_room (Nat.le_of_ble_eq_true rfl)) dX3_copyAll_100 ⟨Nat.le_of_ble_eq_true rfl, Nat.le_of_ble_eq_true rfl⟩)) (fun r37 hwr37 => ?_)
    try dsimp only at hwr37
    refine lv_istore_n (lv' := [(3, .int r37), (2, .int r27), (1, .int r21), (0, .ref m0)]) hx hb dX3_copyAll_103 rfl hl (by decide) rfl (fun ls hl => ?_)
    refine lv_aload_n hx hb dX3_copyAll_104 rfl (lv_at hl 3 rfl) ?_
    refine va_get (D := (dC, dI)) (ci := 3) (v := .ref a6) (C := RX3) (T := TX3) (N := 10) hx hb hts inX3 hown hK hP 0 rfl rfl 9 (by decide) (hts _ k299) (fun _ h9 => h9) rfl dX3_copyAll_105 ?_
    refine lv_iconst (v := 3) hx hb dX3_copyAll_108 (by decide) ?_
    refine iaK hx hb hK hP 6 0 rfl rfl (3) (by decide) (by omega) dX3_copyAll_109 ?_
    refine lv_topi (fun x38 ex38 => ?_)
    have hzx38 : x38.toInt = nz 3 := by rw [ex38]; exact (hnu 3 (by decide)).1
    refine lv_aload_n hx hb dX3_copyAll_110 rfl (lv_at hl 3 rfl) ?_
    refine va_get (D := (dC, dI)) (ci := 3) (v := .ref a6) (C := RX3) (T := TX3) (N := 10) hx hb hts inX3 hown hK hP 0 rfl rfl 9 (by decide) (hts _ k299) (fun _ h9 => h9) rfl dX3_copyAll_111 ?_
    refine lv_bipush (v := (7)) hx hb dX3_copyAll_114 (by decide) ?_
    refine iaK hx hb hK hP 6 0 rfl rfl (7) (by decide) (by omega) dX3_copyAll_116 ?_
    refine lv_topi (fun x39 ex39 => ?_)
    have hzx39 : x39.toInt = nz 7 := by rw [ex39]; exact (hnu 7 (by decide)).1
    refine lv_aload_n hx hb dX3_copyAll_117 rfl (lv_at hl 3 rfl) ?_
    refine va_get (D := (dC, dI)) (ci := 3) (v := .ref a6) (C := RX3) (T := TX3) (N := 10) hx hb hts inX3 hown hK hP 0 rfl rfl 9 (by decide) (hts _ k299) (fun _ h9 => h9) rfl dX3_copyAll_118 ?_
    refine lv_bipush (v := (9)) hx hb dX3_copyAll_121 (by decide) ?_
    refine iaK hx hb hK hP 6 0 rfl rfl (9) (by decide) (by omega) dX3_copyAll_123 ?_
    refine lv_topi (fun x40 ex40 => ?_)
    have hzx40 : x40.toInt = nz 9 := by rw [ex40]; exact (hnu 9 (by decide)).1
    refine lv_iadd hx hb dX3_copyAll_124 ?_
    refine lv_topi (fun x41 ex41 => ?_)
    have hx41 : x41.toInt = x39.toInt + x40.toInt := by rw [ex41]; exact ti_add rfl rfl (by omega) (by omega)
    refine lv_aload_n hx hb dX3_copyAll_125 rfl (lv_at hl 3 rfl) ?_
    refine va_get (D := (dC, dI)) (ci := 3) (v := .ref a6) (C := RX3) (T := TX3) (N := 10) hx hb hts inX3 hown hK hP 0 rfl rfl 9 (by decide) (hts _ k299) (fun _ h9 => h9) rfl dX3_copyAll_126 ?_
    refine lv_iconst (v := 1) hx hb dX3_copyAll_129 (by decide) ?_
    refine iaK hx hb hK hP 6 0 rfl rfl (1) (by decide) (by omega) dX3_copyAll_130 ?_
    refine lv_topi (fun x42 ex42 => ?_)
    have hzx42 : x42.toInt = nz 1 := by rw [ex42]; exact (hnu 1 (by decide)).1
    refine lv_isub hx hb dX3_copyAll_131 ?_
    refine lv_topi (fun x43 ex43 => ?_)
    have hx43 : x43.toInt = x41.toInt - x42.toInt := by rw [ex43]; exact ti_sub rfl rfl (by omega) (by omega)
    refine lv_aload_n hx hb dX3_copyAll_132 rfl (lv_at hl 3 rfl) ?_
    refine va_get (D := (dC, dI)) (ci := 3) (v := .ref a2) (C := RX3) (T := TX3) (N := 10) hx hb hts inX3 hown hK hP 0 rfl rfl 1 (by decide) (hts _ k291) (fun _ h9 => h9) rfl dX3_copyAll_133 ?_
    refine lv_aload_n hx hb dX3_copyAll_136 rfl (lv_at hl 3 rfl) ?_
    refine va_get (D := (dC, dI)) (ci := 3) (v := .int tg) (C := RX3) (T := TX3) (N := 10) hx hb hts inX3 hown hK hP 0 rfl rfl 5 (by decide) (hts _ k295) (fun _ h9 => h9) rfl dX3_copyAll_137 ?_
    refine iaK hx hb hK hP 2 0 rfl rfl (tn) (htg) (by omega) dX3_copyAll_140 ?_
    refine lv_topi (fun x44 ex44 => ?_)
    have hzx44 : x44.toInt = (hN tn : Int) := by rw [ex44]; exact fh_tn
    refine lv_aload_n hx hb dX3_copyAll_141 rfl (lv_at hl 3 rfl) ?_
    refine va_get (D := (dC, dI)) (ci := 3) (v := .ref a6) (C := RX3) (T := TX3) (N := 10) hx hb hts inX3 hown hK hP 0 rfl rfl 9 (by decide) (hts _ k299) (fun _ h9 => h9) rfl dX3_copyAll_142 ?_
    refine lv_iconst (v := 1) hx hb dX3_copyAll_145 (by decide) ?_
    refine iaK hx hb hK hP 6 0 rfl rfl (1) (by decide) (by omega) dX3_copyAll_146 ?_
    refine lv_topi (fun x45 ex45 => ?_)
    have hzx45 : x45.toInt = nz 1 := by rw [ex45]; exact (hnu 1 (by decide)).1
    refine lv_isub hx hb dX3_copyAll_147 ?_
    refine lv_topi (fun x46 ex46 => ?_)
    have hx46 : x46.toInt = x44.toInt - x45.toInt := by rw [ex46]; exact ti_sub rfl rfl (by omega) (by omega)
    refine vp_callSi (va_Run.run (va_runS (As := [.int x38, .int x43, .int x46]) (rest := []) ⟨hx, hb, hml, hown, hts⟩ (mX3_least l x38 x43 x46) (va_cwS 3 hts (gA (m3 k411 k412 k4) k413) rfl rfl rfl (by decide +kernel) ⟨Nat.le_of_ble_eq_true rfl, Nat.le_of_ble_eq_true rfl⟩) (prT) rfl rfl hl.1 rfl (lv_room (Nat.le_of_ble_eq_true rfl)) dX3_copyAll_148 ⟨Nat.le_of_ble_eq_true rfl, Nat.le_of_ble_eq_true rfl⟩)) (fun r47 hwr47 => ?_)
    try dsimp only at hwr47
    refine lv_istore (lv' := [(4, .int r47), (3, .int r37), (2, .int r27), (1, .int r21), (0, .ref m0)]) hx hb dX3_copyAll_151 hl (by decide) rfl (fun ls hl => ?_)
    refine lv_aload_n hx hb dX3_copyAll_153 rfl (lv_at hl 4 rfl) ?_
    refine va_get (D := (dC, dI)) (ci := 3) (v := .int so) (C := RX3) (T := TX3) (N := 10) hx hb hts inX3 hown hK hP 0 rfl rfl 6 (by decide) (hts _ k296) (fun _ h9 => h9) rfl dX3_copyAll_154 ?_
    refine lv_iconst (v := (-1)) hx hb dX3_copyAll_157 (by decide) ?_
    refine lv_icmp_eq (tgt := 234) hx hb dX3_copyAll_158 (by decide) (fun c48 => ?_) (fun c48 => ?_)
    · replace c48 := (ti_eq rfl (by decide : (-1 : Int32).toInt = (-1 : Int))).mp c48
      have hnn := oz_none (o := sn) (by omega)
      have hsx0 := ca_n (nz := nz) (ax := 0) (len := (wN tn : Int)) (L := r21.toInt) (R := r37.toInt) (gr3_cg hwr21 (by first | omega | (simp only [Nat.reduceAdd, Nat.add_zero]; omega)) (by first | omega | (simp only [Nat.reduceAdd, Nat.add_zero]; omega)) (by first | omega | (simp only [Nat.reduceAdd, Nat.add_zero]; omega))) (le3_cg hwr37 (by first | omega | (simp only [Nat.reduceAdd, Nat.add_zero]; omega)) (by first | omega | (simp only [Nat.reduceAdd, Nat.add_zero]; omega)) (by first | omega | (simp only [Nat.reduceAdd, Nat.add_zero]; omega)))
      have hsy0 := ca_n (nz := nz) (ax := 1) (len := (hN tn : Int)) (L := r27.toInt) (R := r47.toInt) (gr3_cg hwr27 (by first | omega | (simp only [Nat.reduceAdd, Nat.add_zero]; omega)) (by first | omega | (simp only [Nat.reduceAdd, Nat.add_zero]; omega)) (by first | omega | (simp only [Nat.reduceAdd, Nat.add_zero]; omega))) (le3_cg hwr47 (by first | omega | (simp only [Nat.reduceAdd, Nat.add_zero]; omega)) (by first | omega | (simp only [Nat.reduceAdd, Nat.add_zero]; omega)) (by first | omega | (simp only [Nat.reduceAdd, Nat.add_zero]; omega)))
      have hmx : (sn.map fun s => (wN s : Int)) = none := by rw [hnn]; rfl
      have hmy : (sn.map fun s => (hN s : Int)) = none := by rw [hnn]; rfl
      rw [← hmx] at hsx0
      rw [← hmy] at hsy0
      exact tl (ls, r21, r27, r37, r47) ⟨lv_sub hl [4, 3, 2, 1, 0] rfl, hsx0.1, hsx0.2, hsy0.1, hsy0.2⟩
    · replace c48 := mt (ti_eq rfl (by decide : (-1 : Int32).toInt = (-1 : Int))).mpr c48
      obtain ⟨sv, hsv, hs8⟩ := oz_some (o := sn) (by omega)
      have hs9 : so.toInt = (sv : Int) := by omega
      have h4s := hsn sv hsv
      obtain ⟨fw_sv, fh_sv, f1_sv, f2_sv, f3_sv, f6_sv, f7_sv, fB_sv⟩ := hF sv h4s
      have frd_sv : rN wN sv = (wN sv + 15) / 16 := rfl
      refine lv_iload_n hx hb dX3_copyAll_161 rfl (lv_at hl 3 rfl) ?_
      refine lv_aload_n hx hb dX3_copyAll_162 rfl (lv_at hl 4 rfl) ?_
      refine va_get (D := (dC, dI)) (ci := 3) (v := .ref a6) (C := RX3) (T := TX3) (N := 10) hx hb hts inX3 hown hK hP 0 rfl rfl 9 (by decide) (hts _ k299) (fun _ h9 => h9) rfl dX3_copyAll_163 ?_
      refine lv_iconst (v := 4) hx hb dX3_copyAll_166 (by decide) ?_
      refine iaK hx hb hK hP 6 0 rfl rfl (4) (by decide) (by omega) dX3_copyAll_167 ?_
      refine lv_topi (fun x49 ex49 => ?_)
      have hzx49 : x49.toInt = nz 4 := by rw [ex49]; exact (hnu 4 (by decide)).1
      refine lv_ineg hx hb dX3_copyAll_168 ?_
      refine lv_topi (fun x50 ex50 => ?_)
      have hx50 : x50.toInt = -x49.toInt := by rw [ex50]; exact ti_neg rfl (by omega)
      refine lv_iload_n hx hb dX3_copyAll_169 rfl (lv_at hl 3 rfl) ?_
      refine vp_callSi (va_Run.run (va_runS (As := [.int r21, .int x50, .int r21]) (rest := []) ⟨hx, hb, hml, hown, hts⟩ (mX3_greatest l r21 x50 r21) (va_cwS 3 hts (gA (m3 k408 k409 k4) k410) rfl rfl rfl (by decide +kernel) ⟨Nat.le_of_ble_eq_true rfl, Nat.le_of_ble_eq_true rfl⟩) (prT) rfl rfl hl.1 rfl (lv_room (Nat.le_of_ble_eq_true rfl)) dX3_copyAll_170 ⟨Nat.le_of_ble_eq_true rfl, Nat.le_of_ble_eq_true rfl⟩)) (fun r51 hwr51 => ?_)
      try dsimp only at hwr51
      refine lv_istore_n (lv' := [(1, .int r51), (4, .int r47), (3, .int r37), (2, .int r27), (0, .ref m0)]) hx hb dX3_copyAll_173 rfl hl (by decide) rfl (fun ls hl => ?_)
      refine lv_iload_n hx hb dX3_copyAll_174 rfl (lv_at hl 3 rfl) ?_
      refine lv_aload_n hx hb dX3_copyAll_175 rfl (lv_at hl 4 rfl) ?_
      refine va_get (D := (dC, dI)) (ci := 3) (v := .ref a6) (C := RX3) (T := TX3) (N := 10) hx hb hts inX3 hown hK hP 0 rfl rfl 9 (by decide) (hts _ k299) (fun _ h9 => h9) rfl dX3_copyAll_176 ?_
      refine lv_iconst (v := 5) hx hb dX3_copyAll_179 (by decide) ?_
      refine iaK hx hb hK hP 6 0 rfl rfl (5) (by decide) (by omega) dX3_copyAll_180 ?_
      refine lv_topi (fun x52 ex52 => ?_)
      have hzx52 : x52.toInt = nz 5 := by rw [ex52]; exact (hnu 5 (by decide)).1
      refine lv_ineg hx hb dX3_copyAll_181 ?_
      refine lv_topi (fun x53 ex53 => ?_)
      have hx53 : x53.toInt = -x52.toInt := by rw [ex53]; exact ti_neg rfl (by omega)
      refine lv_iload_n hx hb dX3_copyAll_182 rfl (lv_at hl 3 rfl) ?_
      refine vp_callSi (va_Run.run (va_runS (As := [.int r27, .int x53, .int r27]) (rest := []) ⟨hx, hb, hml, hown, hts⟩ (mX3_greatest l r27 x53 r27) (va_cwS 3 hts (gA (m3 k408 k409 k4) k410) rfl rfl rfl (by decide +kernel) ⟨Nat.le_of_ble_eq_true rfl, Nat.le_of_ble_eq_true rfl⟩) (prT) rfl rfl hl.1 rfl (lv_room (Nat.le_of_ble_eq_true rfl)) dX3_copyAll_183 ⟨Nat.le_of_ble_eq_true rfl, Nat.le_of_ble_eq_true rfl⟩)) (fun r54 hwr54 => ?_)
      try dsimp only at hwr54
      refine lv_istore_n (lv' := [(2, .int r54), (1, .int r51), (4, .int r47), (3, .int r37), (0, .ref m0)]) hx hb dX3_copyAll_186 rfl hl (by decide) rfl (fun ls hl => ?_)
      refine lv_iload_n hx hb dX3_copyAll_187 rfl (lv_at hl 3 rfl) ?_
      refine lv_aload_n hx hb dX3_copyAll_188 rfl (lv_at hl 4 rfl) ?_
      refine va_get (D := (dC, dI)) (ci := 3) (v := .ref a1) (C := RX3) (T := TX3) (N := 10) hx hb hts inX3 hown hK hP 0 rfl rfl 0 (by decide) (hts _ k290) (fun _ h9 => h9) rfl dX3_copyAll_189 ?_
      refine lv_aload_n hx hb dX3_copyAll_192 rfl (lv_at hl 4 rfl) ?_
      refine va_get (D := (dC, dI)) (ci := 3) (v := .int so) (C := RX3) (T := TX3) (N := 10) hx hb hts inX3 hown hK hP 0 rfl rfl 6 (by decide) (hts _ k296) (fun _ h9 => h9) rfl dX3_copyAll_193 ?_
      refine iaK hx hb hK hP 1 0 rfl rfl (sv) (hs9) (by omega) dX3_copyAll_196 ?_
      refine lv_topi (fun x55 ex55 => ?_)
      have hzx55 : x55.toInt = (wN sv : Int) := by rw [ex55]; exact fw_sv
      refine lv_aload_n hx hb dX3_copyAll_197 rfl (lv_at hl 4 rfl) ?_
      refine va_get (D := (dC, dI)) (ci := 3) (v := .ref a6) (C := RX3) (T := TX3) (N := 10) hx hb hts inX3 hown hK hP 0 rfl rfl 9 (by decide) (hts _ k299) (fun _ h9 => h9) rfl dX3_copyAll_198 ?_
      refine lv_iconst (v := 4) hx hb dX3_copyAll_201 (by decide) ?_
      refine iaK hx hb hK hP 6 0 rfl rfl (4) (by decide) (by omega) dX3_copyAll_202 ?_
      refine lv_topi (fun x56 ex56 => ?_)
      have hzx56 : x56.toInt = nz 4 := by rw [ex56]; exact (hnu 4 (by decide)).1
      refine lv_isub hx hb dX3_copyAll_203 ?_
      refine lv_topi (fun x57 ex57 => ?_)
      have hx57 : x57.toInt = x55.toInt - x56.toInt := by rw [ex57]; exact ti_sub rfl rfl (by omega) (by omega)
      refine lv_iload_n hx hb dX3_copyAll_204 rfl (lv_at hl 3 rfl) ?_
      refine vp_callSi (va_Run.run (va_runS (As := [.int r37, .int x57, .int r37]) (rest := []) ⟨hx, hb, hml, hown, hts⟩ (mX3_least l r37 x57 r37) (va_cwS 3 hts (gA (m3 k411 k412 k4) k413) rfl rfl rfl (by decide +kernel) ⟨Nat.le_of_ble_eq_true rfl, Nat.le_of_ble_eq_true rfl⟩) (prT) rfl rfl hl.1 rfl (lv_room (Nat.le_of_ble_eq_true rfl)) dX3_copyAll_205 ⟨Nat.le_of_ble_eq_true rfl, Nat.le_of_ble_eq_true rfl⟩)) (fun r58 hwr58 => ?_)
      try dsimp only at hwr58
      refine lv_istore_n (lv' := [(3, .int r58), (2, .int r54), (1, .int r51), (4, .int r47), (0, .ref m0)]) hx hb dX3_copyAll_208 rfl hl (by decide) rfl (fun ls hl => ?_)
      refine lv_iload hx hb dX3_copyAll_209 (lv_at hl 3 rfl) ?_
      refine lv_aload_n hx hb dX3_copyAll_211 rfl (lv_at hl 4 rfl) ?_
      refine va_get (D := (dC, dI)) (ci := 3) (v := .ref a2) (C := RX3) (T := TX3) (N := 10) hx hb hts inX3 hown hK hP 0 rfl rfl 1 (by decide) (hts _ k291) (fun _ h9 => h9) rfl dX3_copyAll_212 ?_
      refine lv_aload_n hx hb dX3_copyAll_215 rfl (lv_at hl 4 rfl) ?_
      refine va_get (D := (dC, dI)) (ci := 3) (v := .int so) (C := RX3) (T := TX3) (N := 10) hx hb hts inX3 hown hK hP 0 rfl rfl 6 (by decide) (hts _ k296) (fun _ h9 => h9) rfl dX3_copyAll_216 ?_
      refine iaK hx hb hK hP 2 0 rfl rfl (sv) (hs9) (by omega) dX3_copyAll_219 ?_
      refine lv_topi (fun x59 ex59 => ?_)
      have hzx59 : x59.toInt = (hN sv : Int) := by rw [ex59]; exact fh_sv
      refine lv_aload_n hx hb dX3_copyAll_220 rfl (lv_at hl 4 rfl) ?_
      refine va_get (D := (dC, dI)) (ci := 3) (v := .ref a6) (C := RX3) (T := TX3) (N := 10) hx hb hts inX3 hown hK hP 0 rfl rfl 9 (by decide) (hts _ k299) (fun _ h9 => h9) rfl dX3_copyAll_221 ?_
      refine lv_iconst (v := 5) hx hb dX3_copyAll_224 (by decide) ?_
      refine iaK hx hb hK hP 6 0 rfl rfl (5) (by decide) (by omega) dX3_copyAll_225 ?_
      refine lv_topi (fun x60 ex60 => ?_)
      have hzx60 : x60.toInt = nz 5 := by rw [ex60]; exact (hnu 5 (by decide)).1
      refine lv_isub hx hb dX3_copyAll_226 ?_
      refine lv_topi (fun x61 ex61 => ?_)
      have hx61 : x61.toInt = x59.toInt - x60.toInt := by rw [ex61]; exact ti_sub rfl rfl (by omega) (by omega)
      refine lv_iload hx hb dX3_copyAll_227 (lv_at hl 3 rfl) ?_
      refine vp_callSi (va_Run.run (va_runS (As := [.int r47, .int x61, .int r47]) (rest := []) ⟨hx, hb, hml, hown, hts⟩ (mX3_least l r47 x61 r47) (va_cwS 3 hts (gA (m3 k411 k412 k4) k413) rfl rfl rfl (by decide +kernel) ⟨Nat.le_of_ble_eq_true rfl, Nat.le_of_ble_eq_true rfl⟩) (prT) rfl rfl hl.1 rfl (lv_room (Nat.le_of_ble_eq_true rfl)) dX3_copyAll_229 ⟨Nat.le_of_ble_eq_true rfl, Nat.le_of_ble_eq_true rfl⟩)) (fun r62 hwr62 => ?_)
      try dsimp only at hwr62
      refine lv_istore (lv' := [(4, .int r62), (3, .int r58), (2, .int r54), (1, .int r51), (0, .ref m0)]) hx hb dX3_copyAll_232 hl (by decide) rfl (fun ls hl => ?_)
      have hsx0 := ca_s (nz := nz) (ax := 0) (len := (wN tn : Int)) (S := (wN sv : Int)) (L := r21.toInt) (R := r37.toInt) (L2 := r51.toInt) (R2 := r58.toInt) (gr3_cg hwr21 (by first | omega | (simp only [Nat.reduceAdd, Nat.add_zero]; omega)) (by first | omega | (simp only [Nat.reduceAdd, Nat.add_zero]; omega)) (by first | omega | (simp only [Nat.reduceAdd, Nat.add_zero]; omega))) (le3_cg hwr37 (by first | omega | (simp only [Nat.reduceAdd, Nat.add_zero]; omega)) (by first | omega | (simp only [Nat.reduceAdd, Nat.add_zero]; omega)) (by first | omega | (simp only [Nat.reduceAdd, Nat.add_zero]; omega))) (gr3_cg hwr51 (by first | omega | (simp only [Nat.reduceAdd, Nat.add_zero]; omega)) (by first | omega | (simp only [Nat.reduceAdd, Nat.add_zero]; omega)) (by first | omega | (simp only [Nat.reduceAdd, Nat.add_zero]; omega))) (le3_cg hwr58 (by first | omega | (simp only [Nat.reduceAdd, Nat.add_zero]; omega)) (by first | omega | (simp only [Nat.reduceAdd, Nat.add_zero]; omega)) (by first | omega | (simp only [Nat.reduceAdd, Nat.add_zero]; omega)))
      have hsy0 := ca_s (nz := nz) (ax := 1) (len := (hN tn : Int)) (S := (hN sv : Int)) (L := r27.toInt) (R := r47.toInt) (L2 := r54.toInt) (R2 := r62.toInt) (gr3_cg hwr27 (by first | omega | (simp only [Nat.reduceAdd, Nat.add_zero]; omega)) (by first | omega | (simp only [Nat.reduceAdd, Nat.add_zero]; omega)) (by first | omega | (simp only [Nat.reduceAdd, Nat.add_zero]; omega))) (le3_cg hwr47 (by first | omega | (simp only [Nat.reduceAdd, Nat.add_zero]; omega)) (by first | omega | (simp only [Nat.reduceAdd, Nat.add_zero]; omega)) (by first | omega | (simp only [Nat.reduceAdd, Nat.add_zero]; omega))) (gr3_cg hwr54 (by first | omega | (simp only [Nat.reduceAdd, Nat.add_zero]; omega)) (by first | omega | (simp only [Nat.reduceAdd, Nat.add_zero]; omega)) (by first | omega | (simp only [Nat.reduceAdd, Nat.add_zero]; omega))) (le3_cg hwr62 (by first | omega | (simp only [Nat.reduceAdd, Nat.add_zero]; omega)) (by first | omega | (simp only [Nat.reduceAdd, Nat.add_zero]; omega)) (by first | omega | (simp only [Nat.reduceAdd, Nat.add_zero]; omega)))
      have hmx : (sn.map fun s => (wN s : Int)) = some (wN sv : Int) := by rw [hsv]; rfl
      have hmy : (sn.map fun s => (hN s : Int)) = some (hN sv : Int) := by rw [hsv]; rfl
      rw [← hmx] at hsx0
      rw [← hmy] at hsy0
      exact tl (ls, r51, r54, r58, r62) ⟨lv_sub hl [4, 3, 2, 1, 0] rfl, hsx0.1, hsx0.2, hsy0.1, hsy0.2⟩
