set_option maxHeartbeats 8000000 in
set_option maxRecDepth 100000 in
theorem mX3_keep (l : Launch) {dC : Nat → ClassId} {dI : Nat → Nat → Nat} {sz : Nat} {m0 a1 a2 a3 a4 a5 a6 : Nat} {cI : ClassId} {wd ht ws bf mk nu : Nat → Int32} {tg so pa ru : Int32} {wN hN : Nat → Nat} {Bt : Nat → Nat → Nat → Bool} {nz : Nat → Int} {tn : Nat} {sn pn : Option Nat} {rA : Int32} (hM : RM wN hN Bt nz tn sn pn rA wd ht ws nu tg so pa ru) (hmk0 : ∀ i j, 16 ≤ j → bt (mk i) j = false) (hbf0 : ∀ i j, 16 ≤ j → bt (bf i) j = false) : Met l yX3_keep (wM yX3_keep cX3_keep 2 none) ({ frames := 0, cells := 0, slots := 0, locals := 0 }) (va_Pc [.ref m0] (wP (dC, dI) vwCl (tyM cI) (w_md m0 a1 a2 a3 a4 a5 a6 cI wd ht ws bf mk nu tg so pa ru) sz)) (va_Qv (fun u : (Nat → Int32) × (Nat → Int32) => (∀ q, pn = some q → ∀ j, j < 16 → u.2 j = mw ws q j) ∧ (oz sn = (tn : Int) → ∀ j, j < 4000 → u.1 j = mw ws tn j) ∧ (∀ i j, 16 ≤ j → bt (u.2 i) j = false) ∧ (∀ i j, 16 ≤ j → bt (u.1 i) j = false)) (wB (dC, dI) vwCl (va_A (w_md m0 a1 a2 a3 a4 a5 a6 cI wd ht ws bf mk nu tg so pa ru) sz) (fun u : (Nat → Int32) × (Nat → Int32) => (tyM cI)) (fun u : (Nat → Int32) × (Nat → Int32) => (w_md m0 a1 a2 a3 a4 a5 a6 cI wd ht ws u.1 u.2 nu tg so pa ru))) (va_A (w_md m0 a1 a2 a3 a4 a5 a6 cI wd ht ws bf mk nu tg so pa ru) sz)) 0 0 (va_A (w_md m0 a1 a2 a3 a4 a5 a6 cI wd ht ws bf mk nu tg so pa ru) sz) := by
  refine Met.ofW (cc := cX3_keep) (maxL := 2) (ret := none) (by decide +kernel) rfl ?_
  intro p e s m args below meth c s₁ B hml hv
  obtain ⟨rfl, hsz, hP, hK, hD0, hNS⟩ := hv
  have hx := B.exec
  have hb := B.bytes
  have hr := B.returns
  have hts : ∀ w ∈ tblG, w.before _ s = true := fun w h => atoms_spec (ws := wM yX3_keep cX3_keep 2 none) B.pre w (List.mem_cons_of_mem _ h)
  have hown : s.vm.findClass RX3 = some m.cls := findClass_of_methodNamed B.named
  have hlocks := B.notSynchronized
  subst hsz
  have hD := hD0.self (sz := s.heap.size)
  generalize hAe : va_A (w_md m0 a1 a2 a3 a4 a5 a6 cI wd ht ws bf mk nu tg so pa ru) s.heap.size = A at hD ⊢
  have hA : ∀ q : Nat, s.heap.size ≤ q → A q := fun q h => by rw [← hAe]; exact Or.inr h
  have hS : va_S A s.heap s.heap [] := va_S.rf
  have hP : va_P (dC, dI) vwCl (w_md m0 a1 a2 a3 a4 a5 a6 cI wd ht ws bf mk nu tg so pa ru) s.heap := hP
  have hl := lv_entry ([.ref m0]) (n := 2) (Nat.le_of_ble_eq_true rfl)
  rw [lg_entry_eq]
  generalize (lg_sl ([.ref m0]) ++ List.replicate (2 - (lg_sl ([.ref m0])).length) Slot.unset).toArray = ls at hl ⊢
  have hl : lv_has ls 2 [(0, .ref m0)] := hl
  obtain ⟨hF, hnu, htg, htn, hso, hsn, hpa, hpn, hru, hr1, hr2⟩ := id hM
  have hso4 := oz_lo hsn
  have hpa4 := oz_lo hpn
  have hws := mw_hi hM.rf
  refine lv_iconst (v := 0) hx hb dX3_keep_0 (by decide) ?_
  refine lv_istore_n (lv' := [(1, .int (0 : Int32)), (0, .ref m0)]) hx hb dX3_keep_1 rfl hl (by decide) rfl (fun ls hl => ?_)
  refine lpW (σ := Heap × List Loc × Array Slot × Int32 × Nat × (Nat → Int32)) (fun u => match u with | (H, locs, ls, i0, n0, mkn) => lv_has ls 2 [(0, .ref m0), (1, .int i0)] ∧ va_P (dC, dI) vwCl (w_md m0 a1 a2 a3 a4 a5 a6 cI wd ht ws bf mkn nu tg so pa ru) H ∧ va_D A (w_md m0 a1 a2 a3 a4 a5 a6 cI wd ht ws bf mkn nu tg so pa ru) ∧ va_S A s.heap H locs ∧ (i0.toInt = (n0 : Int)) ∧ (n0 ≤ 16) ∧ (∀ q, pn = some q → ∀ j, j < n0 → mkn j = mw ws q j) ∧ (∀ i j, 16 ≤ j → bt (mkn i) j = false)) (fun u => match u with | (H, locs, ls, i0, n0, mkn) => 16 - n0) (fun u : Heap × List Loc × Array Slot × Int32 × Nat × (Nat → Int32) => u.1) (fun u : Heap × List Loc × Array Slot × Int32 × Nat × (Nat → Int32) => u.2.1) (fun u => F0 m 2 u.2.2.1 []) (fun u hu ih2 => ?_) (s.heap, [], ls, 0, 0, mk) ⟨lv_sub hl [1, 0] rfl, hP, hD, hS, rfl, Nat.zero_le _, fun q _ j hj => absurd hj (Nat.not_lt_zero j), hmk0⟩
  obtain ⟨H, locs, ls, i0, n0, mkn⟩ := u
  obtain ⟨hl, hP, hD, hS, hi0, hn0, hmk, hmh⟩ := hu
  dsimp only
  refine lv_iload_n hx hb dX3_keep_2 rfl (lv_at hl 1 rfl) ?_
  refine lv_bipush (v := (16)) hx hb dX3_keep_3 (by decide) ?_
  refine lv_icmp_ge (tgt := 43) hx hb dX3_keep_5 (by decide) (fun c1 => ?_) (fun c1 => ?_)
  · replace c1 := (ti_le (by decide : (16 : Int32).toInt = (16 : Int)) rfl).mp c1
    have hmkA : ∀ q, pn = some q → ∀ j, j < 16 → mkn j = mw ws q j := fun q hq j hj => by
      first | exact hmk q hq j (by omega) | (exfalso; rw [hq] at hpa; unfold oz at hpa; dsimp only at hpa; omega)
    refine lv_iconst (v := 0) hx hb dX3_keep_43 (by decide) ?_
    refine lv_istore_n (lv' := [(1, .int (0 : Int32)), (0, .ref m0)]) hx hb dX3_keep_44 rfl hl (by decide) rfl (fun ls hl => ?_)
    refine lpW (σ := Heap × List Loc × Array Slot × Int32 × Nat × (Nat → Int32)) (fun u => match u with | (H, locs, ls, i1, n1, bfn) => lv_has ls 2 [(0, .ref m0), (1, .int i1)] ∧ va_P (dC, dI) vwCl (w_md m0 a1 a2 a3 a4 a5 a6 cI wd ht ws bfn mkn nu tg so pa ru) H ∧ va_D A (w_md m0 a1 a2 a3 a4 a5 a6 cI wd ht ws bfn mkn nu tg so pa ru) ∧ va_S A s.heap H locs ∧ (i1.toInt = (n1 : Int)) ∧ (n1 ≤ 4000) ∧ (oz sn = (tn : Int) → ∀ j, j < n1 → bfn j = mw ws tn j) ∧ (∀ i j, 16 ≤ j → bt (bfn i) j = false)) (fun u => match u with | (H, locs, ls, i1, n1, bfn) => 4000 - n1) (fun u : Heap × List Loc × Array Slot × Int32 × Nat × (Nat → Int32) => u.1) (fun u : Heap × List Loc × Array Slot × Int32 × Nat × (Nat → Int32) => u.2.1) (fun u => F0 m 45 u.2.2.1 []) (fun u hu ih45 => ?_) (H, locs, ls, 0, 0, bf) ⟨lv_sub hl [1, 0] rfl, hP, hD, hS, rfl, Nat.zero_le _, fun _ j hj => absurd hj (Nat.not_lt_zero j), hbf0⟩
    obtain ⟨H, locs, ls, i1, n1, bfn⟩ := u
    obtain ⟨hl, hP, hD, hS, hi1, hn1, hbf, hbh⟩ := hu
    dsimp only
    refine lv_iload_n hx hb dX3_keep_45 rfl (lv_at hl 1 rfl) ?_
    refine lv_sipush (v := (4000)) hx hb dX3_keep_46 (by decide) ?_
    refine lv_icmp_ge (tgt := 90) hx hb dX3_keep_49 (by decide) (fun c2 => ?_) (fun c2 => ?_)
    · replace c2 := (ti_le (by decide : (4000 : Int32).toInt = (4000 : Int)) rfl).mp c2
      exact W.vret hx hb hr (fun t9 ht9 hW9 => ⟨⟨(bfn, mkn), rfl, ⟨hmkA, fun hz j hj => by first | exact hbf hz j (by omega) | (exfalso; omega), hmh, hbh⟩, by rw [ht9]; exact hP, va_K.moved hW9.alike hK, hD⟩, hS.F ht9⟩) hS.2.2 dX3_keep_90
    · replace c2 := mt (ti_le (by decide : (4000 : Int32).toInt = (4000 : Int)) rfl).mpr c2
      refine lv_aload_n hx hb dX3_keep_52 rfl (lv_at hl 0 rfl) ?_
      refine va_get (D := (dC, dI)) (ci := 3) (v := .int so) (C := RX3) (T := TX3) (N := 10) hx hb hts inX3 hown hK hP 0 rfl rfl 6 (by decide) (hts _ k296) (fun _ h9 => h9) rfl dX3_keep_53 ?_
      refine lv_aload_n hx hb dX3_keep_56 rfl (lv_at hl 0 rfl) ?_
      refine va_get (D := (dC, dI)) (ci := 3) (v := .int tg) (C := RX3) (T := TX3) (N := 10) hx hb hts inX3 hown hK hP 0 rfl rfl 5 (by decide) (hts _ k295) (fun _ h9 => h9) rfl dX3_keep_57 ?_
      refine lv_icmp_ne (tgt := 90) hx hb dX3_keep_60 (by decide) (fun c3 => ?_) (fun c3 => ?_)
      · replace c3 := mt (ti_eq rfl rfl).mpr c3
        exact W.vret hx hb hr (fun t9 ht9 hW9 => ⟨⟨(bfn, mkn), rfl, ⟨hmkA, fun hz j hj => by first | exact hbf hz j (by omega) | (exfalso; omega), hmh, hbh⟩, by rw [ht9]; exact hP, va_K.moved hW9.alike hK, hD⟩, hS.F ht9⟩) hS.2.2 dX3_keep_90
      · replace c3 := (ti_eq rfl rfl).mp c3
        refine lv_aload_n hx hb dX3_keep_63 rfl (lv_at hl 0 rfl) ?_
        refine va_get (D := (dC, dI)) (ci := 3) (v := .ref a4) (C := RX3) (T := TX3) (N := 10) hx hb hts inX3 hown hK hP 0 rfl rfl 3 (by decide) (hts _ k293) (fun _ h9 => h9) rfl dX3_keep_64 ?_
        refine lv_iload_n hx hb dX3_keep_67 rfl (lv_at hl 1 rfl) ?_
        refine lv_aload_n hx hb dX3_keep_68 rfl (lv_at hl 0 rfl) ?_
        refine va_get (D := (dC, dI)) (ci := 3) (v := .ref a3) (C := RX3) (T := TX3) (N := 10) hx hb hts inX3 hown hK hP 0 rfl rfl 2 (by decide) (hts _ k292) (fun _ h9 => h9) rfl dX3_keep_69 ?_
        refine lv_sipush (v := (4000)) hx hb dX3_keep_72 (by decide) ?_
        refine lv_aload_n hx hb dX3_keep_75 rfl (lv_at hl 0 rfl) ?_
        refine va_get (D := (dC, dI)) (ci := 3) (v := .int so) (C := RX3) (T := TX3) (N := 10) hx hb hts inX3 hown hK hP 0 rfl rfl 6 (by decide) (hts _ k296) (fun _ h9 => h9) rfl dX3_keep_76 ?_
        refine lv_imul hx hb dX3_keep_79 ?_
        refine lv_topi (fun x4 ex4 => ?_)
        have hx4 : x4.toInt = (4000 : Int) * so.toInt := by rw [ex4]; exact ti_mul (by decide : (4000 : Int32).toInt = (4000 : Int)) rfl (by omega) (by omega)
        refine lv_iload_n hx hb dX3_keep_80 rfl (lv_at hl 1 rfl) ?_
        refine lv_iadd hx hb dX3_keep_81 ?_
        refine lv_topi (fun x5 ex5 => ?_)
        have hx5 : x5.toInt = x4.toInt + i1.toInt := by rw [ex5]; exact ti_add rfl rfl (by omega) (by omega)
        refine iaK hx hb hK hP 3 0 rfl rfl (4000 * tn + n1) (by omega) (by omega) dX3_keep_82 ?_
        refine lv_topi (fun x6 ex6 => ?_)
        refine isK hx hb hK hP hD hS 4 0 rfl rfl (n1) (hi1) (by omega) dX3_keep_83 (fun H locs hP hD hS => ?_)
        have hP : va_P (dC, dI) vwCl (w_md m0 a1 a2 a3 a4 a5 a6 cI wd ht ws (upd bfn n1 x6) mkn nu tg so pa ru) H := hP
        have hD : va_D A (w_md m0 a1 a2 a3 a4 a5 a6 cI wd ht ws (upd bfn n1 x6) mkn nu tg so pa ru) := hD
        obtain ⟨x7, ex7⟩ : ∃ y : Int32, y = i1 + 1 := ⟨_, rfl⟩
        have hx7 : x7.toInt = i1.toInt + 1 := by rw [ex7]; exact ti_add rfl (by decide) (by omega) (by omega)
        refine lv_iinc (v := x7) (lv' := [(1, .int x7), (0, .ref m0)]) hx hb dX3_keep_84 hl (k := 1) rfl (by rw [ex7]; rfl) (by decide) rfl (fun ls hl => ?_)
        refine lv_goto (tgt := 45) hx hb dX3_keep_87 (by decide) ?_
        exact ih45 (H, locs, ls, x7, n1 + 1, (upd bfn n1 x6)) ⟨lv_sub hl [1, 0] rfl, hP, hD, hS, by omega, by omega, fun hz => lt_s' (hbf hz) ex6, hi_up hbh (fun j hj => by rw [ex6]; exact hws _ j hj)⟩ (by dsimp only; omega)
  · replace c1 := mt (ti_le (by decide : (16 : Int32).toInt = (16 : Int)) rfl).mpr c1
    refine lv_aload_n hx hb dX3_keep_8 rfl (lv_at hl 0 rfl) ?_
    refine va_get (D := (dC, dI)) (ci := 3) (v := .int pa) (C := RX3) (T := TX3) (N := 10) hx hb hts inX3 hown hK hP 0 rfl rfl 7 (by decide) (hts _ k297) (fun _ h9 => h9) rfl dX3_keep_9 ?_
    refine lv_iconst (v := (-1)) hx hb dX3_keep_12 (by decide) ?_
    refine lv_icmp_eq (tgt := 43) hx hb dX3_keep_13 (by decide) (fun c8 => ?_) (fun c8 => ?_)
    · replace c8 := (ti_eq rfl (by decide : (-1 : Int32).toInt = (-1 : Int))).mp c8
      have hmkA : ∀ q, pn = some q → ∀ j, j < 16 → mkn j = mw ws q j := fun q hq j hj => by
        first | exact hmk q hq j (by omega) | (exfalso; rw [hq] at hpa; unfold oz at hpa; dsimp only at hpa; omega)
      refine lv_iconst (v := 0) hx hb dX3_keep_43 (by decide) ?_
      refine lv_istore_n (lv' := [(1, .int (0 : Int32)), (0, .ref m0)]) hx hb dX3_keep_44 rfl hl (by decide) rfl (fun ls hl => ?_)
      refine lpW (σ := Heap × List Loc × Array Slot × Int32 × Nat × (Nat → Int32)) (fun u => match u with | (H, locs, ls, i1, n1, bfn) => lv_has ls 2 [(0, .ref m0), (1, .int i1)] ∧ va_P (dC, dI) vwCl (w_md m0 a1 a2 a3 a4 a5 a6 cI wd ht ws bfn mkn nu tg so pa ru) H ∧ va_D A (w_md m0 a1 a2 a3 a4 a5 a6 cI wd ht ws bfn mkn nu tg so pa ru) ∧ va_S A s.heap H locs ∧ (i1.toInt = (n1 : Int)) ∧ (n1 ≤ 4000) ∧ (oz sn = (tn : Int) → ∀ j, j < n1 → bfn j = mw ws tn j) ∧ (∀ i j, 16 ≤ j → bt (bfn i) j = false)) (fun u => match u with | (H, locs, ls, i1, n1, bfn) => 4000 - n1) (fun u : Heap × List Loc × Array Slot × Int32 × Nat × (Nat → Int32) => u.1) (fun u : Heap × List Loc × Array Slot × Int32 × Nat × (Nat → Int32) => u.2.1) (fun u => F0 m 45 u.2.2.1 []) (fun u hu ih45 => ?_) (H, locs, ls, 0, 0, bf) ⟨lv_sub hl [1, 0] rfl, hP, hD, hS, rfl, Nat.zero_le _, fun _ j hj => absurd hj (Nat.not_lt_zero j), hbf0⟩
      obtain ⟨H, locs, ls, i1, n1, bfn⟩ := u
      obtain ⟨hl, hP, hD, hS, hi1, hn1, hbf, hbh⟩ := hu
      dsimp only
      refine lv_iload_n hx hb dX3_keep_45 rfl (lv_at hl 1 rfl) ?_
      refine lv_sipush (v := (4000)) hx hb dX3_keep_46 (by decide) ?_
      refine lv_icmp_ge (tgt := 90) hx hb dX3_keep_49 (by decide) (fun c9 => ?_) (fun c9 => ?_)
      · replace c9 := (ti_le (by decide : (4000 : Int32).toInt = (4000 : Int)) rfl).mp c9
        exact W.vret hx hb hr (fun t9 ht9 hW9 => ⟨⟨(bfn, mkn), rfl, ⟨hmkA, fun hz j hj => by first | exact hbf hz j (by omega) | (exfalso; omega), hmh, hbh⟩, by rw [ht9]; exact hP, va_K.moved hW9.alike hK, hD⟩, hS.F ht9⟩) hS.2.2 dX3_keep_90
      · replace c9 := mt (ti_le (by decide : (4000 : Int32).toInt = (4000 : Int)) rfl).mpr c9
        refine lv_aload_n hx hb dX3_keep_52 rfl (lv_at hl 0 rfl) ?_
        refine va_get (D := (dC, dI)) (ci := 3) (v := .int so) (C := RX3) (T := TX3) (N := 10) hx hb hts inX3 hown hK hP 0 rfl rfl 6 (by decide) (hts _ k296) (fun _ h9 => h9) rfl dX3_keep_53 ?_
        refine lv_aload_n hx hb dX3_keep_56 rfl (lv_at hl 0 rfl) ?_
        refine va_get (D := (dC, dI)) (ci := 3) (v := .int tg) (C := RX3) (T := TX3) (N := 10) hx hb hts inX3 hown hK hP 0 rfl rfl 5 (by decide) (hts _ k295) (fun _ h9 => h9) rfl dX3_keep_57 ?_
        refine lv_icmp_ne (tgt := 90) hx hb dX3_keep_60 (by decide) (fun c10 => ?_) (fun c10 => ?_)
        · replace c10 := mt (ti_eq rfl rfl).mpr c10
          exact W.vret hx hb hr (fun t9 ht9 hW9 => ⟨⟨(bfn, mkn), rfl, ⟨hmkA, fun hz j hj => by first | exact hbf hz j (by omega) | (exfalso; omega), hmh, hbh⟩, by rw [ht9]; exact hP, va_K.moved hW9.alike hK, hD⟩, hS.F ht9⟩) hS.2.2 dX3_keep_90
        · replace c10 := (ti_eq rfl rfl).mp c10
          refine lv_aload_n hx hb dX3_keep_63 rfl (lv_at hl 0 rfl) ?_
          refine va_get (D := (dC, dI)) (ci := 3) (v := .ref a4) (C := RX3) (T := TX3) (N := 10) hx hb hts inX3 hown hK hP 0 rfl rfl 3 (by decide) (hts _ k293) (fun _ h9 => h9) rfl dX3_keep_64 ?_
          refine lv_iload_n hx hb dX3_keep_67 rfl (lv_at hl 1 rfl) ?_
          refine lv_aload_n hx hb dX3_keep_68 rfl (lv_at hl 0 rfl) ?_
          refine va_get (D := (dC, dI)) (ci := 3) (v := .ref a3) (C := RX3) (T := TX3) (N := 10) hx hb hts inX3 hown hK hP 0 rfl rfl 2 (by decide) (hts _ k292) (fun _ h9 => h9) rfl dX3_keep_69 ?_
          refine lv_sipush (v := (4000)) hx hb dX3_keep_72 (by decide) ?_
          refine lv_aload_n hx hb dX3_keep_75 rfl (lv_at hl 0 rfl) ?_
          refine va_get (D := (dC, dI)) (ci := 3) (v := .int so) (C := RX3) (T := TX3) (N := 10) hx hb hts inX3 hown hK hP 0 rfl rfl 6 (by decide) (hts _ k296) (fun _ h9 => h9) rfl dX3_keep_76 ?_
          refine lv_imul hx hb dX3_keep_79 ?_
          refine lv_topi (fun x11 ex11 => ?_)
          have hx11 : x11.toInt = (4000 : Int) * so.toInt := by rw [ex11]; exact ti_mul (by decide : (4000 : Int32).toInt = (4000 : Int)) rfl (by omega) (by omega)
          refine lv_iload_n hx hb dX3_keep_80 rfl (lv_at hl 1 rfl) ?_
          refine lv_iadd hx hb dX3_keep_81 ?_
          refine lv_topi (fun x12 ex12 => ?_)
          have hx12 : x12.toInt = x11.toInt + i1.toInt := by rw [ex12]; exact ti_add rfl rfl (by omega) (by omega)
          refine iaK hx hb hK hP 3 0 rfl rfl (4000 * tn + n1) (by omega) (by omega) dX3_keep_82 ?_
          refine lv_topi (fun x13 ex13 => ?_)
          refine isK hx hb hK hP hD hS 4 0 rfl rfl (n1) (hi1) (by omega) dX3_keep_83 (fun H locs hP hD hS => ?_)
          have hP : va_P (dC, dI) vwCl (w_md m0 a1 a2 a3 a4 a5 a6 cI wd ht ws (upd bfn n1 x13) mkn nu tg so pa ru) H := hP
          have hD : va_D A (w_md m0 a1 a2 a3 a4 a5 a6 cI wd ht ws (upd bfn n1 x13) mkn nu tg so pa ru) := hD
          obtain ⟨x14, ex14⟩ : ∃ y : Int32, y = i1 + 1 := ⟨_, rfl⟩
          have hx14 : x14.toInt = i1.toInt + 1 := by rw [ex14]; exact ti_add rfl (by decide) (by omega) (by omega)
          refine lv_iinc (v := x14) (lv' := [(1, .int x14), (0, .ref m0)]) hx hb dX3_keep_84 hl (k := 1) rfl (by rw [ex14]; rfl) (by decide) rfl (fun ls hl => ?_)
          refine lv_goto (tgt := 45) hx hb dX3_keep_87 (by decide) ?_
          exact ih45 (H, locs, ls, x14, n1 + 1, (upd bfn n1 x13)) ⟨lv_sub hl [1, 0] rfl, hP, hD, hS, by omega, by omega, fun hz => lt_s' (hbf hz) ex13, hi_up hbh (fun j hj => by rw [ex13]; exact hws _ j hj)⟩ (by dsimp only; omega)
    · replace c8 := mt (ti_eq rfl (by decide : (-1 : Int32).toInt = (-1 : Int))).mpr c8
      refine lv_aload_n hx hb dX3_keep_16 rfl (lv_at hl 0 rfl) ?_
      refine va_get (D := (dC, dI)) (ci := 3) (v := .ref a5) (C := RX3) (T := TX3) (N := 10) hx hb hts inX3 hown hK hP 0 rfl rfl 4 (by decide) (hts _ k294) (fun _ h9 => h9) rfl dX3_keep_17 ?_
      refine lv_iload_n hx hb dX3_keep_20 rfl (lv_at hl 1 rfl) ?_
      refine lv_aload_n hx hb dX3_keep_21 rfl (lv_at hl 0 rfl) ?_
      refine va_get (D := (dC, dI)) (ci := 3) (v := .ref a3) (C := RX3) (T := TX3) (N := 10) hx hb hts inX3 hown hK hP 0 rfl rfl 2 (by decide) (hts _ k292) (fun _ h9 => h9) rfl dX3_keep_22 ?_
      refine lv_sipush (v := (4000)) hx hb dX3_keep_25 (by decide) ?_
      refine lv_aload_n hx hb dX3_keep_28 rfl (lv_at hl 0 rfl) ?_
      refine va_get (D := (dC, dI)) (ci := 3) (v := .int pa) (C := RX3) (T := TX3) (N := 10) hx hb hts inX3 hown hK hP 0 rfl rfl 7 (by decide) (hts _ k297) (fun _ h9 => h9) rfl dX3_keep_29 ?_
      refine lv_imul hx hb dX3_keep_32 ?_
      refine lv_topi (fun x15 ex15 => ?_)
      have hx15 : x15.toInt = (4000 : Int) * pa.toInt := by rw [ex15]; exact ti_mul (by decide : (4000 : Int32).toInt = (4000 : Int)) rfl (by omega) (by omega)
      refine lv_iload_n hx hb dX3_keep_33 rfl (lv_at hl 1 rfl) ?_
      refine lv_iadd hx hb dX3_keep_34 ?_
      refine lv_topi (fun x16 ex16 => ?_)
      have hx16 : x16.toInt = x15.toInt + i0.toInt := by rw [ex16]; exact ti_add rfl rfl (by omega) (by omega)
      obtain ⟨q, hq1, hq2⟩ := oz_some (o := pn) (by omega)
      have h4q := hpn q hq1
      refine iaK hx hb hK hP 3 0 rfl rfl (4000 * q + n0) (by omega) (by omega) dX3_keep_35 ?_
      refine lv_topi (fun x17 ex17 => ?_)
      refine isK hx hb hK hP hD hS 5 0 rfl rfl (n0) (hi0) (by omega) dX3_keep_36 (fun H locs hP hD hS => ?_)
      have hP : va_P (dC, dI) vwCl (w_md m0 a1 a2 a3 a4 a5 a6 cI wd ht ws bf (upd mkn n0 x17) nu tg so pa ru) H := hP
      have hD : va_D A (w_md m0 a1 a2 a3 a4 a5 a6 cI wd ht ws bf (upd mkn n0 x17) nu tg so pa ru) := hD
      obtain ⟨x18, ex18⟩ : ∃ y : Int32, y = i0 + 1 := ⟨_, rfl⟩
      have hx18 : x18.toInt = i0.toInt + 1 := by rw [ex18]; exact ti_add rfl (by decide) (by omega) (by omega)
      refine lv_iinc (v := x18) (lv' := [(1, .int x18), (0, .ref m0)]) hx hb dX3_keep_37 hl (k := 1) rfl (by rw [ex18]; rfl) (by decide) rfl (fun ls hl => ?_)
      refine lv_goto (tgt := 2) hx hb dX3_keep_40 (by decide) ?_
      exact ih2 (H, locs, ls, x18, n0 + 1, (upd mkn n0 x17)) ⟨lv_sub hl [1, 0] rfl, hP, hD, hS, by omega, by omega, fun z hz => by rw [hq1] at hz; cases hz; exact lt_s' (hmk q hq1) ex17, hi_up hmh (fun j hj => by rw [ex17]; exact hws _ j hj)⟩ (by dsimp only; omega)
set_option maxHeartbeats 8000000 in
set_option maxRecDepth 100000 in
theorem mX3_sourceBit (l : Launch) {dC : Nat → ClassId} {dI : Nat → Nat → Nat} {m0 a1 a2 a3 a4 a5 a6 : Nat} {cI : ClassId} {wd ht ws bf mk nu : Nat → Int32} {tg so pa ru : Int32} {wN hN : Nat → Nat} {Bt : Nat → Nat → Nat → Bool} {nz : Nat → Int} {tn : Nat} {sn pn : Option Nat} {rA : Int32} (x y : Int32) (hM : RM wN hN Bt nz tn sn pn rA wd ht ws nu tg so pa ru) {sv X Y : Nat} {Bs : Nat → Nat → Bool} (hsv : sn = some sv) (ex : x.toInt = (X : Int)) (ey : y.toInt = (Y : Int)) (hX : X < wN sv) (hY : Y < hN sv) (hbs : sv = tn → RF bf (rN wN sv) (wN sv) (hN sv) Bs) (hms : sv ≠ tn → RF (mw ws sv) (rN wN sv) (wN sv) (hN sv) Bs) : Met l yX3_sourceBit (wM yX3_sourceBit cX3_sourceBit 5 (some .int)) ({ frames := 1, cells := 0, slots := 0, locals := 21 }) (va_Pc [.ref m0, .int x, .int y] (rP (dC, dI) vwCl (tyM cI) (w_md m0 a1 a2 a3 a4 a5 a6 cI wd ht ws bf mk nu tg so pa ru))) (vp_Si (fun r => r.toInt = (b1 (Bs X Y) : Int))) 0 0 (fun _ => False) := by
  refine Met.ofW (cc := cX3_sourceBit) (maxL := 5) (ret := (some .int)) (by decide +kernel) rfl ?_
  intro p e s m args below meth c s₁ B hml hv
  obtain ⟨rfl, hP, hK, hNS⟩ := hv
  have hx := B.exec
  have hb := B.bytes
  have hr := B.returns
  have hts : ∀ w ∈ tblG, w.before _ s = true := fun w h => atoms_spec (ws := wM yX3_sourceBit cX3_sourceBit 5 (some .int)) B.pre w (List.mem_cons_of_mem _ h)
  have hown : s.vm.findClass RX3 = some m.cls := findClass_of_methodNamed B.named
  have hlocks := B.notSynchronized
  have hl := lv_entry ([.ref m0, .int x, .int y]) (n := 5) (Nat.le_of_ble_eq_true rfl)
  rw [lg_entry_eq]
  generalize (lg_sl ([.ref m0, .int x, .int y]) ++ List.replicate (5 - (lg_sl ([.ref m0, .int x, .int y])).length) Slot.unset).toArray = ls at hl ⊢
  have hl : lv_has ls 5 [(0, .ref m0), (1, .int x), (2, .int y)] := hl
  obtain ⟨hF, hnu, htg, htn, hso, hsn, hpa, hpn, hru, hr1, hr2⟩ := id hM
  have hso4 := oz_lo hsn
  have hpa4 := oz_lo hpn
  have hs9 : so.toInt = (sv : Int) := by rw [hso, hsv]; rfl
  have h4s := hsn sv hsv
  obtain ⟨fw_sv, fh_sv, f1_sv, f2_sv, f3_sv, f6_sv, f7_sv, fB_sv⟩ := hF sv h4s
  have frd_sv : rN wN sv = (wN sv + 15) / 16 := rfl
  refine lv_aload_n hx hb dX3_sourceBit_0 rfl (lv_at hl 0 rfl) ?_
  refine lv_aload_n hx hb dX3_sourceBit_1 rfl (lv_at hl 0 rfl) ?_
  refine va_get (D := (dC, dI)) (ci := 3) (v := .int so) (C := RX3) (T := TX3) (N := 10) hx hb hts inX3 hown hK hP 0 rfl rfl 6 (by decide) (hts _ k296) (fun _ h9 => h9) rfl dX3_sourceBit_2 ?_
  refine vp_callSi (va_Run.run (va_runV (As := [.int so]) (rest := []) ⟨hx, hb, hml, hown, hts⟩ (mX3_perRow l so hM hs9 h4s) (cwV 1 hts (gA (m4 k331 k333 ksel9 k4) k334) rfl rfl rfl (by decide +kernel) ⟨Nat.le_of_ble_eq_true rfl, Nat.le_of_ble_eq_true rfl⟩) (prRV hP hK hNS rfl (show (w_md m0 a1 a2 a3 a4 a5 a6 cI wd ht ws bf mk nu tg so pa ru)[0]? = some (m0, .inr (3, [.ref a1, .ref a2, .ref a3, .ref a4, .ref a5, .int tg, .int so, .int pa, .int ru, .ref a6])) from rfl)) rfl rfl hl.1 rfl (lv_room (Nat.le_of_ble_eq_true rfl)) dX3_sourceBit_5 ⟨Nat.le_of_ble_eq_true rfl, Nat.le_of_ble_eq_true rfl⟩)) (fun r1 hwr1 => ?_)
  try dsimp only at hwr1
  refine lv_iload_n hx hb dX3_sourceBit_8 rfl (lv_at hl 2 rfl) ?_
  have hcm := rc_comm hwr1 ey
  have hrcl := rc_lt (rw := rN wN sv) (y := Y) (k := X / 16) (ht := hN sv) (by omega) (by omega)
  refine lv_imul hx hb dX3_sourceBit_9 ?_
  refine lv_topi (fun x2 ex2 => ?_)
  have hx2 : x2.toInt = r1.toInt * y.toInt := by rw [ex2]; exact ti_mul rfl rfl (by omega) (by omega)
  refine lv_iload_n hx hb dX3_sourceBit_10 rfl (lv_at hl 1 rfl) ?_
  refine lv_bipush (v := (16)) hx hb dX3_sourceBit_11 (by decide) ?_
  refine lv_idiv hx hb dX3_sourceBit_13 (by decide) ?_
  refine lv_topi (fun x3 ex3 => ?_)
  have hx3 : x3.toInt = x.toInt / (16 : Int) := by rw [ex3]; exact ti_div rfl (by decide : (16 : Int32).toInt = (16 : Int)) (by omega) (by omega)
  refine lv_iadd hx hb dX3_sourceBit_14 ?_
  refine lv_topi (fun x4 ex4 => ?_)
  have hx4 : x4.toInt = x2.toInt + x3.toInt := by rw [ex4]; exact ti_add rfl rfl (by omega) (by omega)
  refine lv_istore_n (lv' := [(3, .int x4), (0, .ref m0), (1, .int x), (2, .int y)]) hx hb dX3_sourceBit_15 rfl hl (by decide) rfl (fun ls hl => ?_)
  refine lv_aload_n hx hb dX3_sourceBit_16 rfl (lv_at hl 1 rfl) ?_
  refine va_get (D := (dC, dI)) (ci := 3) (v := .int so) (C := RX3) (T := TX3) (N := 10) hx hb hts inX3 hown hK hP 0 rfl rfl 6 (by decide) (hts _ k296) (fun _ h9 => h9) rfl dX3_sourceBit_17 ?_
  refine lv_aload_n hx hb dX3_sourceBit_20 rfl (lv_at hl 1 rfl) ?_
  refine va_get (D := (dC, dI)) (ci := 3) (v := .int tg) (C := RX3) (T := TX3) (N := 10) hx hb hts inX3 hown hK hP 0 rfl rfl 5 (by decide) (hts _ k295) (fun _ h9 => h9) rfl dX3_sourceBit_21 ?_
  refine lv_icmp_ne (tgt := 36) hx hb dX3_sourceBit_24 (by decide) (fun c5 => ?_) (fun c5 => ?_)
  · replace c5 := mt (ti_eq rfl rfl).mpr c5
    refine lv_aload_n hx hb dX3_sourceBit_36 rfl (lv_at hl 1 rfl) ?_
    refine va_get (D := (dC, dI)) (ci := 3) (v := .ref a3) (C := RX3) (T := TX3) (N := 10) hx hb hts inX3 hown hK hP 0 rfl rfl 2 (by decide) (hts _ k292) (fun _ h9 => h9) rfl dX3_sourceBit_37 ?_
    refine lv_sipush (v := (4000)) hx hb dX3_sourceBit_40 (by decide) ?_
    refine lv_aload_n hx hb dX3_sourceBit_43 rfl (lv_at hl 1 rfl) ?_
    refine va_get (D := (dC, dI)) (ci := 3) (v := .int so) (C := RX3) (T := TX3) (N := 10) hx hb hts inX3 hown hK hP 0 rfl rfl 6 (by decide) (hts _ k296) (fun _ h9 => h9) rfl dX3_sourceBit_44 ?_
    refine lv_imul hx hb dX3_sourceBit_47 ?_
    refine lv_topi (fun x6 ex6 => ?_)
    have hx6 : x6.toInt = (4000 : Int) * so.toInt := by rw [ex6]; exact ti_mul (by decide : (4000 : Int32).toInt = (4000 : Int)) rfl (by omega) (by omega)
    refine lv_iload_n hx hb dX3_sourceBit_48 rfl (lv_at hl 0 rfl) ?_
    refine lv_iadd hx hb dX3_sourceBit_49 ?_
    refine lv_topi (fun x7 ex7 => ?_)
    have hx7 : x7.toInt = x6.toInt + x4.toInt := by rw [ex7]; exact ti_add rfl rfl (by omega) (by omega)
    refine iaK hx hb hK hP 3 0 rfl rfl (4000 * sv + (Y * rN wN sv + X / 16)) (by omega) (by omega) dX3_sourceBit_50 ?_
    refine lv_topi (fun x8 ex8 => ?_)
    refine lv_istore (lv' := [(4, .int x8), (3, .int x4), (0, .ref m0), (1, .int x), (2, .int y)]) hx hb dX3_sourceBit_51 hl (by decide) rfl (fun ls hl => ?_)
    refine lv_iload hx hb dX3_sourceBit_53 (lv_at hl 0 rfl) ?_
    refine lv_bipush (v := (15)) hx hb dX3_sourceBit_55 (by decide) ?_
    refine lv_iload_n hx hb dX3_sourceBit_57 rfl (lv_at hl 3 rfl) ?_
    refine lv_bipush (v := (16)) hx hb dX3_sourceBit_58 (by decide) ?_
    refine lv_irem hx hb dX3_sourceBit_60 (by decide) ?_
    refine lv_topi (fun x9 ex9 => ?_)
    have hx9 : x9.toInt = x.toInt % (16 : Int) := by rw [ex9]; exact ti_rem rfl (by decide : (16 : Int32).toInt = (16 : Int)) (by omega) (by omega)
    refine lv_isub hx hb dX3_sourceBit_61 ?_
    refine lv_topi (fun x10 ex10 => ?_)
    have hx10 : x10.toInt = (15 : Int) - x9.toInt := by rw [ex10]; exact ti_sub (by decide : (15 : Int32).toInt = (15 : Int)) rfl (by omega) (by omega)
    refine lv_ishr hx hb dX3_sourceBit_62 ?_
    refine lv_topi (fun x11 ex11 => ?_)
    refine lv_iconst (v := 1) hx hb dX3_sourceBit_63 (by decide) ?_
    refine lv_iand hx hb dX3_sourceBit_64 ?_
    refine lv_topi (fun x12 ex12 => ?_)
    have hres : x12.toInt = (b1 (Bs X Y) : Int) := by rw [bitM_post (g := (mw ws sv)) (rw := rN wN sv) (X := X) (Y := Y) ex8 (by omega) ex11 ex12, (hms (by omega)).2 X Y (by omega) (by omega), decide_eq_true hX, Bool.true_and]
    exact W.iret (v := x12) hx hb hr (fun t9 ht9 _ => ⟨x12, rfl, hres, ht9⟩) (fun _ h => absurd h List.not_mem_nil) dX3_sourceBit_65
  · replace c5 := (ti_eq rfl rfl).mp c5
    refine lv_aload_n hx hb dX3_sourceBit_27 rfl (lv_at hl 1 rfl) ?_
    refine va_get (D := (dC, dI)) (ci := 3) (v := .ref a4) (C := RX3) (T := TX3) (N := 10) hx hb hts inX3 hown hK hP 0 rfl rfl 3 (by decide) (hts _ k293) (fun _ h9 => h9) rfl dX3_sourceBit_28 ?_
    refine lv_iload_n hx hb dX3_sourceBit_31 rfl (lv_at hl 0 rfl) ?_
    refine iaK hx hb hK hP 4 0 rfl rfl (Y * rN wN sv + X / 16) (by omega) (by omega) dX3_sourceBit_32 ?_
    refine lv_topi (fun x13 ex13 => ?_)
    refine lv_goto (tgt := 51) hx hb dX3_sourceBit_33 (by decide) ?_
    refine lv_istore (lv' := [(4, .int x13), (3, .int x4), (0, .ref m0), (1, .int x), (2, .int y)]) hx hb dX3_sourceBit_51 hl (by decide) rfl (fun ls hl => ?_)
    refine lv_iload hx hb dX3_sourceBit_53 (lv_at hl 0 rfl) ?_
    refine lv_bipush (v := (15)) hx hb dX3_sourceBit_55 (by decide) ?_
    refine lv_iload_n hx hb dX3_sourceBit_57 rfl (lv_at hl 3 rfl) ?_
    refine lv_bipush (v := (16)) hx hb dX3_sourceBit_58 (by decide) ?_
    refine lv_irem hx hb dX3_sourceBit_60 (by decide) ?_
    refine lv_topi (fun x14 ex14 => ?_)
    have hx14 : x14.toInt = x.toInt % (16 : Int) := by rw [ex14]; exact ti_rem rfl (by decide : (16 : Int32).toInt = (16 : Int)) (by omega) (by omega)
    refine lv_isub hx hb dX3_sourceBit_61 ?_
    refine lv_topi (fun x15 ex15 => ?_)
    have hx15 : x15.toInt = (15 : Int) - x14.toInt := by rw [ex15]; exact ti_sub (by decide : (15 : Int32).toInt = (15 : Int)) rfl (by omega) (by omega)
    refine lv_ishr hx hb dX3_sourceBit_62 ?_
    refine lv_topi (fun x16 ex16 => ?_)
    refine lv_iconst (v := 1) hx hb dX3_sourceBit_63 (by decide) ?_
    refine lv_iand hx hb dX3_sourceBit_64 ?_
    refine lv_topi (fun x17 ex17 => ?_)
    have hres : x17.toInt = (b1 (Bs X Y) : Int) := by rw [bitM_post (g := bf) (rw := rN wN sv) (X := X) (Y := Y) ex13 (by omega) ex16 ex17, (hbs (by omega)).2 X Y (by omega) (by omega), decide_eq_true hX, Bool.true_and]
    exact W.iret (v := x17) hx hb hr (fun t9 ht9 _ => ⟨x17, rfl, hres, ht9⟩) (fun _ h => absurd h List.not_mem_nil) dX3_sourceBit_65
set_option maxHeartbeats 8000000 in
set_option maxRecDepth 100000 in
theorem mX3_copyBit (l : Launch) {dC : Nat → ClassId} {dI : Nat → Nat → Nat} {sz : Nat} {m0 a1 a2 a3 a4 a5 a6 : Nat} {cI : ClassId} {wd ht ws bf mk nu : Nat → Int32} {tg so pa ru : Int32} {wN hN : Nat → Nat} {Bt : Nat → Nat → Nat → Bool} {nz : Nat → Int} {tn : Nat} {sn pn : Option Nat} {rA : Int32} (x y sx sy : Int32) (hM : RM wN hN Bt nz tn sn pn rA wd ht ws nu tg so pa ru) {X Y SX SY : Nat} {B0 : Nat → Nat → Nat → Bool} (ex : x.toInt = (X : Int)) (ey : y.toInt = (Y : Int)) (hX : X < wN tn) (hY : Y < hN tn) (hsx : ∀ s, sn = some s → sx.toInt = (SX : Int) ∧ sy.toInt = (SY : Int) ∧ SX < wN s ∧ SY < hN s) (hbf0 : sn = some tn → RF bf (rN wN tn) (wN tn) (hN tn) (B0 tn)) (hne : ∀ s, sn = some s → s ≠ tn → Bt s = B0 s) (hmk : ∀ q, pn = some q → RF mk 1 16 16 (B0 q)) : Met l yX3_copyBit (wM yX3_copyBit cX3_copyBit 10 none) ({ frames := 2, cells := 0, slots := 0, locals := 45 }) (va_Pc [.ref m0, .int x, .int y, .int sx, .int sy] (wP (dC, dI) vwCl (tyM cI) (w_md m0 a1 a2 a3 a4 a5 a6 cI wd ht ws bf mk nu tg so pa ru) sz)) (va_Qv (fun u : Nat → Int32 => RM wN hN (va_up Bt tn (fun a b => if a = X ∧ b = Y then rB rA (inM B0 sn pn SX SY X Y) (Bt tn X Y) else Bt tn a b)) nz tn sn pn rA wd ht u nu tg so pa ru) (wB (dC, dI) vwCl (va_A (w_md m0 a1 a2 a3 a4 a5 a6 cI wd ht ws bf mk nu tg so pa ru) sz) (fun u : Nat → Int32 => (tyM cI)) (fun u : Nat → Int32 => (w_md m0 a1 a2 a3 a4 a5 a6 cI wd ht u bf mk nu tg so pa ru))) (va_A (w_md m0 a1 a2 a3 a4 a5 a6 cI wd ht ws bf mk nu tg so pa ru) sz)) 0 0 (va_A (w_md m0 a1 a2 a3 a4 a5 a6 cI wd ht ws bf mk nu tg so pa ru) sz) := by
  refine Met.ofW (cc := cX3_copyBit) (maxL := 10) (ret := none) (by decide +kernel) rfl ?_
  intro p e s m args below meth c s₁ B hml hv
  obtain ⟨rfl, hsz, hP, hK, hD0, hNS⟩ := hv
  have hx := B.exec
  have hb := B.bytes
  have hr := B.returns
  have hts : ∀ w ∈ tblG, w.before _ s = true := fun w h => atoms_spec (ws := wM yX3_copyBit cX3_copyBit 10 none) B.pre w (List.mem_cons_of_mem _ h)
  have hown : s.vm.findClass RX3 = some m.cls := findClass_of_methodNamed B.named
  have hlocks := B.notSynchronized
  subst hsz
  have hD := hD0.self (sz := s.heap.size)
  generalize hAe : va_A (w_md m0 a1 a2 a3 a4 a5 a6 cI wd ht ws bf mk nu tg so pa ru) s.heap.size = A at hD ⊢
  have hA : ∀ q : Nat, s.heap.size ≤ q → A q := fun q h => by rw [← hAe]; exact Or.inr h
  have hS : va_S A s.heap s.heap [] := va_S.rf
  have hP : va_P (dC, dI) vwCl (w_md m0 a1 a2 a3 a4 a5 a6 cI wd ht ws bf mk nu tg so pa ru) s.heap := hP
  have hl := lv_entry ([.ref m0, .int x, .int y, .int sx, .int sy]) (n := 10) (Nat.le_of_ble_eq_true rfl)
  rw [lg_entry_eq]
  generalize (lg_sl ([.ref m0, .int x, .int y, .int sx, .int sy]) ++ List.replicate (10 - (lg_sl ([.ref m0, .int x, .int y, .int sx, .int sy])).length) Slot.unset).toArray = ls at hl ⊢
  have hl : lv_has ls 10 [(0, .ref m0), (1, .int x), (2, .int y), (3, .int sx), (4, .int sy)] := hl
  obtain ⟨hF, hnu, htg, htn, hso, hsn, hpa, hpn, hru, hr1, hr2⟩ := id hM
  have hso4 := oz_lo hsn
  have hpa4 := oz_lo hpn
  obtain ⟨fw_tn, fh_tn, f1_tn, f2_tn, f3_tn, f6_tn, f7_tn, fB_tn⟩ := hF tn htn
  have frd_tn : rN wN tn = (wN tn + 15) / 16 := rfl
  refine mrg (fun k : Int32 => k.toInt = (b1 (srcM B0 sn SX SY) : Int)) (fun k => F0 m 19 ls [.int k]) (fun k hk => ?_) (fun tl => ?_)
  · refine lv_istore (lv' := [(5, .int k), (0, .ref m0), (1, .int x), (2, .int y), (3, .int sx), (4, .int sy)]) hx hb dX3_copyBit_19 hl (by decide) rfl (fun ls hl => ?_)
    refine mrg (fun k2 : Int32 => k2.toInt = (b1 (inM B0 sn pn SX SY X Y) : Int)) (fun k2 => F0 m 57 ls [.int k2]) (fun k2 hk2 => ?_) (fun tl2 => ?_)
    · refine lv_istore (lv' := [(5, .int k2), (0, .ref m0), (1, .int x), (2, .int y), (3, .int sx), (4, .int sy)]) hx hb dX3_copyBit_57 hl (by decide) rfl (fun ls hl => ?_)
      refine lv_aload_n hx hb dX3_copyBit_59 rfl (lv_at hl 1 rfl) ?_
      refine lv_aload_n hx hb dX3_copyBit_60 rfl (lv_at hl 1 rfl) ?_
      refine va_get (D := (dC, dI)) (ci := 3) (v := .int tg) (C := RX3) (T := TX3) (N := 10) hx hb hts inX3 hown hK hP 0 rfl rfl 5 (by decide) (hts _ k295) (fun _ h9 => h9) rfl dX3_copyBit_61 ?_
      refine lv_iload_n hx hb dX3_copyBit_64 rfl (lv_at hl 2 rfl) ?_
      refine lv_iload_n hx hb dX3_copyBit_65 rfl (lv_at hl 3 rfl) ?_
      refine vp_callSi (va_Run.run (va_runV (As := [.int tg, .int x, .int y]) (rest := []) ⟨hx, hb, hml, hown, hts⟩ (mX3_bitAt l tg x y hM (t := tn) htg htn ex ey hX hY) (cwV 3 hts (gA (m4 k357 k359 ksel12 k4) k360) rfl rfl rfl (by decide +kernel) ⟨Nat.le_of_ble_eq_true rfl, Nat.le_of_ble_eq_true rfl⟩) (prRV hP hK hNS rfl (show (w_md m0 a1 a2 a3 a4 a5 a6 cI wd ht ws bf mk nu tg so pa ru)[0]? = some (m0, .inr (3, [.ref a1, .ref a2, .ref a3, .ref a4, .ref a5, .int tg, .int so, .int pa, .int ru, .ref a6])) from rfl)) rfl rfl hl.1 rfl (lv_room (Nat.le_of_ble_eq_true rfl)) dX3_copyBit_66 ⟨Nat.le_of_ble_eq_true rfl, Nat.le_of_ble_eq_true rfl⟩)) (fun r1 hwr1 => ?_)
      try dsimp only at hwr1
      have hd : r1.toInt = (b1 (Bt tn X Y) : Int) := by rw [hwr1, fB_tn.2 X Y (by omega) hY, decide_eq_true hX, Bool.true_and]
      have hb1 := b1_le (inM B0 sn pn SX SY X Y)
      have hb2 := b1_le (Bt tn X Y)
      refine lv_istore (lv' := [(6, .int r1), (5, .int k2), (0, .ref m0), (1, .int x), (2, .int y), (3, .int sx), (4, .int sy)]) hx hb dX3_copyBit_69 hl (by decide) rfl (fun ls hl => ?_)
      refine lv_aload_n hx hb dX3_copyBit_71 rfl (lv_at hl 2 rfl) ?_
      refine va_get (D := (dC, dI)) (ci := 3) (v := .int ru) (C := RX3) (T := TX3) (N := 10) hx hb hts inX3 hown hK hP 0 rfl rfl 8 (by decide) (hts _ k298) (fun _ h9 => h9) rfl dX3_copyBit_72 ?_
      refine lv_iconst (v := 1) hx hb dX3_copyBit_75 (by decide) ?_
      refine lv_iload hx hb dX3_copyBit_76 (lv_at hl 1 rfl) ?_
      refine lv_isub hx hb dX3_copyBit_78 ?_
      refine lv_topi (fun x2 ex2 => ?_)
      have hx2 : x2.toInt = (1 : Int) - k2.toInt := by rw [ex2]; exact ti_sub (by decide : (1 : Int32).toInt = (1 : Int)) rfl (by omega) (by omega)
      refine lv_iconst (v := 2) hx hb dX3_copyBit_79 (by decide) ?_
      refine lv_imul hx hb dX3_copyBit_80 ?_
      refine lv_topi (fun x3 ex3 => ?_)
      have hx3 : x3.toInt = x2.toInt * (2 : Int) := by rw [ex3]; exact ti_mul rfl (by decide : (2 : Int32).toInt = (2 : Int)) (by omega) (by omega)
      refine lv_iconst (v := 1) hx hb dX3_copyBit_81 (by decide) ?_
      refine lv_iadd hx hb dX3_copyBit_82 ?_
      refine lv_topi (fun x4 ex4 => ?_)
      have hx4 : x4.toInt = x3.toInt + (1 : Int) := by rw [ex4]; exact ti_add rfl (by decide : (1 : Int32).toInt = (1 : Int)) (by omega) (by omega)
      refine lv_iload hx hb dX3_copyBit_83 (lv_at hl 0 rfl) ?_
      refine lv_isub hx hb dX3_copyBit_85 ?_
      refine lv_topi (fun x5 ex5 => ?_)
      have hx5 : x5.toInt = x4.toInt - r1.toInt := by rw [ex5]; exact ti_sub rfl rfl (by omega) (by omega)
      refine lv_ishr hx hb dX3_copyBit_86 ?_
      refine lv_topi (fun x6 ex6 => ?_)
      refine lv_iconst (v := 1) hx hb dX3_copyBit_87 (by decide) ?_
      refine lv_iand hx hb dX3_copyBit_88 ?_
      refine lv_topi (fun x7 ex7 => ?_)
      have hnow : x7.toInt = (b1 (rB rA (inM B0 sn pn SX SY X Y) (Bt tn X Y)) : Int) := by rw [← hru, rB_sh]; exact sar1 (y := x5) (by omega) (by omega) ex6 ex7
      have hnz := b1_z (rB rA (inM B0 sn pn SX SY X Y) (Bt tn X Y))
      refine lv_istore (lv' := [(7, .int x7), (6, .int r1), (5, .int k2), (0, .ref m0), (1, .int x), (2, .int y), (3, .int sx), (4, .int sy)]) hx hb dX3_copyBit_89 hl (by decide) rfl (fun ls hl => ?_)
      refine lv_sipush (v := (4000)) hx hb dX3_copyBit_91 (by decide) ?_
      refine lv_aload_n hx hb dX3_copyBit_94 rfl (lv_at hl 3 rfl) ?_
      refine va_get (D := (dC, dI)) (ci := 3) (v := .int tg) (C := RX3) (T := TX3) (N := 10) hx hb hts inX3 hown hK hP 0 rfl rfl 5 (by decide) (hts _ k295) (fun _ h9 => h9) rfl dX3_copyBit_95 ?_
      refine lv_imul hx hb dX3_copyBit_98 ?_
      refine lv_topi (fun x8 ex8 => ?_)
      have hx8 : x8.toInt = (4000 : Int) * tg.toInt := by rw [ex8]; exact ti_mul (by decide : (4000 : Int32).toInt = (4000 : Int)) rfl (by omega) (by omega)
      refine lv_aload_n hx hb dX3_copyBit_99 rfl (lv_at hl 3 rfl) ?_
      refine lv_aload_n hx hb dX3_copyBit_100 rfl (lv_at hl 3 rfl) ?_
      refine va_get (D := (dC, dI)) (ci := 3) (v := .int tg) (C := RX3) (T := TX3) (N := 10) hx hb hts inX3 hown hK hP 0 rfl rfl 5 (by decide) (hts _ k295) (fun _ h9 => h9) rfl dX3_copyBit_101 ?_
      refine vp_callSi (va_Run.run (va_runV (As := [.int tg]) (rest := [.int x8]) ⟨hx, hb, hml, hown, hts⟩ (mX3_perRow l tg hM (t := tn) htg htn) (cwV 1 hts (gA (m4 k331 k333 ksel9 k4) k334) rfl rfl rfl (by decide +kernel) ⟨Nat.le_of_ble_eq_true rfl, Nat.le_of_ble_eq_true rfl⟩) (prRV hP hK hNS rfl (show (w_md m0 a1 a2 a3 a4 a5 a6 cI wd ht ws bf mk nu tg so pa ru)[0]? = some (m0, .inr (3, [.ref a1, .ref a2, .ref a3, .ref a4, .ref a5, .int tg, .int so, .int pa, .int ru, .ref a6])) from rfl)) rfl rfl hl.1 rfl (lv_room (Nat.le_of_ble_eq_true rfl)) dX3_copyBit_104 ⟨Nat.le_of_ble_eq_true rfl, Nat.le_of_ble_eq_true rfl⟩)) (fun r9 hwr9 => ?_)
      try dsimp only at hwr9
      refine lv_iload_n hx hb dX3_copyBit_107 rfl (lv_at hl 5 rfl) ?_
      have hcm := rc_comm hwr9 ey
      have hrcl := rc_lt (rw := rN wN tn) (y := Y) (k := X / 16) (ht := hN tn) (by omega) (by omega)
      refine lv_imul hx hb dX3_copyBit_108 ?_
      refine lv_topi (fun x10 ex10 => ?_)
      have hx10 : x10.toInt = r9.toInt * y.toInt := by rw [ex10]; exact ti_mul rfl rfl (by omega) (by omega)
      refine lv_iadd hx hb dX3_copyBit_109 ?_
      refine lv_topi (fun x11 ex11 => ?_)
      have hx11 : x11.toInt = x8.toInt + x10.toInt := by rw [ex11]; exact ti_add rfl rfl (by omega) (by omega)
      refine lv_iload_n hx hb dX3_copyBit_110 rfl (lv_at hl 4 rfl) ?_
      refine lv_bipush (v := (16)) hx hb dX3_copyBit_111 (by decide) ?_
      refine lv_idiv hx hb dX3_copyBit_113 (by decide) ?_
      refine lv_topi (fun x12 ex12 => ?_)
      have hx12 : x12.toInt = x.toInt / (16 : Int) := by rw [ex12]; exact ti_div rfl (by decide : (16 : Int32).toInt = (16 : Int)) (by omega) (by omega)
      refine lv_iadd hx hb dX3_copyBit_114 ?_
      refine lv_topi (fun x13 ex13 => ?_)
      have hx13 : x13.toInt = x11.toInt + x12.toInt := by rw [ex13]; exact ti_add rfl rfl (by omega) (by omega)
      refine lv_istore (lv' := [(8, .int x13), (7, .int x7), (6, .int r1), (5, .int k2), (0, .ref m0), (1, .int x), (2, .int y), (3, .int sx), (4, .int sy)]) hx hb dX3_copyBit_115 hl (by decide) rfl (fun ls hl => ?_)
      refine lv_ldc (own := RX3) (v := (32768)) hx hb hown (hts _ k344) dX3_copyBit_117 ?_
      refine lv_iload_n hx hb dX3_copyBit_119 rfl (lv_at hl 5 rfl) ?_
      refine lv_bipush (v := (16)) hx hb dX3_copyBit_120 (by decide) ?_
      refine lv_irem hx hb dX3_copyBit_122 (by decide) ?_
      refine lv_topi (fun x14 ex14 => ?_)
      have hx14 : x14.toInt = x.toInt % (16 : Int) := by rw [ex14]; exact ti_rem rfl (by decide : (16 : Int32).toInt = (16 : Int)) (by omega) (by omega)
      refine lv_ishr hx hb dX3_copyBit_123 ?_
      refine lv_topi (fun x15 ex15 => ?_)
      refine lv_istore (lv' := [(9, .int x15), (8, .int x13), (7, .int x7), (6, .int r1), (5, .int k2), (0, .ref m0), (1, .int x), (2, .int y), (3, .int sx), (4, .int sy)]) hx hb dX3_copyBit_124 hl (by decide) rfl (fun ls hl => ?_)
      refine lv_aload_n hx hb dX3_copyBit_126 rfl (lv_at hl 5 rfl) ?_
      refine va_get (D := (dC, dI)) (ci := 3) (v := .ref a3) (C := RX3) (T := TX3) (N := 10) hx hb hts inX3 hown hK hP 0 rfl rfl 2 (by decide) (hts _ k292) (fun _ h9 => h9) rfl dX3_copyBit_127 ?_
      refine lv_iload hx hb dX3_copyBit_130 (lv_at hl 1 rfl) ?_
      refine lv_iload hx hb dX3_copyBit_132 (lv_at hl 2 rfl) ?_
      refine lv_iconst (v := 1) hx hb dX3_copyBit_134 (by decide) ?_
      refine lv_icmp_ne (tgt := 151) hx hb dX3_copyBit_135 (by decide) (fun c16 => ?_) (fun c16 => ?_)
      · replace c16 := mt (ti_eq rfl (by decide : (1 : Int32).toInt = (1 : Int))).mpr c16
        refine lv_aload_n hx hb dX3_copyBit_151 rfl (lv_at hl 5 rfl) ?_
        refine va_get (D := (dC, dI)) (ci := 3) (v := .ref a3) (C := RX3) (T := TX3) (N := 10) hx hb hts inX3 hown hK hP 0 rfl rfl 2 (by decide) (hts _ k292) (fun _ h9 => h9) rfl dX3_copyBit_152 ?_
        refine lv_iload hx hb dX3_copyBit_155 (lv_at hl 1 rfl) ?_
        refine iaK hx hb hK hP 3 0 rfl rfl (4000 * tn + (Y * rN wN tn + X / 16)) (by omega) (by omega) dX3_copyBit_157 ?_
        refine lv_topi (fun x17 ex17 => ?_)
        refine lv_iload hx hb dX3_copyBit_158 (lv_at hl 0 rfl) ?_
        refine lv_iconst (v := (-1)) hx hb dX3_copyBit_160 (by decide) ?_
        refine lv_ixor hx hb dX3_copyBit_161 ?_
        refine lv_topi (fun x18 ex18 => ?_)
        refine lv_iand hx hb dX3_copyBit_162 ?_
        refine lv_topi (fun x19 ex19 => ?_)
        have hbits := cb_and (fun j hj => one_bt (a := X % 16) (y := x14) (by omega) (by omega) ex15 hj) ex18 ex19 (b := rB rA (inM B0 sn pn SX SY X Y) (Bt tn X Y)) (bool_nt (fun z => by have := hnz.2.mpr z; omega))
        have hold : x17 = mw ws tn (Y * rN wN tn + X / 16) := ex17
        rw [hold] at hbits
        have hRF := RF_bit hX (by omega) hY fB_tn hbits
        have hM2 := hM.word htn (by omega) (fun j hj => by have z := hRF.1 (Y * rN wN tn + X / 16) j hj; rw [pk_us] at z; exact z) hRF
        refine isK hx hb hK hP hD hS 3 0 rfl rfl (4000 * tn + (Y * rN wN tn + X / 16)) (by omega) (by omega) dX3_copyBit_163 (fun H locs hP hD hS => ?_)
        have hP : va_P (dC, dI) vwCl (w_md m0 a1 a2 a3 a4 a5 a6 cI wd ht (upd ws (4000 * tn + (Y * rN wN tn + X / 16)) x19) bf mk nu tg so pa ru) H := hP
        have hD : va_D A (w_md m0 a1 a2 a3 a4 a5 a6 cI wd ht (upd ws (4000 * tn + (Y * rN wN tn + X / 16)) x19) bf mk nu tg so pa ru) := hD
        exact W.vret hx hb hr (fun t9 ht9 hW9 => ⟨⟨(upd ws (4000 * tn + (Y * rN wN tn + X / 16)) x19), rfl, hM2, by rw [ht9]; exact hP, va_K.moved hW9.alike hK, hD⟩, hS.F ht9⟩) hS.2.2 dX3_copyBit_164
      · replace c16 := (ti_eq rfl (by decide : (1 : Int32).toInt = (1 : Int))).mp c16
        refine lv_aload_n hx hb dX3_copyBit_138 rfl (lv_at hl 5 rfl) ?_
        refine va_get (D := (dC, dI)) (ci := 3) (v := .ref a3) (C := RX3) (T := TX3) (N := 10) hx hb hts inX3 hown hK hP 0 rfl rfl 2 (by decide) (hts _ k292) (fun _ h9 => h9) rfl dX3_copyBit_139 ?_
        refine lv_iload hx hb dX3_copyBit_142 (lv_at hl 1 rfl) ?_
        refine iaK hx hb hK hP 3 0 rfl rfl (4000 * tn + (Y * rN wN tn + X / 16)) (by omega) (by omega) dX3_copyBit_144 ?_
        refine lv_topi (fun x20 ex20 => ?_)
        refine lv_iload hx hb dX3_copyBit_145 (lv_at hl 0 rfl) ?_
        refine lv_ior hx hb dX3_copyBit_147 ?_
        refine lv_topi (fun x21 ex21 => ?_)
        refine lv_goto (tgt := 163) hx hb dX3_copyBit_148 (by decide) ?_
        have hbits := cb_or (fun j hj => one_bt (a := X % 16) (y := x14) (by omega) (by omega) ex15 hj) ex21 (hnz.2.mp (by omega))
        have hold : x20 = mw ws tn (Y * rN wN tn + X / 16) := ex20
        rw [hold] at hbits
        have hRF := RF_bit hX (by omega) hY fB_tn hbits
        have hM2 := hM.word htn (by omega) (fun j hj => by have z := hRF.1 (Y * rN wN tn + X / 16) j hj; rw [pk_us] at z; exact z) hRF
        refine isK hx hb hK hP hD hS 3 0 rfl rfl (4000 * tn + (Y * rN wN tn + X / 16)) (by omega) (by omega) dX3_copyBit_163 (fun H locs hP hD hS => ?_)
        have hP : va_P (dC, dI) vwCl (w_md m0 a1 a2 a3 a4 a5 a6 cI wd ht (upd ws (4000 * tn + (Y * rN wN tn + X / 16)) x21) bf mk nu tg so pa ru) H := hP
        have hD : va_D A (w_md m0 a1 a2 a3 a4 a5 a6 cI wd ht (upd ws (4000 * tn + (Y * rN wN tn + X / 16)) x21) bf mk nu tg so pa ru) := hD
        exact W.vret hx hb hr (fun t9 ht9 hW9 => ⟨⟨(upd ws (4000 * tn + (Y * rN wN tn + X / 16)) x21), rfl, hM2, by rw [ht9]; exact hP, va_K.moved hW9.alike hK, hD⟩, hS.F ht9⟩) hS.2.2 dX3_copyBit_164
    · refine lv_aload_n hx hb dX3_copyBit_21 rfl (lv_at hl 1 rfl) ?_
      refine va_get (D := (dC, dI)) (ci := 3) (v := .int pa) (C := RX3) (T := TX3) (N := 10) hx hb hts inX3 hown hK hP 0 rfl rfl 7 (by decide) (hts _ k297) (fun _ h9 => h9) rfl dX3_copyBit_22 ?_
      refine lv_iconst (v := (-1)) hx hb dX3_copyBit_25 (by decide) ?_
      refine lv_icmp_eq (tgt := 55) hx hb dX3_copyBit_26 (by decide) (fun c22 => ?_) (fun c22 => ?_)
      · replace c22 := (ti_eq rfl (by decide : (-1 : Int32).toInt = (-1 : Int))).mp c22
        refine lv_iload hx hb dX3_copyBit_55 (lv_at hl 0 rfl) ?_
        exact tl2 _ (by unfold inM; rw [patM_n (oz_none (o := pn) (by omega)), Bool.and_true]; exact hk)
      · replace c22 := mt (ti_eq rfl (by decide : (-1 : Int32).toInt = (-1 : Int))).mpr c22
        refine lv_aload_n hx hb dX3_copyBit_29 rfl (lv_at hl 1 rfl) ?_
        refine va_get (D := (dC, dI)) (ci := 3) (v := .ref a5) (C := RX3) (T := TX3) (N := 10) hx hb hts inX3 hown hK hP 0 rfl rfl 4 (by decide) (hts _ k294) (fun _ h9 => h9) rfl dX3_copyBit_30 ?_
        refine lv_iload_n hx hb dX3_copyBit_33 rfl (lv_at hl 3 rfl) ?_
        refine lv_bipush (v := (15)) hx hb dX3_copyBit_34 (by decide) ?_
        refine lv_iand hx hb dX3_copyBit_36 ?_
        refine lv_topi (fun x23 ex23 => ?_)
        have hy15 := and15m ey ex23
        obtain ⟨pq, hpq, hpq2⟩ := oz_some (o := pn) (by omega)
        refine iaK hx hb hK hP 5 0 rfl rfl (Y % 16) (hy15) (by omega) dX3_copyBit_37 ?_
        refine lv_topi (fun x24 ex24 => ?_)
        refine lv_bipush (v := (15)) hx hb dX3_copyBit_38 (by decide) ?_
        refine lv_iload_n hx hb dX3_copyBit_40 rfl (lv_at hl 2 rfl) ?_
        refine lv_bipush (v := (15)) hx hb dX3_copyBit_41 (by decide) ?_
        refine lv_iand hx hb dX3_copyBit_43 ?_
        refine lv_topi (fun x25 ex25 => ?_)
        have hx15 := and15m ex ex25
        refine lv_isub hx hb dX3_copyBit_44 ?_
        refine lv_topi (fun x26 ex26 => ?_)
        have hx26 : x26.toInt = (15 : Int) - x25.toInt := by rw [ex26]; exact ti_sub (by decide : (15 : Int32).toInt = (15 : Int)) rfl (by omega) (by omega)
        refine lv_ishr hx hb dX3_copyBit_45 ?_
        refine lv_topi (fun x27 ex27 => ?_)
        refine lv_iconst (v := 1) hx hb dX3_copyBit_46 (by decide) ?_
        refine lv_iand hx hb dX3_copyBit_47 ?_
        refine lv_topi (fun x28 ex28 => ?_)
        have hpb : x28.toInt = (b1 (B0 pq (X % 16) (Y % 16)) : Int) := by rw [bitM_post (g := mk) (rw := 1) (X := X % 16) (Y := Y % 16) (by rw [ex24]; congr 1; omega) (by omega) ex27 ex28, (hmk pq hpq).2 _ _ (by omega) (by omega), decide_eq_true (by omega), Bool.true_and]
        have hpz := b1_z (B0 pq (X % 16) (Y % 16))
        refine lv_if_ne (tgt := 55) hx hb dX3_copyBit_48 (by decide) (fun c29 => ?_) (fun c29 => ?_)
        · replace c29 := mt (ti_eq rfl (by decide : (0 : Int32).toInt = (0 : Int))).mpr c29
          refine lv_iload hx hb dX3_copyBit_55 (lv_at hl 0 rfl) ?_
          exact tl2 _ (by unfold inM; rw [patM_s hpq, bool_nf (b := B0 pq (X % 16) (Y % 16)) (fun z => by have := hpz.1.mpr z; omega), Bool.and_true]; exact hk)
        · replace c29 := (ti_eq rfl (by decide : (0 : Int32).toInt = (0 : Int))).mp c29
          refine lv_iconst (v := 0) hx hb dX3_copyBit_51 (by decide) ?_
          refine lv_goto (tgt := 57) hx hb dX3_copyBit_52 (by decide) ?_
          exact tl2 _ (by unfold inM; rw [patM_s hpq, hpz.1.mp (by omega), Bool.and_false]; rfl)
  · refine lv_aload_n hx hb dX3_copyBit_0 rfl (lv_at hl 0 rfl) ?_
    refine va_get (D := (dC, dI)) (ci := 3) (v := .int so) (C := RX3) (T := TX3) (N := 10) hx hb hts inX3 hown hK hP 0 rfl rfl 6 (by decide) (hts _ k296) (fun _ h9 => h9) rfl dX3_copyBit_1 ?_
    refine lv_iconst (v := (-1)) hx hb dX3_copyBit_4 (by decide) ?_
    refine lv_icmp_ne (tgt := 12) hx hb dX3_copyBit_5 (by decide) (fun c30 => ?_) (fun c30 => ?_)
    · replace c30 := mt (ti_eq rfl (by decide : (-1 : Int32).toInt = (-1 : Int))).mpr c30
      refine lv_aload_n hx hb dX3_copyBit_12 rfl (lv_at hl 0 rfl) ?_
      refine lv_iload_n hx hb dX3_copyBit_13 rfl (lv_at hl 3 rfl) ?_
      refine lv_iload hx hb dX3_copyBit_14 (lv_at hl 4 rfl) ?_
      obtain ⟨sv, hsv, hs9⟩ := oz_some (o := sn) (by omega)
      obtain ⟨q1, q2, q3, q4⟩ := hsx sv hsv
      refine vp_callSi (va_Run.run (va_runV (As := [.int sx, .int sy]) (rest := []) ⟨hx, hb, hml, hown, hts⟩ (mX3_sourceBit l sx sy hM (Bs := B0 sv) hsv q1 q2 q3 q4 (fun z => by subst z; exact hbf0 hsv) (fun z => by rw [← hne sv hsv z]; exact hM.rf sv (hsn sv hsv))) (cwV 2 hts (gA (m4 k418 k420 ksel18 k4) k421) rfl rfl rfl (by decide +kernel) ⟨Nat.le_of_ble_eq_true rfl, Nat.le_of_ble_eq_true rfl⟩) (prRV hP hK hNS rfl (show (w_md m0 a1 a2 a3 a4 a5 a6 cI wd ht ws bf mk nu tg so pa ru)[0]? = some (m0, .inr (3, [.ref a1, .ref a2, .ref a3, .ref a4, .ref a5, .int tg, .int so, .int pa, .int ru, .ref a6])) from rfl)) rfl rfl hl.1 rfl (lv_room (Nat.le_of_ble_eq_true rfl)) dX3_copyBit_16 ⟨Nat.le_of_ble_eq_true rfl, Nat.le_of_ble_eq_true rfl⟩)) (fun r31 hwr31 => ?_)
      try dsimp only at hwr31
      exact tl _ (by rw [srcM_s hsv]; exact hwr31)
    · replace c30 := (ti_eq rfl (by decide : (-1 : Int32).toInt = (-1 : Int))).mp c30
      refine lv_iconst (v := 1) hx hb dX3_copyBit_8 (by decide) ?_
      refine lv_goto (tgt := 19) hx hb dX3_copyBit_9 (by decide) ?_
      exact tl _ (by rw [srcM_n (oz_none (o := sn) (by omega))]; rfl)
