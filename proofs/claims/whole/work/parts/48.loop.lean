set_option maxHeartbeats 8000000 in
set_option maxRecDepth 100000 in
theorem law_loop {p : Program} {l : Launch} {e : Env} {s : State} {m : MethodId} {below : List Frame} {meth : Method} {c : Code} {dC : Nat → ClassId} {dI : Nat → Nat → Nat} {b L : Nat} {xs : Nat → Int32} {q0 qa qn qx qy : Nat} {cI cF : ClassId} {fa : Nat → Nat} {m0 a1 a2 a3 a4 a5 a6 : Nat} (hL : L ≤ 2048) (C0 : lw_At p s m meth c b L xs) (hK : va_K (dC, dI) vwCl (tyB cI cF) s) :
    ∀ (n j : Nat) (x3 : Int32), 4 * j ≤ L → L + 4 ≤ 4 * (j + n) → x3.toInt = 4 * (j : Int) → ∀ (H : Heap) (locs : List Loc), Sg dC dI s q0 qa qn qx qy cI cF fa m0 a1 a2 a3 a4 a5 a6 H locs → ∀ (ls : Array Slot), lv_has ls 4 [(0, .ref b), (1, .ref q0), (2, .ref m0), (3, .int x3)] → W p l e room_1 s m #[Value.ref b] below meth c H locs (20 + j) (20152 + 4000 * j) (lw_Z below #[Value.ref b] s) (F0 m 18 ls []) := by
  obtain ⟨hx, hb, hr, hml, hown0, hts0, hX, hbl, hlocks, hgv⟩ := id C0
  have hown : s.vm.findClass RL = some m.cls := hown0
  have hts : ∀ w ∈ tblG, w.before #[Value.ref b] s = true := fun w h => hts0 w (tblG_in h)
  have hNS := NS.start hts0
  have hA : ∀ q : Nat, s.heap.size ≤ q → (fun q : Nat => s.heap.size ≤ q) q := fun _ h => h
  have hbA : ¬ (fun q : Nat => s.heap.size ≤ q) b := Nat.not_le.mpr hbl
  intro n
  induction n with
  | zero =>
    intro j x3 h1 h2
    exact absurd h2 (by omega)
  | succ n ih =>
    intro j x3 h1 h2 hx3 H locs hG ls hl
    have hS : va_S (fun q : Nat => s.heap.size ≤ q) s.heap H locs := by
      obtain ⟨_, _, _, _, _, _, _, _, _, _, _, _, _, _, _, _, _, _, _, _, _, _, _, -, -, -, hS⟩ := hG
      exact hS
    refine lv_iload_n hx hb dL_law_18 rfl (lv_at hl 3 rfl) ?_
    refine lv_aload_n hx hb dL_law_19 rfl (lv_at hl 0 rfl) ?_
    refine va_slen hx hb hX hbl hbA hS dL_law_20 ?_
    refine lv_iconst (v := 4) hx hb dL_law_21 (by decide) ?_
    refine lv_isub hx hb dL_law_22 ?_
    have hLn : (Int32.ofNat L).toInt = (L : Int) := nI_toInt (by omega)
    have hL4 := ti_sub hLn (by decide : (4 : Int32).toInt = (4 : Int)) (by omega) (by omega)
    refine lv_icmp_gt (tgt := 524) hx hb dL_law_23 (by decide) (fun c23 => ?_) (fun c23 => ?_)
    · refine lv_iconst (v := 1) hx hb dL_law_524 (by decide) ?_
      refine va_forget (fun q hq => hS.2.2 q hq) ?_
      refine W.widen (k := 600000) (n := 7302250) (by omega) (by omega) ?_
      exact lw_ret hx hb hr hlocks dL_law_525
    · have c24 := mt (ti_lt hL4 hx3).mpr c23
      have hj : 4 * j + 4 ≤ L := by omega
      have i0 : vp_in x3 L := vp_in_iff.mpr (ix_of hx3 ⟨by omega, by omega⟩)
      have kk : ∀ (H : Heap) (locs : List Loc), Sg dC dI s q0 qa qn qx qy cI cF fa m0 a1 a2 a3 a4 a5 a6 H locs → W p l e room_1 s m #[Value.ref b] below meth c H locs (20 + (j + 1)) (20152 + 4000 * (j + 1)) (lw_Z below #[Value.ref b] s) (F0 m 518 ls []) := by
        intro H locs hG
        obtain ⟨x4, ex4⟩ : ∃ y : Int32, y = x3 + 4 := ⟨_, rfl⟩
        have hx4 : x4.toInt = 4 * (j : Int) + 4 := by rw [ex4]; exact ti_add hx3 (by decide) (by omega) (by omega)
        refine lv_iinc (v := x4) (lv' := [(3, .int x4), (0, .ref b), (1, .ref q0), (2, .ref m0)]) hx hb dL_law_518 hl (k := 3) rfl (by rw [ex4]; rfl) (by decide) rfl (fun ls hl => ?_)
        refine lv_goto (tgt := 18) hx hb dL_law_521 (by decide) ?_
        exact ih (j + 1) x4 (by omega) (by omega) (by omega) H locs hG ls (lv_sub hl [1, 2, 3, 0] rfl)
      refine lv_aload_n hx hb dL_law_26 rfl (lv_at hl 0 rfl) ?_
      refine lv_iload_n hx hb dL_law_27 rfl (lv_at hl 3 rfl) ?_
      refine va_sld hx hb hX hbl hbA hS i0 dL_law_28 ?_
      refine lv_bipush (v := 15) hx hb dL_law_29 (by decide) ?_
      refine lv_iand hx hb dL_law_31 ?_
      refine lv_topi (fun y ey => ?_)
      clear ey
      rcases (show y.toInt = 0 ∨ y.toInt = 1 ∨ y.toInt = 2 ∨ y.toInt = 3 ∨ y.toInt = 4 ∨ y.toInt = 5 ∨ y.toInt = 6 ∨ y.toInt = 7 ∨ y.toInt = 8 ∨ y.toInt = 9 ∨ y.toInt = 10 ∨ y.toInt = 11 ∨ (y.toInt < 0 ∨ 11 < y.toInt) by omega) with hy | hy | hy | hy | hy | hy | hy | hy | hy | hy | hy | hy | hy
      · refine lv_tableIn (off := 64) (tgt := 96) hx hb dL_law_32 (by omega) (by omega) (by rw [hy]; rfl) (by decide) ?_
        exact lc_form hL C0 hK hG hj hx3 hl kk
      · refine lv_tableIn (off := 107) (tgt := 139) hx hb dL_law_32 (by omega) (by omega) (by rw [hy]; rfl) (by decide) ?_
        exact lc_put hL C0 hK hG hj hx3 hl kk
      · refine lv_tableIn (off := 150) (tgt := 182) hx hb dL_law_32 (by omega) (by omega) (by rw [hy]; rfl) (by decide) ?_
        exact lc_word hL C0 hK hG hj hx3 hl kk
      · refine lv_tableIn (off := 183) (tgt := 215) hx hb dL_law_32 (by omega) (by omega) (by rw [hy]; rfl) (by decide) ?_
        exact lc_bit hL C0 hK hG hj hx3 hl kk
      · refine lv_tableIn (off := 226) (tgt := 258) hx hb dL_law_32 (by omega) (by omega) (by rw [hy]; rfl) (by decide) ?_
        exact lc_count hL C0 hK hG hj hx3 hl kk
      · refine lv_tableIn (off := 249) (tgt := 281) hx hb dL_law_32 (by omega) (by omega) (by rw [hy]; rfl) (by decide) ?_
        exact lc_same hL C0 hK hG hj hx3 hl kk
      · refine lv_tableIn (off := 282) (tgt := 314) hx hb dL_law_32 (by omega) (by omega) (by rw [hy]; rfl) (by decide) ?_
        exact lc_forms hL C0 hK hG hj hx3 hl kk
      · refine lv_tableIn (off := 325) (tgt := 357) hx hb dL_law_32 (by omega) (by omega) (by rw [hy]; rfl) (by decide) ?_
        exact lc_rule hL C0 hK hG hj hx3 hl kk
      · refine lv_tableIn (off := 348) (tgt := 380) hx hb dL_law_32 (by omega) (by omega) (by rw [hy]; rfl) (by decide) ?_
        exact lc_set hL C0 hK hG hj hx3 hl kk
      · refine lv_tableIn (off := 391) (tgt := 423) hx hb dL_law_32 (by omega) (by omega) (by rw [hy]; rfl) (by decide) ?_
        exact lc_order hL C0 hK hG hj hx3 hl kk
      · refine lv_tableIn (off := 440) (tgt := 472) hx hb dL_law_32 (by omega) (by omega) (by rw [hy]; rfl) (by decide) ?_
        exact lc_copy hL C0 hK hG hj hx3 hl kk
      · refine lv_tableIn (off := 453) (tgt := 485) hx hb dL_law_32 (by omega) (by omega) (by rw [hy]; rfl) (by decide) ?_
        exact lc_line hL C0 hK hG hj hx3 hl kk
      · refine lv_tableOut (tgt := 518) hx hb dL_law_32 hy (by decide) ?_
        refine W.widen (k := 20 + (j + 1)) (n := 20152 + 4000 * (j + 1)) (by omega) (by omega) ?_
        exact kk H locs hG
