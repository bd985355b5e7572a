/-! THE CLAIM OUT OF ONE WALK OF THE LAW'S BODY. Your part is whole_start (and what it stands on); all else here is the same for every law, but numbers. -/
def R_law : String := "BitCopierLaw"
def lw_P (b : Addr) (xs : List Int32) (args : Array Value) (s : State) : Prop := args = #[.ref b] ∧ s.IntsAt b xs ∧ xs.length ≤ 2048 ∧ (Jvm.Cond.and given_1 narrow_1).before args s = true
def lw_Q (_ : Array Value) (s : State) (o : Outcome) (t : State) : Prop := o = .returned (some (.int 1)) ∧ Framed s o t [] 600000 7302250
def lw_Z (below : List Frame) (a : Array Value) (s : State) : State → Prop := fun t => ∃ o, t.status = .running ∧ Ended t below o ∧ lw_Q a s o t
/-- the law's own end, with 1 on the stack, nothing written that was there before, its room as the claim has it -/
theorem lw_ret {p : Program} {l : Launch} {e : Env} {s : State} {m : MethodId} {below : List Frame} {meth : Method} {c : Code} {b : Nat} (hx : p.tables.exec = Jvm.exec) (hb : c.code = code) (hr : meth.sig.returnType = ret) (hlocks : meth.locks = false) {pc : Nat} {H : Heap} {ls : Array Slot} (hdg : decode code pc = .ok (.ireturn, 1)) : W p l e room_1 s m #[Value.ref b] below meth c H [] 600000 7302250 (lw_Z below #[Value.ref b] s) (F0 m pc ls [.int 1]) := by
  intro T hT X
  obtain ⟨fs, hret, hrun, hended, hW, hframe⟩ := X.leave (v := some (.int 1)) (hlocks := hlocks) (fun h => by rw [hr] at h; cases h)
  have hmeth' : T.vm.method? m = some meth := X.method'
  refine ⟨T.setFrames fs, ?_, .returned (some (.int 1)), hrun, hended, rfl, ⟨_, rfl⟩, hW, hframe⟩
  jvm_step X.here [X.here.top, hx, hb, hdg, hmeth', hr, ret, narrow_b1]
  (try refine ⟨rfl, ?_⟩); (try refine ⟨rfl, ?_⟩)
  first | (intro acts; rw [hret _ acts rfl rfl rfl]) | rw [hret _ _ rfl rfl rfl]
  exact Steps.refl _
/-- what holds at the law's entry: the machine, the code, the tables' words (any of lw_tbl by 'hts w (by decide +kernel)'), the script of L ints xs at the cell b, what the Statement gives of the start (any of its parts by flat_of_before) -/
def lw_At (p : Program) (s : State) (m : MethodId) (meth : Method) (c : Code) (b L : Nat) (xs : Nat → Int32) : Prop :=
  p.tables.exec = Jvm.exec ∧ c.code = code ∧ meth.sig.returnType = ret ∧ c.maxLocals = 4 ∧ s.vm.findClass R_law = some m.cls ∧ (∀ w ∈ lw_tbl, w.before #[Value.ref b] s = true) ∧ va_X b L xs s s.heap ∧ b < s.heap.size ∧ meth.locks = false ∧ (Jvm.Cond.and given_1 narrow_1).before #[Value.ref b] s = true
/-- class and reference side by side in the heap, both standing for one state -/
def Sg (dC : Nat → ClassId) (dI : Nat → Nat → Nat) (s : State) (q0 qa qn qx qy : Nat) (cI cF : ClassId) (fa : Nat → Nat) (m0 a1 a2 a3 a4 a5 a6 : Nat) (H : Heap) (locs : List Loc) : Prop :=
  ∃ (ar ln : Nat → Nat) (wd ht rw : Nat → Int32) (g : Nat → Nat → Int32) (nu : Nat → Int32) (X Y : Int32 × Int32 × Int32) (tg : Nat) (so pa : Option Nat) (ru : Int32) (wd2 ht2 ws bf mk nu2 : Nat → Int32) (t2 s2 p2 r2 : Int32), LI ln wd ht rw g nu tg so pa ru wd2 ht2 ws bf mk nu2 t2 s2 p2 r2 ∧ va_P (dC, dI) vwCl (w_bc q0 qa qn qx qy cI cF fa ar ln wd ht rw g nu X Y tg so pa ru ++ w_md m0 a1 a2 a3 a4 a5 a6 cI wd2 ht2 ws bf mk nu2 t2 s2 p2 r2) H ∧ va_D (fun q : Nat => s.heap.size ≤ q) (w_bc q0 qa qn qx qy cI cF fa ar ln wd ht rw g nu X Y tg so pa ru ++ w_md m0 a1 a2 a3 a4 a5 a6 cI wd2 ht2 ws bf mk nu2 t2 s2 p2 r2) ∧ va_S (fun q : Nat => s.heap.size ≤ q) s.heap H locs
set_option maxHeartbeats 8000000 in
set_option maxRecDepth 100000 in
theorem lc_form {p : Program} {l : Launch} {e : Env} {s : State} {m : MethodId} {below : List Frame} {meth : Method} {c : Code} {dC : Nat → ClassId} {dI : Nat → Nat → Nat} {b L : Nat} {xs : Nat → Int32} {q0 qa qn qx qy : Nat} {cI cF : ClassId} {fa : Nat → Nat} {m0 a1 a2 a3 a4 a5 a6 : Nat} (hL : L ≤ 2048) (C0 : lw_At p s m meth c b L xs) (hK : va_K (dC, dI) vwCl (tyB cI cF) s) {H : Heap} {locs : List Loc} (hG : Sg dC dI s q0 qa qn qx qy cI cF fa m0 a1 a2 a3 a4 a5 a6 H locs) {j : Nat} (hj : 4 * j + 4 ≤ L) {x3 : Int32} (hx3 : x3.toInt = 4 * (j : Int)) {ls : Array Slot} (hl : lv_has ls 4 [(0, .ref b), (1, .ref q0), (2, .ref m0), (3, .int x3)]) {Q : State → Prop} (kk : ∀ (H : Heap) (locs : List Loc), Sg dC dI s q0 qa qn qx qy cI cF fa m0 a1 a2 a3 a4 a5 a6 H locs → W p l e room_1 s m #[Value.ref b] below meth c H locs (20 + (j + 1)) (20152 + 4000 * (j + 1)) Q (F0 m 518 ls [])) : W p l e room_1 s m #[Value.ref b] below meth c H locs (20 + j) (20152 + 4000 * j) Q (F0 m 96 ls []) := by
  obtain ⟨hx, hb, hr, hml, hown0, hts0, hX, hbl, hlocks, hgv⟩ := id C0
  have hown : s.vm.findClass RL = some m.cls := hown0
  have hts : ∀ w ∈ tblG, w.before #[Value.ref b] s = true := fun w h => hts0 w (tblG_in h)
  have hNS := NS.start hts0
  have hA : ∀ q : Nat, s.heap.size ≤ q → (fun q : Nat => s.heap.size ≤ q) q := fun _ h => h
  have hbA : ¬ (fun q : Nat => s.heap.size ≤ q) b := Nat.not_le.mpr hbl
  have hKm : va_K (dC, dI) vwCl (tyM cI) s := hK.sub [0] rfl
  obtain ⟨ar, ln, wd, ht, rw, g, nu, X, Y, tg, so, pa, ru, wd2, ht2, ws, bf, mk, nu2, t2, s2, p2, r2, hLI, hP, hD, hS⟩ := hG
  obtain ⟨wN, hN, Bt, nz, hR, hM, hmk, hbf⟩ := hLI
  have i1 : vp_in (x3 + 1) L := vp_in_iff.mpr (ix_of (ti_add hx3 (by decide : (1 : Int32).toInt = (1 : Int)) (by omega) (by omega)) ⟨by omega, by omega⟩)
  have i2 : vp_in (x3 + 2) L := vp_in_iff.mpr (ix_of (ti_add hx3 (by decide : (2 : Int32).toInt = (2 : Int)) (by omega) (by omega)) ⟨by omega, by omega⟩)
  have i3 : vp_in (x3 + 3) L := vp_in_iff.mpr (ix_of (ti_add hx3 (by decide : (3 : Int32).toInt = (3 : Int)) (by omega) (by omega)) ⟨by omega, by omega⟩)
  refine lv_aload_n hx hb dL_law_96 rfl (lv_at hl 1 rfl) ?_
  refine lv_aload_n hx hb dL_law_97 rfl (lv_at hl 0 rfl) ?_
  refine lv_iload_n hx hb dL_law_98 rfl (lv_at hl 3 rfl) ?_
  refine lv_iconst (v := 1) hx hb dL_law_99 (by decide) ?_
  refine lv_iadd hx hb dL_law_100 ?_
  refine va_sld hx hb hX hbl hbA hS i1 dL_law_101 ?_
  refine lv_aload_n hx hb dL_law_102 rfl (lv_at hl 0 rfl) ?_
  refine lv_iload_n hx hb dL_law_103 rfl (lv_at hl 3 rfl) ?_
  refine lv_iconst (v := 2) hx hb dL_law_104 (by decide) ?_
  refine lv_iadd hx hb dL_law_105 ?_
  refine va_sld hx hb hX hbl hbA hS i2 dL_law_106 ?_
  refine lv_aload_n hx hb dL_law_107 rfl (lv_at hl 0 rfl) ?_
  refine lv_iload_n hx hb dL_law_108 rfl (lv_at hl 3 rfl) ?_
  refine lv_iconst (v := 3) hx hb dL_law_109 (by decide) ?_
  refine lv_iadd hx hb dL_law_110 ?_
  refine va_sld hx hb hX hbl hbA hS i3 dL_law_111 ?_
  refine cL_i (va_runV (As := [.int (xs (x3 + 1).toNatClampNeg), .int (xs (x3 + 2).toNatClampNeg), .int (xs (x3 + 3).toNatClampNeg)]) (rest := []) ⟨hx, hb, hml, hown, hts⟩ (mX2_form l (xs (x3 + 1).toNatClampNeg) (xs (x3 + 2).toNatClampNeg) (xs (x3 + 3).toNatClampNeg) hR) (cwV 3 hts (gA (m4 k85 k86 k87 k1) k88) rfl rfl rfl (by decide +kernel) ⟨Nat.le_of_ble_eq_true rfl, Nat.le_of_ble_eq_true rfl⟩) (prWV (P_l hP) hK hNS (D_l hD) rfl (show (w_bc q0 qa qn qx qy cI cF fa ar ln wd ht rw g nu X Y tg so pa ru)[0]? = some (q0, .inr (2, [.ref qa, .ref qn, .ref qx, .ref qy, .ref (fa tg), va_rf ((so).map fa), va_rf ((pa).map fa), .int ru])) from rfl)) rfl rfl hl.1 rfl (lv_room (Nat.le_of_ble_eq_true rfl)) dL_law_112 ⟨by show 20 + j + 1 ≤ 600000; omega, by show 20152 + 4000 * j + 4000 ≤ 7302250; omega⟩) hP hD hS hA (fun r1' u1 H locs hw1 hP hD hS => ?_)
  refine lv_aload_n hx hb dL_law_115 rfl (lv_at hl 2 rfl) ?_
  refine lv_aload_n hx hb dL_law_116 rfl (lv_at hl 0 rfl) ?_
  refine lv_iload_n hx hb dL_law_117 rfl (lv_at hl 3 rfl) ?_
  refine lv_iconst (v := 1) hx hb dL_law_118 (by decide) ?_
  refine lv_iadd hx hb dL_law_119 ?_
  refine va_sld hx hb hX hbl hbA hS i1 dL_law_120 ?_
  refine lv_aload_n hx hb dL_law_121 rfl (lv_at hl 0 rfl) ?_
  refine lv_iload_n hx hb dL_law_122 rfl (lv_at hl 3 rfl) ?_
  refine lv_iconst (v := 2) hx hb dL_law_123 (by decide) ?_
  refine lv_iadd hx hb dL_law_124 ?_
  refine va_sld hx hb hX hbl hbA hS i2 dL_law_125 ?_
  refine lv_aload_n hx hb dL_law_126 rfl (lv_at hl 0 rfl) ?_
  refine lv_iload_n hx hb dL_law_127 rfl (lv_at hl 3 rfl) ?_
  refine lv_iconst (v := 3) hx hb dL_law_128 (by decide) ?_
  refine lv_iadd hx hb dL_law_129 ?_
  refine va_sld hx hb hX hbl hbA hS i3 dL_law_130 ?_
  refine cR_i (va_runV (As := [.int (xs (x3 + 1).toNatClampNeg), .int (xs (x3 + 2).toNatClampNeg), .int (xs (x3 + 3).toNatClampNeg)]) (rest := [.int r1']) ⟨hx, hb, hml, hown, hts⟩ (mX3_form l (xs (x3 + 1).toNatClampNeg) (xs (x3 + 2).toNatClampNeg) (xs (x3 + 3).toNatClampNeg) hM) (cwV 3 hts (gA (m4 k321 k322 k323 k4) k324) rfl rfl rfl (by decide +kernel) ⟨Nat.le_of_ble_eq_true rfl, Nat.le_of_ble_eq_true rfl⟩) (prWV (P_r hP) hKm hNS (D_r hD) rfl (show (w_md m0 a1 a2 a3 a4 a5 a6 cI wd2 ht2 ws bf mk nu2 t2 s2 p2 r2)[0]? = some (m0, .inr (3, [.ref a1, .ref a2, .ref a3, .ref a4, .ref a5, .int t2, .int s2, .int p2, .int r2, .ref a6])) from rfl)) rfl rfl hl.1 rfl (lv_room (Nat.le_of_ble_eq_true rfl)) dL_law_131 ⟨by show 20 + j + 1 + 0 ≤ 600000; omega, by show 20152 + 4000 * j + 4000 + 0 ≤ 7302250; omega⟩) hP hD hS hA (fun r2' u2 H locs hw2 hP hD hS => ?_)
  obtain ⟨heq, hLI⟩ := J_form hM hR hmk hbf hw1 hw2
  refine lv_icmp_eq (tgt := 518) hx hb dL_law_134 (by decide) (fun _ => ?_) (fun c9 => absurd heq c9)
  refine W.widen (k := 20 + (j + 1)) (n := 20152 + 4000 * (j + 1)) (by omega) (by omega) ?_
  exact kk _ _ ⟨u1.1, u1.2.1, u1.2.2.1, u1.2.2.2.1, u1.2.2.2.2.1, u1.2.2.2.2.2, nu, X, Y, tg, so, pa, ru, u2.1, u2.2.1, u2.2.2, bf, mk, nu2, t2, s2, p2, r2, hLI, hP, hD, hS⟩
set_option maxHeartbeats 8000000 in
set_option maxRecDepth 100000 in
theorem lc_put {p : Program} {l : Launch} {e : Env} {s : State} {m : MethodId} {below : List Frame} {meth : Method} {c : Code} {dC : Nat → ClassId} {dI : Nat → Nat → Nat} {b L : Nat} {xs : Nat → Int32} {q0 qa qn qx qy : Nat} {cI cF : ClassId} {fa : Nat → Nat} {m0 a1 a2 a3 a4 a5 a6 : Nat} (hL : L ≤ 2048) (C0 : lw_At p s m meth c b L xs) (hK : va_K (dC, dI) vwCl (tyB cI cF) s) {H : Heap} {locs : List Loc} (hG : Sg dC dI s q0 qa qn qx qy cI cF fa m0 a1 a2 a3 a4 a5 a6 H locs) {j : Nat} (hj : 4 * j + 4 ≤ L) {x3 : Int32} (hx3 : x3.toInt = 4 * (j : Int)) {ls : Array Slot} (hl : lv_has ls 4 [(0, .ref b), (1, .ref q0), (2, .ref m0), (3, .int x3)]) {Q : State → Prop} (kk : ∀ (H : Heap) (locs : List Loc), Sg dC dI s q0 qa qn qx qy cI cF fa m0 a1 a2 a3 a4 a5 a6 H locs → W p l e room_1 s m #[Value.ref b] below meth c H locs (20 + (j + 1)) (20152 + 4000 * (j + 1)) Q (F0 m 518 ls [])) : W p l e room_1 s m #[Value.ref b] below meth c H locs (20 + j) (20152 + 4000 * j) Q (F0 m 139 ls []) := by
  obtain ⟨hx, hb, hr, hml, hown0, hts0, hX, hbl, hlocks, hgv⟩ := id C0
  have hown : s.vm.findClass RL = some m.cls := hown0
  have hts : ∀ w ∈ tblG, w.before #[Value.ref b] s = true := fun w h => hts0 w (tblG_in h)
  have hNS := NS.start hts0
  have hA : ∀ q : Nat, s.heap.size ≤ q → (fun q : Nat => s.heap.size ≤ q) q := fun _ h => h
  have hbA : ¬ (fun q : Nat => s.heap.size ≤ q) b := Nat.not_le.mpr hbl
  have hKm : va_K (dC, dI) vwCl (tyM cI) s := hK.sub [0] rfl
  obtain ⟨ar, ln, wd, ht, rw, g, nu, X, Y, tg, so, pa, ru, wd2, ht2, ws, bf, mk, nu2, t2, s2, p2, r2, hLI, hP, hD, hS⟩ := hG
  obtain ⟨wN, hN, Bt, nz, hR, hM, hmk, hbf⟩ := hLI
  have i1 : vp_in (x3 + 1) L := vp_in_iff.mpr (ix_of (ti_add hx3 (by decide : (1 : Int32).toInt = (1 : Int)) (by omega) (by omega)) ⟨by omega, by omega⟩)
  have i2 : vp_in (x3 + 2) L := vp_in_iff.mpr (ix_of (ti_add hx3 (by decide : (2 : Int32).toInt = (2 : Int)) (by omega) (by omega)) ⟨by omega, by omega⟩)
  have i3 : vp_in (x3 + 3) L := vp_in_iff.mpr (ix_of (ti_add hx3 (by decide : (3 : Int32).toInt = (3 : Int)) (by omega) (by omega)) ⟨by omega, by omega⟩)
  refine lv_aload_n hx hb dL_law_139 rfl (lv_at hl 1 rfl) ?_
  refine lv_aload_n hx hb dL_law_140 rfl (lv_at hl 0 rfl) ?_
  refine lv_iload_n hx hb dL_law_141 rfl (lv_at hl 3 rfl) ?_
  refine lv_iconst (v := 1) hx hb dL_law_142 (by decide) ?_
  refine lv_iadd hx hb dL_law_143 ?_
  refine va_sld hx hb hX hbl hbA hS i1 dL_law_144 ?_
  refine lv_aload_n hx hb dL_law_145 rfl (lv_at hl 0 rfl) ?_
  refine lv_iload_n hx hb dL_law_146 rfl (lv_at hl 3 rfl) ?_
  refine lv_iconst (v := 2) hx hb dL_law_147 (by decide) ?_
  refine lv_iadd hx hb dL_law_148 ?_
  refine va_sld hx hb hX hbl hbA hS i2 dL_law_149 ?_
  refine lv_aload_n hx hb dL_law_150 rfl (lv_at hl 0 rfl) ?_
  refine lv_iload_n hx hb dL_law_151 rfl (lv_at hl 3 rfl) ?_
  refine lv_iconst (v := 3) hx hb dL_law_152 (by decide) ?_
  refine lv_iadd hx hb dL_law_153 ?_
  refine va_sld hx hb hX hbl hbA hS i3 dL_law_154 ?_
  refine cL_i (va_runV (As := [.int (xs (x3 + 1).toNatClampNeg), .int (xs (x3 + 2).toNatClampNeg), .int (xs (x3 + 3).toNatClampNeg)]) (rest := []) ⟨hx, hb, hml, hown, hts⟩ (mX2_put l (xs (x3 + 1).toNatClampNeg) (xs (x3 + 2).toNatClampNeg) (xs (x3 + 3).toNatClampNeg) hR) (cwV 3 hts (gA (m4 k113 k114 k115 k1) k116) rfl rfl rfl (by decide +kernel) ⟨Nat.le_of_ble_eq_true rfl, Nat.le_of_ble_eq_true rfl⟩) (prWV (P_l hP) hK hNS (D_l hD) rfl (show (w_bc q0 qa qn qx qy cI cF fa ar ln wd ht rw g nu X Y tg so pa ru)[0]? = some (q0, .inr (2, [.ref qa, .ref qn, .ref qx, .ref qy, .ref (fa tg), va_rf ((so).map fa), va_rf ((pa).map fa), .int ru])) from rfl)) rfl rfl hl.1 rfl (lv_room (Nat.le_of_ble_eq_true rfl)) dL_law_155 ⟨by show 20 + j + 0 ≤ 600000; omega, by show 20152 + 4000 * j + 0 ≤ 7302250; omega⟩) hP hD hS hA (fun r1' u1 H locs hw1 hP hD hS => ?_)
  refine lv_aload_n hx hb dL_law_158 rfl (lv_at hl 2 rfl) ?_
  refine lv_aload_n hx hb dL_law_159 rfl (lv_at hl 0 rfl) ?_
  refine lv_iload_n hx hb dL_law_160 rfl (lv_at hl 3 rfl) ?_
  refine lv_iconst (v := 1) hx hb dL_law_161 (by decide) ?_
  refine lv_iadd hx hb dL_law_162 ?_
  refine va_sld hx hb hX hbl hbA hS i1 dL_law_163 ?_
  refine lv_aload_n hx hb dL_law_164 rfl (lv_at hl 0 rfl) ?_
  refine lv_iload_n hx hb dL_law_165 rfl (lv_at hl 3 rfl) ?_
  refine lv_iconst (v := 2) hx hb dL_law_166 (by decide) ?_
  refine lv_iadd hx hb dL_law_167 ?_
  refine va_sld hx hb hX hbl hbA hS i2 dL_law_168 ?_
  refine lv_aload_n hx hb dL_law_169 rfl (lv_at hl 0 rfl) ?_
  refine lv_iload_n hx hb dL_law_170 rfl (lv_at hl 3 rfl) ?_
  refine lv_iconst (v := 3) hx hb dL_law_171 (by decide) ?_
  refine lv_iadd hx hb dL_law_172 ?_
  refine va_sld hx hb hX hbl hbA hS i3 dL_law_173 ?_
  refine cR_i (va_runV (As := [.int (xs (x3 + 1).toNatClampNeg), .int (xs (x3 + 2).toNatClampNeg), .int (xs (x3 + 3).toNatClampNeg)]) (rest := [.int r1']) ⟨hx, hb, hml, hown, hts⟩ (mX3_put l (xs (x3 + 1).toNatClampNeg) (xs (x3 + 2).toNatClampNeg) (xs (x3 + 3).toNatClampNeg) hM) (cwV 3 hts (gA (m4 k335 k336 k337 k4) k338) rfl rfl rfl (by decide +kernel) ⟨Nat.le_of_ble_eq_true rfl, Nat.le_of_ble_eq_true rfl⟩) (prWV (P_r hP) hKm hNS (D_r hD) rfl (show (w_md m0 a1 a2 a3 a4 a5 a6 cI wd2 ht2 ws bf mk nu2 t2 s2 p2 r2)[0]? = some (m0, .inr (3, [.ref a1, .ref a2, .ref a3, .ref a4, .ref a5, .int t2, .int s2, .int p2, .int r2, .ref a6])) from rfl)) rfl rfl hl.1 rfl (lv_room (Nat.le_of_ble_eq_true rfl)) dL_law_174 ⟨by show 20 + j + 0 + 0 ≤ 600000; omega, by show 20152 + 4000 * j + 0 + 0 ≤ 7302250; omega⟩) hP hD hS hA (fun r2' u2 H locs hw2 hP hD hS => ?_)
  obtain ⟨heq, hLI⟩ := J_put hM hR hmk hbf hw1 hw2
  refine lv_icmp_eq (tgt := 518) hx hb dL_law_177 (by decide) (fun _ => ?_) (fun c9 => absurd heq c9)
  refine W.widen (k := 20 + (j + 1)) (n := 20152 + 4000 * (j + 1)) (by omega) (by omega) ?_
  exact kk _ _ ⟨ar, ln, wd, ht, rw, u1, nu, X, Y, tg, so, pa, ru, wd2, ht2, u2, bf, mk, nu2, t2, s2, p2, r2, hLI, hP, hD, hS⟩
set_option maxHeartbeats 8000000 in
set_option maxRecDepth 100000 in
theorem lc_word {p : Program} {l : Launch} {e : Env} {s : State} {m : MethodId} {below : List Frame} {meth : Method} {c : Code} {dC : Nat → ClassId} {dI : Nat → Nat → Nat} {b L : Nat} {xs : Nat → Int32} {q0 qa qn qx qy : Nat} {cI cF : ClassId} {fa : Nat → Nat} {m0 a1 a2 a3 a4 a5 a6 : Nat} (hL : L ≤ 2048) (C0 : lw_At p s m meth c b L xs) (hK : va_K (dC, dI) vwCl (tyB cI cF) s) {H : Heap} {locs : List Loc} (hG : Sg dC dI s q0 qa qn qx qy cI cF fa m0 a1 a2 a3 a4 a5 a6 H locs) {j : Nat} (hj : 4 * j + 4 ≤ L) {x3 : Int32} (hx3 : x3.toInt = 4 * (j : Int)) {ls : Array Slot} (hl : lv_has ls 4 [(0, .ref b), (1, .ref q0), (2, .ref m0), (3, .int x3)]) {Q : State → Prop} (kk : ∀ (H : Heap) (locs : List Loc), Sg dC dI s q0 qa qn qx qy cI cF fa m0 a1 a2 a3 a4 a5 a6 H locs → W p l e room_1 s m #[Value.ref b] below meth c H locs (20 + (j + 1)) (20152 + 4000 * (j + 1)) Q (F0 m 518 ls [])) : W p l e room_1 s m #[Value.ref b] below meth c H locs (20 + j) (20152 + 4000 * j) Q (F0 m 182 ls []) := by
  obtain ⟨hx, hb, hr, hml, hown0, hts0, hX, hbl, hlocks, hgv⟩ := id C0
  have hown : s.vm.findClass RL = some m.cls := hown0
  have hts : ∀ w ∈ tblG, w.before #[Value.ref b] s = true := fun w h => hts0 w (tblG_in h)
  have hNS := NS.start hts0
  have hA : ∀ q : Nat, s.heap.size ≤ q → (fun q : Nat => s.heap.size ≤ q) q := fun _ h => h
  have hbA : ¬ (fun q : Nat => s.heap.size ≤ q) b := Nat.not_le.mpr hbl
  have hKm : va_K (dC, dI) vwCl (tyM cI) s := hK.sub [0] rfl
  obtain ⟨ar, ln, wd, ht, rw, g, nu, X, Y, tg, so, pa, ru, wd2, ht2, ws, bf, mk, nu2, t2, s2, p2, r2, hLI, hP, hD, hS⟩ := hG
  obtain ⟨wN, hN, Bt, nz, hR, hM, hmk, hbf⟩ := hLI
  have i1 : vp_in (x3 + 1) L := vp_in_iff.mpr (ix_of (ti_add hx3 (by decide : (1 : Int32).toInt = (1 : Int)) (by omega) (by omega)) ⟨by omega, by omega⟩)
  have i2 : vp_in (x3 + 2) L := vp_in_iff.mpr (ix_of (ti_add hx3 (by decide : (2 : Int32).toInt = (2 : Int)) (by omega) (by omega)) ⟨by omega, by omega⟩)
  refine lv_aload_n hx hb dL_law_182 rfl (lv_at hl 1 rfl) ?_
  refine lv_aload_n hx hb dL_law_183 rfl (lv_at hl 0 rfl) ?_
  refine lv_iload_n hx hb dL_law_184 rfl (lv_at hl 3 rfl) ?_
  refine lv_iconst (v := 1) hx hb dL_law_185 (by decide) ?_
  refine lv_iadd hx hb dL_law_186 ?_
  refine va_sld hx hb hX hbl hbA hS i1 dL_law_187 ?_
  refine lv_aload_n hx hb dL_law_188 rfl (lv_at hl 0 rfl) ?_
  refine lv_iload_n hx hb dL_law_189 rfl (lv_at hl 3 rfl) ?_
  refine lv_iconst (v := 2) hx hb dL_law_190 (by decide) ?_
  refine lv_iadd hx hb dL_law_191 ?_
  refine va_sld hx hb hX hbl hbA hS i2 dL_law_192 ?_
  refine vp_callSi (va_Run.run (va_runV (As := [.int (xs (x3 + 1).toNatClampNeg), .int (xs (x3 + 2).toNatClampNeg)]) (rest := []) ⟨hx, hb, hml, hown, hts⟩ (mX2_word l (xs (x3 + 1).toNatClampNeg) (xs (x3 + 2).toNatClampNeg) hR) (cwV 2 hts (gA (m4 k135 k136 k137 k1) k138) rfl rfl rfl (by decide +kernel) ⟨Nat.le_of_ble_eq_true rfl, Nat.le_of_ble_eq_true rfl⟩) (prRV (P_l hP) hK hNS rfl (show (w_bc q0 qa qn qx qy cI cF fa ar ln wd ht rw g nu X Y tg so pa ru)[0]? = some (q0, .inr (2, [.ref qa, .ref qn, .ref qx, .ref qy, .ref (fa tg), va_rf ((so).map fa), va_rf ((pa).map fa), .int ru])) from rfl)) rfl rfl hl.1 rfl (lv_room (Nat.le_of_ble_eq_true rfl)) dL_law_193 ⟨by show 20 + j + 0 ≤ 600000; omega, by show 20152 + 4000 * j + 0 ≤ 7302250; omega⟩)) (fun r1' hw1 => ?_)
  refine lv_aload_n hx hb dL_law_196 rfl (lv_at hl 2 rfl) ?_
  refine lv_aload_n hx hb dL_law_197 rfl (lv_at hl 0 rfl) ?_
  refine lv_iload_n hx hb dL_law_198 rfl (lv_at hl 3 rfl) ?_
  refine lv_iconst (v := 1) hx hb dL_law_199 (by decide) ?_
  refine lv_iadd hx hb dL_law_200 ?_
  refine va_sld hx hb hX hbl hbA hS i1 dL_law_201 ?_
  refine lv_aload_n hx hb dL_law_202 rfl (lv_at hl 0 rfl) ?_
  refine lv_iload_n hx hb dL_law_203 rfl (lv_at hl 3 rfl) ?_
  refine lv_iconst (v := 2) hx hb dL_law_204 (by decide) ?_
  refine lv_iadd hx hb dL_law_205 ?_
  refine va_sld hx hb hX hbl hbA hS i2 dL_law_206 ?_
  refine vp_callSi (va_Run.run (va_runV (As := [.int (xs (x3 + 1).toNatClampNeg), .int (xs (x3 + 2).toNatClampNeg)]) (rest := [.int r1']) ⟨hx, hb, hml, hown, hts⟩ (mX3_word l (xs (x3 + 1).toNatClampNeg) (xs (x3 + 2).toNatClampNeg) hM) (cwV 2 hts (gA (m4 k345 k346 k347 k4) k348) rfl rfl rfl (by decide +kernel) ⟨Nat.le_of_ble_eq_true rfl, Nat.le_of_ble_eq_true rfl⟩) (prRV (P_r hP) hKm hNS rfl (show (w_md m0 a1 a2 a3 a4 a5 a6 cI wd2 ht2 ws bf mk nu2 t2 s2 p2 r2)[0]? = some (m0, .inr (3, [.ref a1, .ref a2, .ref a3, .ref a4, .ref a5, .int t2, .int s2, .int p2, .int r2, .ref a6])) from rfl)) rfl rfl hl.1 rfl (lv_room (Nat.le_of_ble_eq_true rfl)) dL_law_207 ⟨by show 20 + j + 0 ≤ 600000; omega, by show 20152 + 4000 * j + 0 ≤ 7302250; omega⟩)) (fun r2' hw2 => ?_)
  have heq := J_word hM hR hw1 hw2
  refine lv_icmp_eq (tgt := 518) hx hb dL_law_210 (by decide) (fun _ => ?_) (fun c9 => absurd heq c9)
  refine W.widen (k := 20 + (j + 1)) (n := 20152 + 4000 * (j + 1)) (by omega) (by omega) ?_
  exact kk _ _ ⟨ar, ln, wd, ht, rw, g, nu, X, Y, tg, so, pa, ru, wd2, ht2, ws, bf, mk, nu2, t2, s2, p2, r2, ⟨wN, hN, Bt, nz, hR, hM, hmk, hbf⟩, hP, hD, hS⟩
set_option maxHeartbeats 8000000 in
set_option maxRecDepth 100000 in
theorem lc_bit {p : Program} {l : Launch} {e : Env} {s : State} {m : MethodId} {below : List Frame} {meth : Method} {c : Code} {dC : Nat → ClassId} {dI : Nat → Nat → Nat} {b L : Nat} {xs : Nat → Int32} {q0 qa qn qx qy : Nat} {cI cF : ClassId} {fa : Nat → Nat} {m0 a1 a2 a3 a4 a5 a6 : Nat} (hL : L ≤ 2048) (C0 : lw_At p s m meth c b L xs) (hK : va_K (dC, dI) vwCl (tyB cI cF) s) {H : Heap} {locs : List Loc} (hG : Sg dC dI s q0 qa qn qx qy cI cF fa m0 a1 a2 a3 a4 a5 a6 H locs) {j : Nat} (hj : 4 * j + 4 ≤ L) {x3 : Int32} (hx3 : x3.toInt = 4 * (j : Int)) {ls : Array Slot} (hl : lv_has ls 4 [(0, .ref b), (1, .ref q0), (2, .ref m0), (3, .int x3)]) {Q : State → Prop} (kk : ∀ (H : Heap) (locs : List Loc), Sg dC dI s q0 qa qn qx qy cI cF fa m0 a1 a2 a3 a4 a5 a6 H locs → W p l e room_1 s m #[Value.ref b] below meth c H locs (20 + (j + 1)) (20152 + 4000 * (j + 1)) Q (F0 m 518 ls [])) : W p l e room_1 s m #[Value.ref b] below meth c H locs (20 + j) (20152 + 4000 * j) Q (F0 m 215 ls []) := by
  obtain ⟨hx, hb, hr, hml, hown0, hts0, hX, hbl, hlocks, hgv⟩ := id C0
  have hown : s.vm.findClass RL = some m.cls := hown0
  have hts : ∀ w ∈ tblG, w.before #[Value.ref b] s = true := fun w h => hts0 w (tblG_in h)
  have hNS := NS.start hts0
  have hA : ∀ q : Nat, s.heap.size ≤ q → (fun q : Nat => s.heap.size ≤ q) q := fun _ h => h
  have hbA : ¬ (fun q : Nat => s.heap.size ≤ q) b := Nat.not_le.mpr hbl
  have hKm : va_K (dC, dI) vwCl (tyM cI) s := hK.sub [0] rfl
  obtain ⟨ar, ln, wd, ht, rw, g, nu, X, Y, tg, so, pa, ru, wd2, ht2, ws, bf, mk, nu2, t2, s2, p2, r2, hLI, hP, hD, hS⟩ := hG
  obtain ⟨wN, hN, Bt, nz, hR, hM, hmk, hbf⟩ := hLI
  have i1 : vp_in (x3 + 1) L := vp_in_iff.mpr (ix_of (ti_add hx3 (by decide : (1 : Int32).toInt = (1 : Int)) (by omega) (by omega)) ⟨by omega, by omega⟩)
  have i2 : vp_in (x3 + 2) L := vp_in_iff.mpr (ix_of (ti_add hx3 (by decide : (2 : Int32).toInt = (2 : Int)) (by omega) (by omega)) ⟨by omega, by omega⟩)
  have i3 : vp_in (x3 + 3) L := vp_in_iff.mpr (ix_of (ti_add hx3 (by decide : (3 : Int32).toInt = (3 : Int)) (by omega) (by omega)) ⟨by omega, by omega⟩)
  refine lv_aload_n hx hb dL_law_215 rfl (lv_at hl 1 rfl) ?_
  refine lv_aload_n hx hb dL_law_216 rfl (lv_at hl 0 rfl) ?_
  refine lv_iload_n hx hb dL_law_217 rfl (lv_at hl 3 rfl) ?_
  refine lv_iconst (v := 1) hx hb dL_law_218 (by decide) ?_
  refine lv_iadd hx hb dL_law_219 ?_
  refine va_sld hx hb hX hbl hbA hS i1 dL_law_220 ?_
  refine lv_aload_n hx hb dL_law_221 rfl (lv_at hl 0 rfl) ?_
  refine lv_iload_n hx hb dL_law_222 rfl (lv_at hl 3 rfl) ?_
  refine lv_iconst (v := 2) hx hb dL_law_223 (by decide) ?_
  refine lv_iadd hx hb dL_law_224 ?_
  refine va_sld hx hb hX hbl hbA hS i2 dL_law_225 ?_
  refine lv_aload_n hx hb dL_law_226 rfl (lv_at hl 0 rfl) ?_
  refine lv_iload_n hx hb dL_law_227 rfl (lv_at hl 3 rfl) ?_
  refine lv_iconst (v := 3) hx hb dL_law_228 (by decide) ?_
  refine lv_iadd hx hb dL_law_229 ?_
  refine va_sld hx hb hX hbl hbA hS i3 dL_law_230 ?_
  refine vp_callSi (va_Run.run (va_runV (As := [.int (xs (x3 + 1).toNatClampNeg), .int (xs (x3 + 2).toNatClampNeg), .int (xs (x3 + 3).toNatClampNeg)]) (rest := []) ⟨hx, hb, hml, hown, hts⟩ (mX2_bit l (xs (x3 + 1).toNatClampNeg) (xs (x3 + 2).toNatClampNeg) (xs (x3 + 3).toNatClampNeg) hR) (cwV 3 hts (gA (m4 k139 k140 k141 k1) k142) rfl rfl rfl (by decide +kernel) ⟨Nat.le_of_ble_eq_true rfl, Nat.le_of_ble_eq_true rfl⟩) (prRV (P_l hP) hK hNS rfl (show (w_bc q0 qa qn qx qy cI cF fa ar ln wd ht rw g nu X Y tg so pa ru)[0]? = some (q0, .inr (2, [.ref qa, .ref qn, .ref qx, .ref qy, .ref (fa tg), va_rf ((so).map fa), va_rf ((pa).map fa), .int ru])) from rfl)) rfl rfl hl.1 rfl (lv_room (Nat.le_of_ble_eq_true rfl)) dL_law_231 ⟨by show 20 + j + 0 ≤ 600000; omega, by show 20152 + 4000 * j + 0 ≤ 7302250; omega⟩)) (fun r1' hw1 => ?_)
  refine lv_aload_n hx hb dL_law_234 rfl (lv_at hl 2 rfl) ?_
  refine lv_aload_n hx hb dL_law_235 rfl (lv_at hl 0 rfl) ?_
  refine lv_iload_n hx hb dL_law_236 rfl (lv_at hl 3 rfl) ?_
  refine lv_iconst (v := 1) hx hb dL_law_237 (by decide) ?_
  refine lv_iadd hx hb dL_law_238 ?_
  refine va_sld hx hb hX hbl hbA hS i1 dL_law_239 ?_
  refine lv_aload_n hx hb dL_law_240 rfl (lv_at hl 0 rfl) ?_
  refine lv_iload_n hx hb dL_law_241 rfl (lv_at hl 3 rfl) ?_
  refine lv_iconst (v := 2) hx hb dL_law_242 (by decide) ?_
  refine lv_iadd hx hb dL_law_243 ?_
  refine va_sld hx hb hX hbl hbA hS i2 dL_law_244 ?_
  refine lv_aload_n hx hb dL_law_245 rfl (lv_at hl 0 rfl) ?_
  refine lv_iload_n hx hb dL_law_246 rfl (lv_at hl 3 rfl) ?_
  refine lv_iconst (v := 3) hx hb dL_law_247 (by decide) ?_
  refine lv_iadd hx hb dL_law_248 ?_
  refine va_sld hx hb hX hbl hbA hS i3 dL_law_249 ?_
  refine vp_callSi (va_Run.run (va_runV (As := [.int (xs (x3 + 1).toNatClampNeg), .int (xs (x3 + 2).toNatClampNeg), .int (xs (x3 + 3).toNatClampNeg)]) (rest := [.int r1']) ⟨hx, hb, hml, hown, hts⟩ (mX3_bit l (xs (x3 + 1).toNatClampNeg) (xs (x3 + 2).toNatClampNeg) (xs (x3 + 3).toNatClampNeg) hM) (cwV 3 hts (gA (m4 k349 k350 k351 k4) k352) rfl rfl rfl (by decide +kernel) ⟨Nat.le_of_ble_eq_true rfl, Nat.le_of_ble_eq_true rfl⟩) (prRV (P_r hP) hKm hNS rfl (show (w_md m0 a1 a2 a3 a4 a5 a6 cI wd2 ht2 ws bf mk nu2 t2 s2 p2 r2)[0]? = some (m0, .inr (3, [.ref a1, .ref a2, .ref a3, .ref a4, .ref a5, .int t2, .int s2, .int p2, .int r2, .ref a6])) from rfl)) rfl rfl hl.1 rfl (lv_room (Nat.le_of_ble_eq_true rfl)) dL_law_250 ⟨by show 20 + j + 0 ≤ 600000; omega, by show 20152 + 4000 * j + 0 ≤ 7302250; omega⟩)) (fun r2' hw2 => ?_)
  have heq := J_bit hw1 hw2
  refine lv_icmp_eq (tgt := 518) hx hb dL_law_253 (by decide) (fun _ => ?_) (fun c9 => absurd heq c9)
  refine W.widen (k := 20 + (j + 1)) (n := 20152 + 4000 * (j + 1)) (by omega) (by omega) ?_
  exact kk _ _ ⟨ar, ln, wd, ht, rw, g, nu, X, Y, tg, so, pa, ru, wd2, ht2, ws, bf, mk, nu2, t2, s2, p2, r2, ⟨wN, hN, Bt, nz, hR, hM, hmk, hbf⟩, hP, hD, hS⟩
set_option maxHeartbeats 8000000 in
set_option maxRecDepth 100000 in
theorem lc_count {p : Program} {l : Launch} {e : Env} {s : State} {m : MethodId} {below : List Frame} {meth : Method} {c : Code} {dC : Nat → ClassId} {dI : Nat → Nat → Nat} {b L : Nat} {xs : Nat → Int32} {q0 qa qn qx qy : Nat} {cI cF : ClassId} {fa : Nat → Nat} {m0 a1 a2 a3 a4 a5 a6 : Nat} (hL : L ≤ 2048) (C0 : lw_At p s m meth c b L xs) (hK : va_K (dC, dI) vwCl (tyB cI cF) s) {H : Heap} {locs : List Loc} (hG : Sg dC dI s q0 qa qn qx qy cI cF fa m0 a1 a2 a3 a4 a5 a6 H locs) {j : Nat} (hj : 4 * j + 4 ≤ L) {x3 : Int32} (hx3 : x3.toInt = 4 * (j : Int)) {ls : Array Slot} (hl : lv_has ls 4 [(0, .ref b), (1, .ref q0), (2, .ref m0), (3, .int x3)]) {Q : State → Prop} (kk : ∀ (H : Heap) (locs : List Loc), Sg dC dI s q0 qa qn qx qy cI cF fa m0 a1 a2 a3 a4 a5 a6 H locs → W p l e room_1 s m #[Value.ref b] below meth c H locs (20 + (j + 1)) (20152 + 4000 * (j + 1)) Q (F0 m 518 ls [])) : W p l e room_1 s m #[Value.ref b] below meth c H locs (20 + j) (20152 + 4000 * j) Q (F0 m 258 ls []) := by
  obtain ⟨hx, hb, hr, hml, hown0, hts0, hX, hbl, hlocks, hgv⟩ := id C0
  have hown : s.vm.findClass RL = some m.cls := hown0
  have hts : ∀ w ∈ tblG, w.before #[Value.ref b] s = true := fun w h => hts0 w (tblG_in h)
  have hNS := NS.start hts0
  have hA : ∀ q : Nat, s.heap.size ≤ q → (fun q : Nat => s.heap.size ≤ q) q := fun _ h => h
  have hbA : ¬ (fun q : Nat => s.heap.size ≤ q) b := Nat.not_le.mpr hbl
  have hKm : va_K (dC, dI) vwCl (tyM cI) s := hK.sub [0] rfl
  obtain ⟨ar, ln, wd, ht, rw, g, nu, X, Y, tg, so, pa, ru, wd2, ht2, ws, bf, mk, nu2, t2, s2, p2, r2, hLI, hP, hD, hS⟩ := hG
  obtain ⟨wN, hN, Bt, nz, hR, hM, hmk, hbf⟩ := hLI
  have i1 : vp_in (x3 + 1) L := vp_in_iff.mpr (ix_of (ti_add hx3 (by decide : (1 : Int32).toInt = (1 : Int)) (by omega) (by omega)) ⟨by omega, by omega⟩)
  refine lv_aload_n hx hb dL_law_258 rfl (lv_at hl 1 rfl) ?_
  refine lv_aload_n hx hb dL_law_259 rfl (lv_at hl 0 rfl) ?_
  refine lv_iload_n hx hb dL_law_260 rfl (lv_at hl 3 rfl) ?_
  refine lv_iconst (v := 1) hx hb dL_law_261 (by decide) ?_
  refine lv_iadd hx hb dL_law_262 ?_
  refine va_sld hx hb hX hbl hbA hS i1 dL_law_263 ?_
  refine vp_callSi (va_Run.run (va_runV (As := [.int (xs (x3 + 1).toNatClampNeg)]) (rest := []) ⟨hx, hb, hml, hown, hts⟩ (mX2_count l (xs (x3 + 1).toNatClampNeg) hR) (cwV 1 hts (gA (m4 k151 k152 k153 k1) k154) rfl rfl rfl (by decide +kernel) ⟨Nat.le_of_ble_eq_true rfl, Nat.le_of_ble_eq_true rfl⟩) (prRV (P_l hP) hK hNS rfl (show (w_bc q0 qa qn qx qy cI cF fa ar ln wd ht rw g nu X Y tg so pa ru)[0]? = some (q0, .inr (2, [.ref qa, .ref qn, .ref qx, .ref qy, .ref (fa tg), va_rf ((so).map fa), va_rf ((pa).map fa), .int ru])) from rfl)) rfl rfl hl.1 rfl (lv_room (Nat.le_of_ble_eq_true rfl)) dL_law_264 ⟨by show 20 + j + 0 ≤ 600000; omega, by show 20152 + 4000 * j + 0 ≤ 7302250; omega⟩)) (fun r1' hw1 => ?_)
  refine lv_aload_n hx hb dL_law_267 rfl (lv_at hl 2 rfl) ?_
  refine lv_aload_n hx hb dL_law_268 rfl (lv_at hl 0 rfl) ?_
  refine lv_iload_n hx hb dL_law_269 rfl (lv_at hl 3 rfl) ?_
  refine lv_iconst (v := 1) hx hb dL_law_270 (by decide) ?_
  refine lv_iadd hx hb dL_law_271 ?_
  refine va_sld hx hb hX hbl hbA hS i1 dL_law_272 ?_
  refine vp_callSi (va_Run.run (va_runV (As := [.int (xs (x3 + 1).toNatClampNeg)]) (rest := [.int r1']) ⟨hx, hb, hml, hown, hts⟩ (mX3_count l (xs (x3 + 1).toNatClampNeg) hM) (cwV 1 hts (gA (m4 k361 k362 k363 k4) k364) rfl rfl rfl (by decide +kernel) ⟨Nat.le_of_ble_eq_true rfl, Nat.le_of_ble_eq_true rfl⟩) (prRV (P_r hP) hKm hNS rfl (show (w_md m0 a1 a2 a3 a4 a5 a6 cI wd2 ht2 ws bf mk nu2 t2 s2 p2 r2)[0]? = some (m0, .inr (3, [.ref a1, .ref a2, .ref a3, .ref a4, .ref a5, .int t2, .int s2, .int p2, .int r2, .ref a6])) from rfl)) rfl rfl hl.1 rfl (lv_room (Nat.le_of_ble_eq_true rfl)) dL_law_273 ⟨by show 20 + j + 0 ≤ 600000; omega, by show 20152 + 4000 * j + 0 ≤ 7302250; omega⟩)) (fun r2' hw2 => ?_)
  have heq := J_count hw1 hw2
  refine lv_icmp_eq (tgt := 518) hx hb dL_law_276 (by decide) (fun _ => ?_) (fun c9 => absurd heq c9)
  refine W.widen (k := 20 + (j + 1)) (n := 20152 + 4000 * (j + 1)) (by omega) (by omega) ?_
  exact kk _ _ ⟨ar, ln, wd, ht, rw, g, nu, X, Y, tg, so, pa, ru, wd2, ht2, ws, bf, mk, nu2, t2, s2, p2, r2, ⟨wN, hN, Bt, nz, hR, hM, hmk, hbf⟩, hP, hD, hS⟩
set_option maxHeartbeats 8000000 in
set_option maxRecDepth 100000 in
theorem lc_same {p : Program} {l : Launch} {e : Env} {s : State} {m : MethodId} {below : List Frame} {meth : Method} {c : Code} {dC : Nat → ClassId} {dI : Nat → Nat → Nat} {b L : Nat} {xs : Nat → Int32} {q0 qa qn qx qy : Nat} {cI cF : ClassId} {fa : Nat → Nat} {m0 a1 a2 a3 a4 a5 a6 : Nat} (hL : L ≤ 2048) (C0 : lw_At p s m meth c b L xs) (hK : va_K (dC, dI) vwCl (tyB cI cF) s) {H : Heap} {locs : List Loc} (hG : Sg dC dI s q0 qa qn qx qy cI cF fa m0 a1 a2 a3 a4 a5 a6 H locs) {j : Nat} (hj : 4 * j + 4 ≤ L) {x3 : Int32} (hx3 : x3.toInt = 4 * (j : Int)) {ls : Array Slot} (hl : lv_has ls 4 [(0, .ref b), (1, .ref q0), (2, .ref m0), (3, .int x3)]) {Q : State → Prop} (kk : ∀ (H : Heap) (locs : List Loc), Sg dC dI s q0 qa qn qx qy cI cF fa m0 a1 a2 a3 a4 a5 a6 H locs → W p l e room_1 s m #[Value.ref b] below meth c H locs (20 + (j + 1)) (20152 + 4000 * (j + 1)) Q (F0 m 518 ls [])) : W p l e room_1 s m #[Value.ref b] below meth c H locs (20 + j) (20152 + 4000 * j) Q (F0 m 281 ls []) := by
  obtain ⟨hx, hb, hr, hml, hown0, hts0, hX, hbl, hlocks, hgv⟩ := id C0
  have hown : s.vm.findClass RL = some m.cls := hown0
  have hts : ∀ w ∈ tblG, w.before #[Value.ref b] s = true := fun w h => hts0 w (tblG_in h)
  have hNS := NS.start hts0
  have hA : ∀ q : Nat, s.heap.size ≤ q → (fun q : Nat => s.heap.size ≤ q) q := fun _ h => h
  have hbA : ¬ (fun q : Nat => s.heap.size ≤ q) b := Nat.not_le.mpr hbl
  have hKm : va_K (dC, dI) vwCl (tyM cI) s := hK.sub [0] rfl
  obtain ⟨ar, ln, wd, ht, rw, g, nu, X, Y, tg, so, pa, ru, wd2, ht2, ws, bf, mk, nu2, t2, s2, p2, r2, hLI, hP, hD, hS⟩ := hG
  obtain ⟨wN, hN, Bt, nz, hR, hM, hmk, hbf⟩ := hLI
  have i1 : vp_in (x3 + 1) L := vp_in_iff.mpr (ix_of (ti_add hx3 (by decide : (1 : Int32).toInt = (1 : Int)) (by omega) (by omega)) ⟨by omega, by omega⟩)
  have i2 : vp_in (x3 + 2) L := vp_in_iff.mpr (ix_of (ti_add hx3 (by decide : (2 : Int32).toInt = (2 : Int)) (by omega) (by omega)) ⟨by omega, by omega⟩)
  refine lv_aload_n hx hb dL_law_281 rfl (lv_at hl 1 rfl) ?_
  refine lv_aload_n hx hb dL_law_282 rfl (lv_at hl 0 rfl) ?_
  refine lv_iload_n hx hb dL_law_283 rfl (lv_at hl 3 rfl) ?_
  refine lv_iconst (v := 1) hx hb dL_law_284 (by decide) ?_
  refine lv_iadd hx hb dL_law_285 ?_
  refine va_sld hx hb hX hbl hbA hS i1 dL_law_286 ?_
  refine lv_aload_n hx hb dL_law_287 rfl (lv_at hl 0 rfl) ?_
  refine lv_iload_n hx hb dL_law_288 rfl (lv_at hl 3 rfl) ?_
  refine lv_iconst (v := 2) hx hb dL_law_289 (by decide) ?_
  refine lv_iadd hx hb dL_law_290 ?_
  refine va_sld hx hb hX hbl hbA hS i2 dL_law_291 ?_
  refine vp_callSi (va_Run.run (va_runV (As := [.int (xs (x3 + 1).toNatClampNeg), .int (xs (x3 + 2).toNatClampNeg)]) (rest := []) ⟨hx, hb, hml, hown, hts⟩ (mX2_same l (xs (x3 + 1).toNatClampNeg) (xs (x3 + 2).toNatClampNeg) hR) (cwV 2 hts (gA (m4 k165 k166 k167 k1) k168) rfl rfl rfl (by decide +kernel) ⟨Nat.le_of_ble_eq_true rfl, Nat.le_of_ble_eq_true rfl⟩) (prRV (P_l hP) hK hNS rfl (show (w_bc q0 qa qn qx qy cI cF fa ar ln wd ht rw g nu X Y tg so pa ru)[0]? = some (q0, .inr (2, [.ref qa, .ref qn, .ref qx, .ref qy, .ref (fa tg), va_rf ((so).map fa), va_rf ((pa).map fa), .int ru])) from rfl)) rfl rfl hl.1 rfl (lv_room (Nat.le_of_ble_eq_true rfl)) dL_law_292 ⟨by show 20 + j + 0 ≤ 600000; omega, by show 20152 + 4000 * j + 0 ≤ 7302250; omega⟩)) (fun r1' hw1 => ?_)
  refine lv_aload_n hx hb dL_law_295 rfl (lv_at hl 2 rfl) ?_
  refine lv_aload_n hx hb dL_law_296 rfl (lv_at hl 0 rfl) ?_
  refine lv_iload_n hx hb dL_law_297 rfl (lv_at hl 3 rfl) ?_
  refine lv_iconst (v := 1) hx hb dL_law_298 (by decide) ?_
  refine lv_iadd hx hb dL_law_299 ?_
  refine va_sld hx hb hX hbl hbA hS i1 dL_law_300 ?_
  refine lv_aload_n hx hb dL_law_301 rfl (lv_at hl 0 rfl) ?_
  refine lv_iload_n hx hb dL_law_302 rfl (lv_at hl 3 rfl) ?_
  refine lv_iconst (v := 2) hx hb dL_law_303 (by decide) ?_
  refine lv_iadd hx hb dL_law_304 ?_
  refine va_sld hx hb hX hbl hbA hS i2 dL_law_305 ?_
  refine vp_callSi (va_Run.run (va_runV (As := [.int (xs (x3 + 1).toNatClampNeg), .int (xs (x3 + 2).toNatClampNeg)]) (rest := [.int r1']) ⟨hx, hb, hml, hown, hts⟩ (mX3_same l (xs (x3 + 1).toNatClampNeg) (xs (x3 + 2).toNatClampNeg) hM) (cwV 2 hts (gA (m4 k365 k366 k367 k4) k368) rfl rfl rfl (by decide +kernel) ⟨Nat.le_of_ble_eq_true rfl, Nat.le_of_ble_eq_true rfl⟩) (prRV (P_r hP) hKm hNS rfl (show (w_md m0 a1 a2 a3 a4 a5 a6 cI wd2 ht2 ws bf mk nu2 t2 s2 p2 r2)[0]? = some (m0, .inr (3, [.ref a1, .ref a2, .ref a3, .ref a4, .ref a5, .int t2, .int s2, .int p2, .int r2, .ref a6])) from rfl)) rfl rfl hl.1 rfl (lv_room (Nat.le_of_ble_eq_true rfl)) dL_law_306 ⟨by show 20 + j + 0 ≤ 600000; omega, by show 20152 + 4000 * j + 0 ≤ 7302250; omega⟩)) (fun r2' hw2 => ?_)
  have heq := J_same hw1 hw2
  refine lv_icmp_eq (tgt := 518) hx hb dL_law_309 (by decide) (fun _ => ?_) (fun c9 => absurd heq c9)
  refine W.widen (k := 20 + (j + 1)) (n := 20152 + 4000 * (j + 1)) (by omega) (by omega) ?_
  exact kk _ _ ⟨ar, ln, wd, ht, rw, g, nu, X, Y, tg, so, pa, ru, wd2, ht2, ws, bf, mk, nu2, t2, s2, p2, r2, ⟨wN, hN, Bt, nz, hR, hM, hmk, hbf⟩, hP, hD, hS⟩
set_option maxHeartbeats 8000000 in
set_option maxRecDepth 100000 in
theorem lc_forms {p : Program} {l : Launch} {e : Env} {s : State} {m : MethodId} {below : List Frame} {meth : Method} {c : Code} {dC : Nat → ClassId} {dI : Nat → Nat → Nat} {b L : Nat} {xs : Nat → Int32} {q0 qa qn qx qy : Nat} {cI cF : ClassId} {fa : Nat → Nat} {m0 a1 a2 a3 a4 a5 a6 : Nat} (hL : L ≤ 2048) (C0 : lw_At p s m meth c b L xs) (hK : va_K (dC, dI) vwCl (tyB cI cF) s) {H : Heap} {locs : List Loc} (hG : Sg dC dI s q0 qa qn qx qy cI cF fa m0 a1 a2 a3 a4 a5 a6 H locs) {j : Nat} (hj : 4 * j + 4 ≤ L) {x3 : Int32} (hx3 : x3.toInt = 4 * (j : Int)) {ls : Array Slot} (hl : lv_has ls 4 [(0, .ref b), (1, .ref q0), (2, .ref m0), (3, .int x3)]) {Q : State → Prop} (kk : ∀ (H : Heap) (locs : List Loc), Sg dC dI s q0 qa qn qx qy cI cF fa m0 a1 a2 a3 a4 a5 a6 H locs → W p l e room_1 s m #[Value.ref b] below meth c H locs (20 + (j + 1)) (20152 + 4000 * (j + 1)) Q (F0 m 518 ls [])) : W p l e room_1 s m #[Value.ref b] below meth c H locs (20 + j) (20152 + 4000 * j) Q (F0 m 314 ls []) := by
  obtain ⟨hx, hb, hr, hml, hown0, hts0, hX, hbl, hlocks, hgv⟩ := id C0
  have hown : s.vm.findClass RL = some m.cls := hown0
  have hts : ∀ w ∈ tblG, w.before #[Value.ref b] s = true := fun w h => hts0 w (tblG_in h)
  have hNS := NS.start hts0
  have hA : ∀ q : Nat, s.heap.size ≤ q → (fun q : Nat => s.heap.size ≤ q) q := fun _ h => h
  have hbA : ¬ (fun q : Nat => s.heap.size ≤ q) b := Nat.not_le.mpr hbl
  have hKm : va_K (dC, dI) vwCl (tyM cI) s := hK.sub [0] rfl
  obtain ⟨ar, ln, wd, ht, rw, g, nu, X, Y, tg, so, pa, ru, wd2, ht2, ws, bf, mk, nu2, t2, s2, p2, r2, hLI, hP, hD, hS⟩ := hG
  obtain ⟨wN, hN, Bt, nz, hR, hM, hmk, hbf⟩ := hLI
  have i1 : vp_in (x3 + 1) L := vp_in_iff.mpr (ix_of (ti_add hx3 (by decide : (1 : Int32).toInt = (1 : Int)) (by omega) (by omega)) ⟨by omega, by omega⟩)
  have i2 : vp_in (x3 + 2) L := vp_in_iff.mpr (ix_of (ti_add hx3 (by decide : (2 : Int32).toInt = (2 : Int)) (by omega) (by omega)) ⟨by omega, by omega⟩)
  have i3 : vp_in (x3 + 3) L := vp_in_iff.mpr (ix_of (ti_add hx3 (by decide : (3 : Int32).toInt = (3 : Int)) (by omega) (by omega)) ⟨by omega, by omega⟩)
  refine lv_aload_n hx hb dL_law_314 rfl (lv_at hl 1 rfl) ?_
  refine lv_aload_n hx hb dL_law_315 rfl (lv_at hl 0 rfl) ?_
  refine lv_iload_n hx hb dL_law_316 rfl (lv_at hl 3 rfl) ?_
  refine lv_iconst (v := 1) hx hb dL_law_317 (by decide) ?_
  refine lv_iadd hx hb dL_law_318 ?_
  refine va_sld hx hb hX hbl hbA hS i1 dL_law_319 ?_
  refine lv_aload_n hx hb dL_law_320 rfl (lv_at hl 0 rfl) ?_
  refine lv_iload_n hx hb dL_law_321 rfl (lv_at hl 3 rfl) ?_
  refine lv_iconst (v := 2) hx hb dL_law_322 (by decide) ?_
  refine lv_iadd hx hb dL_law_323 ?_
  refine va_sld hx hb hX hbl hbA hS i2 dL_law_324 ?_
  refine lv_aload_n hx hb dL_law_325 rfl (lv_at hl 0 rfl) ?_
  refine lv_iload_n hx hb dL_law_326 rfl (lv_at hl 3 rfl) ?_
  refine lv_iconst (v := 3) hx hb dL_law_327 (by decide) ?_
  refine lv_iadd hx hb dL_law_328 ?_
  refine va_sld hx hb hX hbl hbA hS i3 dL_law_329 ?_
  refine cL_i (va_runV (As := [.int (xs (x3 + 1).toNatClampNeg), .int (xs (x3 + 2).toNatClampNeg), .int (xs (x3 + 3).toNatClampNeg)]) (rest := []) ⟨hx, hb, hml, hown, hts⟩ (mX2_forms l (xs (x3 + 1).toNatClampNeg) (xs (x3 + 2).toNatClampNeg) (xs (x3 + 3).toNatClampNeg) hR) (cwV 3 hts (gA (m4 k173 k174 k175 k1) k176) rfl rfl rfl (by decide +kernel) ⟨Nat.le_of_ble_eq_true rfl, Nat.le_of_ble_eq_true rfl⟩) (prWV (P_l hP) hK hNS (D_l hD) rfl (show (w_bc q0 qa qn qx qy cI cF fa ar ln wd ht rw g nu X Y tg so pa ru)[0]? = some (q0, .inr (2, [.ref qa, .ref qn, .ref qx, .ref qy, .ref (fa tg), va_rf ((so).map fa), va_rf ((pa).map fa), .int ru])) from rfl)) rfl rfl hl.1 rfl (lv_room (Nat.le_of_ble_eq_true rfl)) dL_law_330 ⟨by show 20 + j + 0 ≤ 600000; omega, by show 20152 + 4000 * j + 0 ≤ 7302250; omega⟩) hP hD hS hA (fun r1' u1 H locs hw1 hP hD hS => ?_)
  refine lv_aload_n hx hb dL_law_333 rfl (lv_at hl 2 rfl) ?_
  refine lv_aload_n hx hb dL_law_334 rfl (lv_at hl 0 rfl) ?_
  refine lv_iload_n hx hb dL_law_335 rfl (lv_at hl 3 rfl) ?_
  refine lv_iconst (v := 1) hx hb dL_law_336 (by decide) ?_
  refine lv_iadd hx hb dL_law_337 ?_
  refine va_sld hx hb hX hbl hbA hS i1 dL_law_338 ?_
  refine lv_aload_n hx hb dL_law_339 rfl (lv_at hl 0 rfl) ?_
  refine lv_iload_n hx hb dL_law_340 rfl (lv_at hl 3 rfl) ?_
  refine lv_iconst (v := 2) hx hb dL_law_341 (by decide) ?_
  refine lv_iadd hx hb dL_law_342 ?_
  refine va_sld hx hb hX hbl hbA hS i2 dL_law_343 ?_
  refine lv_aload_n hx hb dL_law_344 rfl (lv_at hl 0 rfl) ?_
  refine lv_iload_n hx hb dL_law_345 rfl (lv_at hl 3 rfl) ?_
  refine lv_iconst (v := 3) hx hb dL_law_346 (by decide) ?_
  refine lv_iadd hx hb dL_law_347 ?_
  refine va_sld hx hb hX hbl hbA hS i3 dL_law_348 ?_
  refine cR_i (va_runV (As := [.int (xs (x3 + 1).toNatClampNeg), .int (xs (x3 + 2).toNatClampNeg), .int (xs (x3 + 3).toNatClampNeg)]) (rest := [.int r1']) ⟨hx, hb, hml, hown, hts⟩ (mX3_forms l (xs (x3 + 1).toNatClampNeg) (xs (x3 + 2).toNatClampNeg) (xs (x3 + 3).toNatClampNeg) hM) (cwV 3 hts (gA (m4 k369 k370 k371 k4) k372) rfl rfl rfl (by decide +kernel) ⟨Nat.le_of_ble_eq_true rfl, Nat.le_of_ble_eq_true rfl⟩) (prWV (P_r hP) hKm hNS (D_r hD) rfl (show (w_md m0 a1 a2 a3 a4 a5 a6 cI wd2 ht2 ws bf mk nu2 t2 s2 p2 r2)[0]? = some (m0, .inr (3, [.ref a1, .ref a2, .ref a3, .ref a4, .ref a5, .int t2, .int s2, .int p2, .int r2, .ref a6])) from rfl)) rfl rfl hl.1 rfl (lv_room (Nat.le_of_ble_eq_true rfl)) dL_law_349 ⟨by show 20 + j + 0 + 0 ≤ 600000; omega, by show 20152 + 4000 * j + 0 + 0 ≤ 7302250; omega⟩) hP hD hS hA (fun r2' u2 H locs hw2 hP hD hS => ?_)
  obtain ⟨heq, hLI⟩ := J_forms hM hR hmk hbf hw1 hw2
  refine lv_icmp_eq (tgt := 518) hx hb dL_law_352 (by decide) (fun _ => ?_) (fun c9 => absurd heq c9)
  refine W.widen (k := 20 + (j + 1)) (n := 20152 + 4000 * (j + 1)) (by omega) (by omega) ?_
  exact kk _ _ ⟨ar, ln, wd, ht, rw, g, nu, X, Y, u1.1, u1.2.1, u1.2.2, ru, wd2, ht2, ws, bf, mk, nu2, u2.1, u2.2.1, u2.2.2, r2, hLI, hP, hD, hS⟩
set_option maxHeartbeats 8000000 in
set_option maxRecDepth 100000 in
theorem lc_rule {p : Program} {l : Launch} {e : Env} {s : State} {m : MethodId} {below : List Frame} {meth : Method} {c : Code} {dC : Nat → ClassId} {dI : Nat → Nat → Nat} {b L : Nat} {xs : Nat → Int32} {q0 qa qn qx qy : Nat} {cI cF : ClassId} {fa : Nat → Nat} {m0 a1 a2 a3 a4 a5 a6 : Nat} (hL : L ≤ 2048) (C0 : lw_At p s m meth c b L xs) (hK : va_K (dC, dI) vwCl (tyB cI cF) s) {H : Heap} {locs : List Loc} (hG : Sg dC dI s q0 qa qn qx qy cI cF fa m0 a1 a2 a3 a4 a5 a6 H locs) {j : Nat} (hj : 4 * j + 4 ≤ L) {x3 : Int32} (hx3 : x3.toInt = 4 * (j : Int)) {ls : Array Slot} (hl : lv_has ls 4 [(0, .ref b), (1, .ref q0), (2, .ref m0), (3, .int x3)]) {Q : State → Prop} (kk : ∀ (H : Heap) (locs : List Loc), Sg dC dI s q0 qa qn qx qy cI cF fa m0 a1 a2 a3 a4 a5 a6 H locs → W p l e room_1 s m #[Value.ref b] below meth c H locs (20 + (j + 1)) (20152 + 4000 * (j + 1)) Q (F0 m 518 ls [])) : W p l e room_1 s m #[Value.ref b] below meth c H locs (20 + j) (20152 + 4000 * j) Q (F0 m 357 ls []) := by
  obtain ⟨hx, hb, hr, hml, hown0, hts0, hX, hbl, hlocks, hgv⟩ := id C0
  have hown : s.vm.findClass RL = some m.cls := hown0
  have hts : ∀ w ∈ tblG, w.before #[Value.ref b] s = true := fun w h => hts0 w (tblG_in h)
  have hNS := NS.start hts0
  have hA : ∀ q : Nat, s.heap.size ≤ q → (fun q : Nat => s.heap.size ≤ q) q := fun _ h => h
  have hbA : ¬ (fun q : Nat => s.heap.size ≤ q) b := Nat.not_le.mpr hbl
  have hKm : va_K (dC, dI) vwCl (tyM cI) s := hK.sub [0] rfl
  obtain ⟨ar, ln, wd, ht, rw, g, nu, X, Y, tg, so, pa, ru, wd2, ht2, ws, bf, mk, nu2, t2, s2, p2, r2, hLI, hP, hD, hS⟩ := hG
  obtain ⟨wN, hN, Bt, nz, hR, hM, hmk, hbf⟩ := hLI
  have i1 : vp_in (x3 + 1) L := vp_in_iff.mpr (ix_of (ti_add hx3 (by decide : (1 : Int32).toInt = (1 : Int)) (by omega) (by omega)) ⟨by omega, by omega⟩)
  refine lv_aload_n hx hb dL_law_357 rfl (lv_at hl 1 rfl) ?_
  refine lv_aload_n hx hb dL_law_358 rfl (lv_at hl 0 rfl) ?_
  refine lv_iload_n hx hb dL_law_359 rfl (lv_at hl 3 rfl) ?_
  refine lv_iconst (v := 1) hx hb dL_law_360 (by decide) ?_
  refine lv_iadd hx hb dL_law_361 ?_
  refine va_sld hx hb hX hbl hbA hS i1 dL_law_362 ?_
  refine cL_i (va_runV (As := [.int (xs (x3 + 1).toNatClampNeg)]) (rest := []) ⟨hx, hb, hml, hown, hts⟩ (mX2_rule l (xs (x3 + 1).toNatClampNeg) hR) (cwV 1 hts (gA (m4 k187 k188 k189 k1) k190) rfl rfl rfl (by decide +kernel) ⟨Nat.le_of_ble_eq_true rfl, Nat.le_of_ble_eq_true rfl⟩) (prWV (P_l hP) hK hNS (D_l hD) rfl (show (w_bc q0 qa qn qx qy cI cF fa ar ln wd ht rw g nu X Y tg so pa ru)[0]? = some (q0, .inr (2, [.ref qa, .ref qn, .ref qx, .ref qy, .ref (fa tg), va_rf ((so).map fa), va_rf ((pa).map fa), .int ru])) from rfl)) rfl rfl hl.1 rfl (lv_room (Nat.le_of_ble_eq_true rfl)) dL_law_363 ⟨by show 20 + j + 0 ≤ 600000; omega, by show 20152 + 4000 * j + 0 ≤ 7302250; omega⟩) hP hD hS hA (fun r1' u1 H locs hw1 hP hD hS => ?_)
  refine lv_aload_n hx hb dL_law_366 rfl (lv_at hl 2 rfl) ?_
  refine lv_aload_n hx hb dL_law_367 rfl (lv_at hl 0 rfl) ?_
  refine lv_iload_n hx hb dL_law_368 rfl (lv_at hl 3 rfl) ?_
  refine lv_iconst (v := 1) hx hb dL_law_369 (by decide) ?_
  refine lv_iadd hx hb dL_law_370 ?_
  refine va_sld hx hb hX hbl hbA hS i1 dL_law_371 ?_
  refine cR_i (va_runV (As := [.int (xs (x3 + 1).toNatClampNeg)]) (rest := [.int r1']) ⟨hx, hb, hml, hown, hts⟩ (mX3_rule l (xs (x3 + 1).toNatClampNeg) hM) (cwV 1 hts (gA (m4 k377 k378 k379 k4) k380) rfl rfl rfl (by decide +kernel) ⟨Nat.le_of_ble_eq_true rfl, Nat.le_of_ble_eq_true rfl⟩) (prWV (P_r hP) hKm hNS (D_r hD) rfl (show (w_md m0 a1 a2 a3 a4 a5 a6 cI wd2 ht2 ws bf mk nu2 t2 s2 p2 r2)[0]? = some (m0, .inr (3, [.ref a1, .ref a2, .ref a3, .ref a4, .ref a5, .int t2, .int s2, .int p2, .int r2, .ref a6])) from rfl)) rfl rfl hl.1 rfl (lv_room (Nat.le_of_ble_eq_true rfl)) dL_law_372 ⟨by show 20 + j + 0 + 0 ≤ 600000; omega, by show 20152 + 4000 * j + 0 + 0 ≤ 7302250; omega⟩) hP hD hS hA (fun r2' u2 H locs hw2 hP hD hS => ?_)
  obtain ⟨heq, hLI⟩ := J_rule hM hR hmk hbf hw1 hw2
  refine lv_icmp_eq (tgt := 518) hx hb dL_law_375 (by decide) (fun _ => ?_) (fun c9 => absurd heq c9)
  refine W.widen (k := 20 + (j + 1)) (n := 20152 + 4000 * (j + 1)) (by omega) (by omega) ?_
  exact kk _ _ ⟨ar, ln, wd, ht, rw, g, nu, X, Y, tg, so, pa, u1, wd2, ht2, ws, bf, mk, nu2, t2, s2, p2, u2, hLI, hP, hD, hS⟩
set_option maxHeartbeats 8000000 in
set_option maxRecDepth 100000 in
theorem lc_set {p : Program} {l : Launch} {e : Env} {s : State} {m : MethodId} {below : List Frame} {meth : Method} {c : Code} {dC : Nat → ClassId} {dI : Nat → Nat → Nat} {b L : Nat} {xs : Nat → Int32} {q0 qa qn qx qy : Nat} {cI cF : ClassId} {fa : Nat → Nat} {m0 a1 a2 a3 a4 a5 a6 : Nat} (hL : L ≤ 2048) (C0 : lw_At p s m meth c b L xs) (hK : va_K (dC, dI) vwCl (tyB cI cF) s) {H : Heap} {locs : List Loc} (hG : Sg dC dI s q0 qa qn qx qy cI cF fa m0 a1 a2 a3 a4 a5 a6 H locs) {j : Nat} (hj : 4 * j + 4 ≤ L) {x3 : Int32} (hx3 : x3.toInt = 4 * (j : Int)) {ls : Array Slot} (hl : lv_has ls 4 [(0, .ref b), (1, .ref q0), (2, .ref m0), (3, .int x3)]) {Q : State → Prop} (kk : ∀ (H : Heap) (locs : List Loc), Sg dC dI s q0 qa qn qx qy cI cF fa m0 a1 a2 a3 a4 a5 a6 H locs → W p l e room_1 s m #[Value.ref b] below meth c H locs (20 + (j + 1)) (20152 + 4000 * (j + 1)) Q (F0 m 518 ls [])) : W p l e room_1 s m #[Value.ref b] below meth c H locs (20 + j) (20152 + 4000 * j) Q (F0 m 380 ls []) := by
  obtain ⟨hx, hb, hr, hml, hown0, hts0, hX, hbl, hlocks, hgv⟩ := id C0
  have hown : s.vm.findClass RL = some m.cls := hown0
  have hts : ∀ w ∈ tblG, w.before #[Value.ref b] s = true := fun w h => hts0 w (tblG_in h)
  have hNS := NS.start hts0
  have hA : ∀ q : Nat, s.heap.size ≤ q → (fun q : Nat => s.heap.size ≤ q) q := fun _ h => h
  have hbA : ¬ (fun q : Nat => s.heap.size ≤ q) b := Nat.not_le.mpr hbl
  have hKm : va_K (dC, dI) vwCl (tyM cI) s := hK.sub [0] rfl
  obtain ⟨ar, ln, wd, ht, rw, g, nu, X, Y, tg, so, pa, ru, wd2, ht2, ws, bf, mk, nu2, t2, s2, p2, r2, hLI, hP, hD, hS⟩ := hG
  obtain ⟨wN, hN, Bt, nz, hR, hM, hmk, hbf⟩ := hLI
  have i1 : vp_in (x3 + 1) L := vp_in_iff.mpr (ix_of (ti_add hx3 (by decide : (1 : Int32).toInt = (1 : Int)) (by omega) (by omega)) ⟨by omega, by omega⟩)
  have i2 : vp_in (x3 + 2) L := vp_in_iff.mpr (ix_of (ti_add hx3 (by decide : (2 : Int32).toInt = (2 : Int)) (by omega) (by omega)) ⟨by omega, by omega⟩)
  have i3 : vp_in (x3 + 3) L := vp_in_iff.mpr (ix_of (ti_add hx3 (by decide : (3 : Int32).toInt = (3 : Int)) (by omega) (by omega)) ⟨by omega, by omega⟩)
  refine lv_aload_n hx hb dL_law_380 rfl (lv_at hl 1 rfl) ?_
  refine lv_aload_n hx hb dL_law_381 rfl (lv_at hl 0 rfl) ?_
  refine lv_iload_n hx hb dL_law_382 rfl (lv_at hl 3 rfl) ?_
  refine lv_iconst (v := 1) hx hb dL_law_383 (by decide) ?_
  refine lv_iadd hx hb dL_law_384 ?_
  refine va_sld hx hb hX hbl hbA hS i1 dL_law_385 ?_
  refine lv_aload_n hx hb dL_law_386 rfl (lv_at hl 0 rfl) ?_
  refine lv_iload_n hx hb dL_law_387 rfl (lv_at hl 3 rfl) ?_
  refine lv_iconst (v := 2) hx hb dL_law_388 (by decide) ?_
  refine lv_iadd hx hb dL_law_389 ?_
  refine va_sld hx hb hX hbl hbA hS i2 dL_law_390 ?_
  refine lv_aload_n hx hb dL_law_391 rfl (lv_at hl 0 rfl) ?_
  refine lv_iload_n hx hb dL_law_392 rfl (lv_at hl 3 rfl) ?_
  refine lv_iconst (v := 3) hx hb dL_law_393 (by decide) ?_
  refine lv_iadd hx hb dL_law_394 ?_
  refine va_sld hx hb hX hbl hbA hS i3 dL_law_395 ?_
  refine cL_i (va_runV (As := [.int (xs (x3 + 1).toNatClampNeg), .int (xs (x3 + 2).toNatClampNeg), .int (xs (x3 + 3).toNatClampNeg)]) (rest := []) ⟨hx, hb, hml, hown, hts⟩ (mX2_set l (xs (x3 + 1).toNatClampNeg) (xs (x3 + 2).toNatClampNeg) (xs (x3 + 3).toNatClampNeg) hR) (cwV 3 hts (gA (m4 k191 k192 k193 k1) k194) rfl rfl rfl (by decide +kernel) ⟨Nat.le_of_ble_eq_true rfl, Nat.le_of_ble_eq_true rfl⟩) (prWV (P_l hP) hK hNS (D_l hD) rfl (show (w_bc q0 qa qn qx qy cI cF fa ar ln wd ht rw g nu X Y tg so pa ru)[0]? = some (q0, .inr (2, [.ref qa, .ref qn, .ref qx, .ref qy, .ref (fa tg), va_rf ((so).map fa), va_rf ((pa).map fa), .int ru])) from rfl)) rfl rfl hl.1 rfl (lv_room (Nat.le_of_ble_eq_true rfl)) dL_law_396 ⟨by show 20 + j + 0 ≤ 600000; omega, by show 20152 + 4000 * j + 0 ≤ 7302250; omega⟩) hP hD hS hA (fun r1' u1 H locs hw1 hP hD hS => ?_)
  refine lv_aload_n hx hb dL_law_399 rfl (lv_at hl 2 rfl) ?_
  refine lv_aload_n hx hb dL_law_400 rfl (lv_at hl 0 rfl) ?_
  refine lv_iload_n hx hb dL_law_401 rfl (lv_at hl 3 rfl) ?_
  refine lv_iconst (v := 1) hx hb dL_law_402 (by decide) ?_
  refine lv_iadd hx hb dL_law_403 ?_
  refine va_sld hx hb hX hbl hbA hS i1 dL_law_404 ?_
  refine lv_aload_n hx hb dL_law_405 rfl (lv_at hl 0 rfl) ?_
  refine lv_iload_n hx hb dL_law_406 rfl (lv_at hl 3 rfl) ?_
  refine lv_iconst (v := 2) hx hb dL_law_407 (by decide) ?_
  refine lv_iadd hx hb dL_law_408 ?_
  refine va_sld hx hb hX hbl hbA hS i2 dL_law_409 ?_
  refine lv_aload_n hx hb dL_law_410 rfl (lv_at hl 0 rfl) ?_
  refine lv_iload_n hx hb dL_law_411 rfl (lv_at hl 3 rfl) ?_
  refine lv_iconst (v := 3) hx hb dL_law_412 (by decide) ?_
  refine lv_iadd hx hb dL_law_413 ?_
  refine va_sld hx hb hX hbl hbA hS i3 dL_law_414 ?_
  refine cR_i (va_runV (As := [.int (xs (x3 + 1).toNatClampNeg), .int (xs (x3 + 2).toNatClampNeg), .int (xs (x3 + 3).toNatClampNeg)]) (rest := [.int r1']) ⟨hx, hb, hml, hown, hts⟩ (mX3_set l (xs (x3 + 1).toNatClampNeg) (xs (x3 + 2).toNatClampNeg) (xs (x3 + 3).toNatClampNeg) hM) (cwV 3 hts (gA (m4 k381 k382 k383 k4) k384) rfl rfl rfl (by decide +kernel) ⟨Nat.le_of_ble_eq_true rfl, Nat.le_of_ble_eq_true rfl⟩) (prWV (P_r hP) hKm hNS (D_r hD) rfl (show (w_md m0 a1 a2 a3 a4 a5 a6 cI wd2 ht2 ws bf mk nu2 t2 s2 p2 r2)[0]? = some (m0, .inr (3, [.ref a1, .ref a2, .ref a3, .ref a4, .ref a5, .int t2, .int s2, .int p2, .int r2, .ref a6])) from rfl)) rfl rfl hl.1 rfl (lv_room (Nat.le_of_ble_eq_true rfl)) dL_law_415 ⟨by show 20 + j + 0 + 0 ≤ 600000; omega, by show 20152 + 4000 * j + 0 + 0 ≤ 7302250; omega⟩) hP hD hS hA (fun r2' u2 H locs hw2 hP hD hS => ?_)
  obtain ⟨heq, hLI⟩ := J_set hM hR hmk hbf hw1 hw2
  refine lv_icmp_eq (tgt := 518) hx hb dL_law_418 (by decide) (fun _ => ?_) (fun c9 => absurd heq c9)
  refine W.widen (k := 20 + (j + 1)) (n := 20152 + 4000 * (j + 1)) (by omega) (by omega) ?_
  exact kk _ _ ⟨ar, ln, wd, ht, rw, g, u1, X, Y, tg, so, pa, ru, wd2, ht2, ws, bf, mk, u2, t2, s2, p2, r2, hLI, hP, hD, hS⟩
set_option maxHeartbeats 8000000 in
set_option maxRecDepth 100000 in
theorem lc_order {p : Program} {l : Launch} {e : Env} {s : State} {m : MethodId} {below : List Frame} {meth : Method} {c : Code} {dC : Nat → ClassId} {dI : Nat → Nat → Nat} {b L : Nat} {xs : Nat → Int32} {q0 qa qn qx qy : Nat} {cI cF : ClassId} {fa : Nat → Nat} {m0 a1 a2 a3 a4 a5 a6 : Nat} (hL : L ≤ 2048) (C0 : lw_At p s m meth c b L xs) (hK : va_K (dC, dI) vwCl (tyB cI cF) s) {H : Heap} {locs : List Loc} (hG : Sg dC dI s q0 qa qn qx qy cI cF fa m0 a1 a2 a3 a4 a5 a6 H locs) {j : Nat} (hj : 4 * j + 4 ≤ L) {x3 : Int32} (hx3 : x3.toInt = 4 * (j : Int)) {ls : Array Slot} (hl : lv_has ls 4 [(0, .ref b), (1, .ref q0), (2, .ref m0), (3, .int x3)]) {Q : State → Prop} (kk : ∀ (H : Heap) (locs : List Loc), Sg dC dI s q0 qa qn qx qy cI cF fa m0 a1 a2 a3 a4 a5 a6 H locs → W p l e room_1 s m #[Value.ref b] below meth c H locs (20 + (j + 1)) (20152 + 4000 * (j + 1)) Q (F0 m 518 ls [])) : W p l e room_1 s m #[Value.ref b] below meth c H locs (20 + j) (20152 + 4000 * j) Q (F0 m 423 ls []) := by
  obtain ⟨hx, hb, hr, hml, hown0, hts0, hX, hbl, hlocks, hgv⟩ := id C0
  have hown : s.vm.findClass RL = some m.cls := hown0
  have hts : ∀ w ∈ tblG, w.before #[Value.ref b] s = true := fun w h => hts0 w (tblG_in h)
  have hNS := NS.start hts0
  have hA : ∀ q : Nat, s.heap.size ≤ q → (fun q : Nat => s.heap.size ≤ q) q := fun _ h => h
  have hbA : ¬ (fun q : Nat => s.heap.size ≤ q) b := Nat.not_le.mpr hbl
  have hKm : va_K (dC, dI) vwCl (tyM cI) s := hK.sub [0] rfl
  obtain ⟨ar, ln, wd, ht, rw, g, nu, X, Y, tg, so, pa, ru, wd2, ht2, ws, bf, mk, nu2, t2, s2, p2, r2, hLI, hP, hD, hS⟩ := hG
  obtain ⟨wN, hN, Bt, nz, hR, hM, hmk, hbf⟩ := hLI
  have i1 : vp_in (x3 + 1) L := vp_in_iff.mpr (ix_of (ti_add hx3 (by decide : (1 : Int32).toInt = (1 : Int)) (by omega) (by omega)) ⟨by omega, by omega⟩)
  have i2 : vp_in (x3 + 2) L := vp_in_iff.mpr (ix_of (ti_add hx3 (by decide : (2 : Int32).toInt = (2 : Int)) (by omega) (by omega)) ⟨by omega, by omega⟩)
  refine lv_aload_n hx hb dL_law_423 rfl (lv_at hl 1 rfl) ?_
  refine lv_aload_n hx hb dL_law_424 rfl (lv_at hl 0 rfl) ?_
  refine lv_iload_n hx hb dL_law_425 rfl (lv_at hl 3 rfl) ?_
  refine lv_iconst (v := 1) hx hb dL_law_426 (by decide) ?_
  refine lv_iadd hx hb dL_law_427 ?_
  refine va_sld hx hb hX hbl hbA hS i1 dL_law_428 ?_
  refine lv_aload_n hx hb dL_law_429 rfl (lv_at hl 0 rfl) ?_
  refine lv_iload_n hx hb dL_law_430 rfl (lv_at hl 3 rfl) ?_
  refine lv_iconst (v := 2) hx hb dL_law_431 (by decide) ?_
  refine lv_iadd hx hb dL_law_432 ?_
  refine va_sld hx hb hX hbl hbA hS i2 dL_law_433 ?_
  refine lv_if_eq (tgt := 441) hx hb dL_law_434 (by decide) (fun c434 => ?_) (fun c434 => ?_)
  · skip
    refine lv_iconst (v := 0) hx hb dL_law_441 (by decide) ?_
    refine vp_callSi (va_Run.run (va_runV (As := [.int (xs (x3 + 1).toNatClampNeg), .int 0]) (rest := []) ⟨hx, hb, hml, hown, hts⟩ (mX2_order l (xs (x3 + 1).toNatClampNeg) 0 hR) (cwV 2 hts (gA (m4 k201 k202 k203 k1) k204) rfl rfl rfl (by decide +kernel) ⟨Nat.le_of_ble_eq_true rfl, Nat.le_of_ble_eq_true rfl⟩) (prRV (P_l hP) hK hNS rfl (show (w_bc q0 qa qn qx qy cI cF fa ar ln wd ht rw g nu X Y tg so pa ru)[0]? = some (q0, .inr (2, [.ref qa, .ref qn, .ref qx, .ref qy, .ref (fa tg), va_rf ((so).map fa), va_rf ((pa).map fa), .int ru])) from rfl)) rfl rfl hl.1 rfl (lv_room (Nat.le_of_ble_eq_true rfl)) dL_law_442 ⟨by show 20 + j + 0 ≤ 600000; omega, by show 20152 + 4000 * j + 0 ≤ 7302250; omega⟩)) (fun r1' hw1 => ?_)
    refine lv_aload_n hx hb dL_law_445 rfl (lv_at hl 2 rfl) ?_
    refine lv_aload_n hx hb dL_law_446 rfl (lv_at hl 0 rfl) ?_
    refine lv_iload_n hx hb dL_law_447 rfl (lv_at hl 3 rfl) ?_
    refine lv_iconst (v := 1) hx hb dL_law_448 (by decide) ?_
    refine lv_iadd hx hb dL_law_449 ?_
    refine va_sld hx hb hX hbl hbA hS i1 dL_law_450 ?_
    refine lv_aload_n hx hb dL_law_451 rfl (lv_at hl 0 rfl) ?_
    refine lv_iload_n hx hb dL_law_452 rfl (lv_at hl 3 rfl) ?_
    refine lv_iconst (v := 2) hx hb dL_law_453 (by decide) ?_
    refine lv_iadd hx hb dL_law_454 ?_
    refine va_sld hx hb hX hbl hbA hS i2 dL_law_455 ?_
    refine lv_if_eq (tgt := 463) hx hb dL_law_456 (by decide) (fun c456 => ?_) (fun c456 => ?_)
    · skip
      refine lv_iconst (v := 0) hx hb dL_law_463 (by decide) ?_
      refine vp_callSi (va_Run.run (va_runV (As := [.int (xs (x3 + 1).toNatClampNeg), .int 0]) (rest := [.int r1']) ⟨hx, hb, hml, hown, hts⟩ (mX3_order l (xs (x3 + 1).toNatClampNeg) 0 hM) (cwV 2 hts (gA (m4 k388 k389 k390 k4) k391) rfl rfl rfl (by decide +kernel) ⟨Nat.le_of_ble_eq_true rfl, Nat.le_of_ble_eq_true rfl⟩) (prRV (P_r hP) hKm hNS rfl (show (w_md m0 a1 a2 a3 a4 a5 a6 cI wd2 ht2 ws bf mk nu2 t2 s2 p2 r2)[0]? = some (m0, .inr (3, [.ref a1, .ref a2, .ref a3, .ref a4, .ref a5, .int t2, .int s2, .int p2, .int r2, .ref a6])) from rfl)) rfl rfl hl.1 rfl (lv_room (Nat.le_of_ble_eq_true rfl)) dL_law_464 ⟨by show 20 + j + 0 ≤ 600000; omega, by show 20152 + 4000 * j + 0 ≤ 7302250; omega⟩)) (fun r2' hw2 => ?_)
      have heq := J_order hw1 hw2
      refine lv_icmp_eq (tgt := 518) hx hb dL_law_467 (by decide) (fun _ => ?_) (fun c9 => absurd heq c9)
      refine W.widen (k := 20 + (j + 1)) (n := 20152 + 4000 * (j + 1)) (by omega) (by omega) ?_
      exact kk _ _ ⟨ar, ln, wd, ht, rw, g, nu, X, Y, tg, so, pa, ru, wd2, ht2, ws, bf, mk, nu2, t2, s2, p2, r2, ⟨wN, hN, Bt, nz, hR, hM, hmk, hbf⟩, hP, hD, hS⟩
    · skip
      exact absurd c434 c456
  · skip
    refine lv_iconst (v := 1) hx hb dL_law_437 (by decide) ?_
    refine lv_goto (tgt := 442) hx hb dL_law_438 (by decide) ?_
    refine vp_callSi (va_Run.run (va_runV (As := [.int (xs (x3 + 1).toNatClampNeg), .int 1]) (rest := []) ⟨hx, hb, hml, hown, hts⟩ (mX2_order l (xs (x3 + 1).toNatClampNeg) 1 hR) (cwV 2 hts (gA (m4 k201 k202 k203 k1) k204) rfl rfl rfl (by decide +kernel) ⟨Nat.le_of_ble_eq_true rfl, Nat.le_of_ble_eq_true rfl⟩) (prRV (P_l hP) hK hNS rfl (show (w_bc q0 qa qn qx qy cI cF fa ar ln wd ht rw g nu X Y tg so pa ru)[0]? = some (q0, .inr (2, [.ref qa, .ref qn, .ref qx, .ref qy, .ref (fa tg), va_rf ((so).map fa), va_rf ((pa).map fa), .int ru])) from rfl)) rfl rfl hl.1 rfl (lv_room (Nat.le_of_ble_eq_true rfl)) dL_law_442 ⟨by show 20 + j + 0 ≤ 600000; omega, by show 20152 + 4000 * j + 0 ≤ 7302250; omega⟩)) (fun r1' hw1 => ?_)
    refine lv_aload_n hx hb dL_law_445 rfl (lv_at hl 2 rfl) ?_
    refine lv_aload_n hx hb dL_law_446 rfl (lv_at hl 0 rfl) ?_
    refine lv_iload_n hx hb dL_law_447 rfl (lv_at hl 3 rfl) ?_
    refine lv_iconst (v := 1) hx hb dL_law_448 (by decide) ?_
    refine lv_iadd hx hb dL_law_449 ?_
    refine va_sld hx hb hX hbl hbA hS i1 dL_law_450 ?_
    refine lv_aload_n hx hb dL_law_451 rfl (lv_at hl 0 rfl) ?_
    refine lv_iload_n hx hb dL_law_452 rfl (lv_at hl 3 rfl) ?_
    refine lv_iconst (v := 2) hx hb dL_law_453 (by decide) ?_
    refine lv_iadd hx hb dL_law_454 ?_
    refine va_sld hx hb hX hbl hbA hS i2 dL_law_455 ?_
    refine lv_if_eq (tgt := 463) hx hb dL_law_456 (by decide) (fun c456 => ?_) (fun c456 => ?_)
    · skip
      exact absurd c456 c434
    · skip
      refine lv_iconst (v := 1) hx hb dL_law_459 (by decide) ?_
      refine lv_goto (tgt := 464) hx hb dL_law_460 (by decide) ?_
      refine vp_callSi (va_Run.run (va_runV (As := [.int (xs (x3 + 1).toNatClampNeg), .int 1]) (rest := [.int r1']) ⟨hx, hb, hml, hown, hts⟩ (mX3_order l (xs (x3 + 1).toNatClampNeg) 1 hM) (cwV 2 hts (gA (m4 k388 k389 k390 k4) k391) rfl rfl rfl (by decide +kernel) ⟨Nat.le_of_ble_eq_true rfl, Nat.le_of_ble_eq_true rfl⟩) (prRV (P_r hP) hKm hNS rfl (show (w_md m0 a1 a2 a3 a4 a5 a6 cI wd2 ht2 ws bf mk nu2 t2 s2 p2 r2)[0]? = some (m0, .inr (3, [.ref a1, .ref a2, .ref a3, .ref a4, .ref a5, .int t2, .int s2, .int p2, .int r2, .ref a6])) from rfl)) rfl rfl hl.1 rfl (lv_room (Nat.le_of_ble_eq_true rfl)) dL_law_464 ⟨by show 20 + j + 0 ≤ 600000; omega, by show 20152 + 4000 * j + 0 ≤ 7302250; omega⟩)) (fun r2' hw2 => ?_)
      have heq := J_order hw1 hw2
      refine lv_icmp_eq (tgt := 518) hx hb dL_law_467 (by decide) (fun _ => ?_) (fun c9 => absurd heq c9)
      refine W.widen (k := 20 + (j + 1)) (n := 20152 + 4000 * (j + 1)) (by omega) (by omega) ?_
      exact kk _ _ ⟨ar, ln, wd, ht, rw, g, nu, X, Y, tg, so, pa, ru, wd2, ht2, ws, bf, mk, nu2, t2, s2, p2, r2, ⟨wN, hN, Bt, nz, hR, hM, hmk, hbf⟩, hP, hD, hS⟩
set_option maxHeartbeats 8000000 in
set_option maxRecDepth 100000 in
theorem lc_copy {p : Program} {l : Launch} {e : Env} {s : State} {m : MethodId} {below : List Frame} {meth : Method} {c : Code} {dC : Nat → ClassId} {dI : Nat → Nat → Nat} {b L : Nat} {xs : Nat → Int32} {q0 qa qn qx qy : Nat} {cI cF : ClassId} {fa : Nat → Nat} {m0 a1 a2 a3 a4 a5 a6 : Nat} (hL : L ≤ 2048) (C0 : lw_At p s m meth c b L xs) (hK : va_K (dC, dI) vwCl (tyB cI cF) s) {H : Heap} {locs : List Loc} (hG : Sg dC dI s q0 qa qn qx qy cI cF fa m0 a1 a2 a3 a4 a5 a6 H locs) {j : Nat} (hj : 4 * j + 4 ≤ L) {x3 : Int32} (hx3 : x3.toInt = 4 * (j : Int)) {ls : Array Slot} (hl : lv_has ls 4 [(0, .ref b), (1, .ref q0), (2, .ref m0), (3, .int x3)]) {Q : State → Prop} (kk : ∀ (H : Heap) (locs : List Loc), Sg dC dI s q0 qa qn qx qy cI cF fa m0 a1 a2 a3 a4 a5 a6 H locs → W p l e room_1 s m #[Value.ref b] below meth c H locs (20 + (j + 1)) (20152 + 4000 * (j + 1)) Q (F0 m 518 ls [])) : W p l e room_1 s m #[Value.ref b] below meth c H locs (20 + j) (20152 + 4000 * j) Q (F0 m 472 ls []) := by
  obtain ⟨hx, hb, hr, hml, hown0, hts0, hX, hbl, hlocks, hgv⟩ := id C0
  have hown : s.vm.findClass RL = some m.cls := hown0
  have hts : ∀ w ∈ tblG, w.before #[Value.ref b] s = true := fun w h => hts0 w (tblG_in h)
  have hNS := NS.start hts0
  have hA : ∀ q : Nat, s.heap.size ≤ q → (fun q : Nat => s.heap.size ≤ q) q := fun _ h => h
  have hbA : ¬ (fun q : Nat => s.heap.size ≤ q) b := Nat.not_le.mpr hbl
  have hKm : va_K (dC, dI) vwCl (tyM cI) s := hK.sub [0] rfl
  obtain ⟨ar, ln, wd, ht, rw, g, nu, X, Y, tg, so, pa, ru, wd2, ht2, ws, bf, mk, nu2, t2, s2, p2, r2, hLI, hP, hD, hS⟩ := hG
  obtain ⟨wN, hN, Bt, nz, hR, hM, hmk, hbf⟩ := hLI
  refine lv_aload_n hx hb dL_law_472 rfl (lv_at hl 1 rfl) ?_
  refine cL_i (va_runV (As := []) (rest := []) ⟨hx, hb, hml, hown, hts⟩ (mX2_copy l  hR) (cwV 0 hts (gA (m4 k205 k206 k207 k1) k208) rfl rfl rfl (by decide +kernel) ⟨Nat.le_of_ble_eq_true rfl, Nat.le_of_ble_eq_true rfl⟩) (prWV (P_l hP) hK hNS (D_l hD) rfl (show (w_bc q0 qa qn qx qy cI cF fa ar ln wd ht rw g nu X Y tg so pa ru)[0]? = some (q0, .inr (2, [.ref qa, .ref qn, .ref qx, .ref qy, .ref (fa tg), va_rf ((so).map fa), va_rf ((pa).map fa), .int ru])) from rfl)) rfl rfl hl.1 rfl (lv_room (Nat.le_of_ble_eq_true rfl)) dL_law_473 ⟨by show 20 + j + 0 ≤ 600000; omega, by show 20152 + 4000 * j + 0 ≤ 7302250; omega⟩) hP hD hS hA (fun r1' u1 H locs hw1 hP hD hS => ?_)
  refine lv_aload_n hx hb dL_law_476 rfl (lv_at hl 2 rfl) ?_
  refine cR_i (va_runV (As := []) (rest := [.int r1']) ⟨hx, hb, hml, hown, hts⟩ (mX3_copy l  hM hmk hbf) (cwV 0 hts (gA (m4 k392 k393 k394 k4) k395) rfl rfl rfl (by decide +kernel) ⟨Nat.le_of_ble_eq_true rfl, Nat.le_of_ble_eq_true rfl⟩) (prWV (P_r hP) hKm hNS (D_r hD) rfl (show (w_md m0 a1 a2 a3 a4 a5 a6 cI wd2 ht2 ws bf mk nu2 t2 s2 p2 r2)[0]? = some (m0, .inr (3, [.ref a1, .ref a2, .ref a3, .ref a4, .ref a5, .int t2, .int s2, .int p2, .int r2, .ref a6])) from rfl)) rfl rfl hl.1 rfl (lv_room (Nat.le_of_ble_eq_true rfl)) dL_law_477 ⟨by show 20 + j + 0 + 0 ≤ 600000; omega, by show 20152 + 4000 * j + 0 + 0 ≤ 7302250; omega⟩) hP hD hS hA (fun r2' u2 H locs hw2 hP hD hS => ?_)
  obtain ⟨heq, hLI⟩ := J_copy hM hR hmk hbf hw1 hw2
  refine lv_icmp_eq (tgt := 518) hx hb dL_law_480 (by decide) (fun _ => ?_) (fun c9 => absurd heq c9)
  refine W.widen (k := 20 + (j + 1)) (n := 20152 + 4000 * (j + 1)) (by omega) (by omega) ?_
  exact kk _ _ ⟨ar, ln, wd, ht, rw, u1.2.2, nu, u1.1, u1.2.1, tg, so, pa, ru, wd2, ht2, u2.1, u2.2.1, u2.2.2, nu2, t2, s2, p2, r2, hLI, hP, hD, hS⟩
set_option maxHeartbeats 8000000 in
set_option maxRecDepth 100000 in
theorem lc_line {p : Program} {l : Launch} {e : Env} {s : State} {m : MethodId} {below : List Frame} {meth : Method} {c : Code} {dC : Nat → ClassId} {dI : Nat → Nat → Nat} {b L : Nat} {xs : Nat → Int32} {q0 qa qn qx qy : Nat} {cI cF : ClassId} {fa : Nat → Nat} {m0 a1 a2 a3 a4 a5 a6 : Nat} (hL : L ≤ 2048) (C0 : lw_At p s m meth c b L xs) (hK : va_K (dC, dI) vwCl (tyB cI cF) s) {H : Heap} {locs : List Loc} (hG : Sg dC dI s q0 qa qn qx qy cI cF fa m0 a1 a2 a3 a4 a5 a6 H locs) {j : Nat} (hj : 4 * j + 4 ≤ L) {x3 : Int32} (hx3 : x3.toInt = 4 * (j : Int)) {ls : Array Slot} (hl : lv_has ls 4 [(0, .ref b), (1, .ref q0), (2, .ref m0), (3, .int x3)]) {Q : State → Prop} (kk : ∀ (H : Heap) (locs : List Loc), Sg dC dI s q0 qa qn qx qy cI cF fa m0 a1 a2 a3 a4 a5 a6 H locs → W p l e room_1 s m #[Value.ref b] below meth c H locs (20 + (j + 1)) (20152 + 4000 * (j + 1)) Q (F0 m 518 ls [])) : W p l e room_1 s m #[Value.ref b] below meth c H locs (20 + j) (20152 + 4000 * j) Q (F0 m 485 ls []) := by
  obtain ⟨hx, hb, hr, hml, hown0, hts0, hX, hbl, hlocks, hgv⟩ := id C0
  have hown : s.vm.findClass RL = some m.cls := hown0
  have hts : ∀ w ∈ tblG, w.before #[Value.ref b] s = true := fun w h => hts0 w (tblG_in h)
  have hNS := NS.start hts0
  have hA : ∀ q : Nat, s.heap.size ≤ q → (fun q : Nat => s.heap.size ≤ q) q := fun _ h => h
  have hbA : ¬ (fun q : Nat => s.heap.size ≤ q) b := Nat.not_le.mpr hbl
  have hKm : va_K (dC, dI) vwCl (tyM cI) s := hK.sub [0] rfl
  obtain ⟨ar, ln, wd, ht, rw, g, nu, X, Y, tg, so, pa, ru, wd2, ht2, ws, bf, mk, nu2, t2, s2, p2, r2, hLI, hP, hD, hS⟩ := hG
  obtain ⟨wN, hN, Bt, nz, hR, hM, hmk, hbf⟩ := hLI
  have i1 : vp_in (x3 + 1) L := vp_in_iff.mpr (ix_of (ti_add hx3 (by decide : (1 : Int32).toInt = (1 : Int)) (by omega) (by omega)) ⟨by omega, by omega⟩)
  have i2 : vp_in (x3 + 2) L := vp_in_iff.mpr (ix_of (ti_add hx3 (by decide : (2 : Int32).toInt = (2 : Int)) (by omega) (by omega)) ⟨by omega, by omega⟩)
  refine lv_aload_n hx hb dL_law_485 rfl (lv_at hl 1 rfl) ?_
  refine lv_aload_n hx hb dL_law_486 rfl (lv_at hl 0 rfl) ?_
  refine lv_iload_n hx hb dL_law_487 rfl (lv_at hl 3 rfl) ?_
  refine lv_iconst (v := 1) hx hb dL_law_488 (by decide) ?_
  refine lv_iadd hx hb dL_law_489 ?_
  refine va_sld hx hb hX hbl hbA hS i1 dL_law_490 ?_
  refine lv_aload_n hx hb dL_law_491 rfl (lv_at hl 0 rfl) ?_
  refine lv_iload_n hx hb dL_law_492 rfl (lv_at hl 3 rfl) ?_
  refine lv_iconst (v := 2) hx hb dL_law_493 (by decide) ?_
  refine lv_iadd hx hb dL_law_494 ?_
  refine va_sld hx hb hX hbl hbA hS i2 dL_law_495 ?_
  refine cL_i (va_runV (As := [.int (xs (x3 + 1).toNatClampNeg), .int (xs (x3 + 2).toNatClampNeg)]) (rest := []) ⟨hx, hb, hml, hown, hts⟩ (mX2_line l (xs (x3 + 1).toNatClampNeg) (xs (x3 + 2).toNatClampNeg) hR) (cwV 2 hts (gA (m4 k263 k264 k265 k1) k266) rfl rfl rfl (by decide +kernel) ⟨Nat.le_of_ble_eq_true rfl, Nat.le_of_ble_eq_true rfl⟩) (prWV (P_l hP) hK hNS (D_l hD) rfl (show (w_bc q0 qa qn qx qy cI cF fa ar ln wd ht rw g nu X Y tg so pa ru)[0]? = some (q0, .inr (2, [.ref qa, .ref qn, .ref qx, .ref qy, .ref (fa tg), va_rf ((so).map fa), va_rf ((pa).map fa), .int ru])) from rfl)) rfl rfl hl.1 rfl (lv_room (Nat.le_of_ble_eq_true rfl)) dL_law_496 ⟨by show 20 + j + 0 ≤ 600000; omega, by show 20152 + 4000 * j + 0 ≤ 7302250; omega⟩) hP hD hS hA (fun r1' u1 H locs hw1 hP hD hS => ?_)
  refine lv_aload_n hx hb dL_law_499 rfl (lv_at hl 2 rfl) ?_
  refine lv_aload_n hx hb dL_law_500 rfl (lv_at hl 0 rfl) ?_
  refine lv_iload_n hx hb dL_law_501 rfl (lv_at hl 3 rfl) ?_
  refine lv_iconst (v := 1) hx hb dL_law_502 (by decide) ?_
  refine lv_iadd hx hb dL_law_503 ?_
  refine va_sld hx hb hX hbl hbA hS i1 dL_law_504 ?_
  refine lv_aload_n hx hb dL_law_505 rfl (lv_at hl 0 rfl) ?_
  refine lv_iload_n hx hb dL_law_506 rfl (lv_at hl 3 rfl) ?_
  refine lv_iconst (v := 2) hx hb dL_law_507 (by decide) ?_
  refine lv_iadd hx hb dL_law_508 ?_
  refine va_sld hx hb hX hbl hbA hS i2 dL_law_509 ?_
  refine cR_i (va_runV (As := [.int (xs (x3 + 1).toNatClampNeg), .int (xs (x3 + 2).toNatClampNeg)]) (rest := [.int r1']) ⟨hx, hb, hml, hown, hts⟩ (mX3_line l (xs (x3 + 1).toNatClampNeg) (xs (x3 + 2).toNatClampNeg) hM hmk hbf) (cwV 2 hts (gA (m4 k422 k423 k424 k4) k425) rfl rfl rfl (by decide +kernel) ⟨Nat.le_of_ble_eq_true rfl, Nat.le_of_ble_eq_true rfl⟩) (prWV (P_r hP) hKm hNS (D_r hD) rfl (show (w_md m0 a1 a2 a3 a4 a5 a6 cI wd2 ht2 ws bf mk nu2 t2 s2 p2 r2)[0]? = some (m0, .inr (3, [.ref a1, .ref a2, .ref a3, .ref a4, .ref a5, .int t2, .int s2, .int p2, .int r2, .ref a6])) from rfl)) rfl rfl hl.1 rfl (lv_room (Nat.le_of_ble_eq_true rfl)) dL_law_510 ⟨by show 20 + j + 0 + 0 ≤ 600000; omega, by show 20152 + 4000 * j + 0 + 0 ≤ 7302250; omega⟩) hP hD hS hA (fun r2' u2 H locs hw2 hP hD hS => ?_)
  obtain ⟨heq, hLI⟩ := J_line hM hR hmk hbf hw1 hw2
  refine lv_icmp_eq (tgt := 518) hx hb dL_law_513 (by decide) (fun _ => ?_) (fun c9 => absurd heq c9)
  refine W.widen (k := 20 + (j + 1)) (n := 20152 + 4000 * (j + 1)) (by omega) (by omega) ?_
  exact kk _ _ ⟨ar, ln, wd, ht, rw, u1.2.2.2, u1.1, u1.2.1, u1.2.2.1, tg, so, pa, ru, wd2, ht2, u2.2.1, u2.2.2.1, u2.2.2.2, u2.1, t2, s2, p2, r2, hLI, hP, hD, hS⟩
