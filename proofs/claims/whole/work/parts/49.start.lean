section BCG
variable {p : Program} {l : Launch} {e : Env} {R : Room} {s : State} {m : MethodId} {args : Array Value} {below : List Frame} {meth : Method} {c : Code} {H : Heap} {locs : List Loc} {cells slots : Nat} {Q : State → Prop}
variable {pc : Nat} {ls : Array Slot} {rest st0 : List Value} {a : Array Value} {A0 : Nat → Prop} {H0 : Heap} {mc ms : Nat} {D : va_G} {cl : List vw_C} {wa wb : va_W}
theorem cL_v {S : Type} {post : S → Prop} {tf : S → List (ClassId × FieldType)} {wf : S → va_W} (hr : va_Run p l e R s m args below meth c H locs cells slots mc ms (F0 m pc ls st0) rest (va_Qv post (wB D cl (va_A wa H.size) tf wf) (va_A wa H.size) a) (va_A wa H.size)) (hP : va_P D cl (wa ++ wb) H) (hD : va_D A0 (wa ++ wb)) (hS : va_S A0 H0 H locs) (hA : ∀ q, H0.size ≤ q → A0 q)
    (kk : ∀ (u : S) (H1 : Heap) (locs1 : List Loc), post u → va_P D cl (wf u ++ wb) H1 → va_K D cl (tf u) s → va_D A0 (wf u ++ wb) → va_S A0 H0 H1 locs1 → W p l e R s m args below meth c H1 locs1 (cells + mc) (slots + ms) Q (F0 m (pc + 3) ls rest)) : W p l e R s m args below meth c H locs cells slots Q (F0 m pc ls st0) := by
  have hF := va_freeA (D_l hD) hS hA
  refine va_callv hr hS (fun q _ h => hF q h) hF (fun u t H1 locs1 ht hvm hw hB hz hk hS1 => ?_)
  obtain ⟨g1, g2⟩ := jnL hP hD hk hF (by rw [← ht]; exact hB.1) hB.2.2
  exact kk u H1 locs1 hw g1 (va_K.moved hvm.symm hB.2.1) g2 hS1
end BCG
set_option maxHeartbeats 8000000 in
set_option maxRecDepth 100000 in
theorem whole_start {p : Program} {e : Env} {s : State} {m : MethodId} {below : List Frame} {meth : Method} {c : Code} (l : Launch) {b L : Nat} {xs : Nat → Int32} (hL : L ≤ 2048) (C0 : lw_At p s m meth c b L xs) : W p l e room_1 s m #[Value.ref b] below meth c s.heap [] 0 0 (lw_Z below #[Value.ref b] s) (entryFrame m ([Value.ref b] : List Value).toArray 4) := by
  obtain ⟨hx, hb, hr, hml, hown0, hts0, hX, hbl, hlocks, hgv⟩ := id C0
  have hown : s.vm.findClass RL = some m.cls := hown0
  have hts : ∀ w ∈ tblG, w.before #[Value.ref b] s = true := fun w h => hts0 w (tblG_in h)
  have hNS := NS.start hts0
  have hA : ∀ q : Nat, s.heap.size ≤ q → (fun q : Nat => s.heap.size ≤ q) q := fun _ h => h
  have hbA : ¬ (fun q : Nat => s.heap.size ≤ q) b := Nat.not_le.mpr hbl
  obtain ⟨c0, iS0, hKn0⟩ := u_known (C := RX0) (T := TX0) (N := 4) (n := 4) hts inX0 (hts _ k18)
  obtain ⟨c1, iS1, hKn1⟩ := u_known (C := RX1) (T := TX1) (N := 3) (n := 3) hts inX1 (hts _ k42)
  obtain ⟨c2, iS2, hKn2⟩ := u_known (C := RX2) (T := TX2) (N := 8) (n := 8) hts inX2 (hts _ k9)
  obtain ⟨c3, iS3, hKn3⟩ := u_known (C := RX3) (T := TX3) (N := 10) (n := 10) hts inX3 (hts _ k285)
  obtain ⟨dC, dI, hKc⟩ : ∃ (dC : Nat → ClassId) (dI : Nat → Nat → Nat), ∀ (k : Nat) (q : vw_C), vwCl[k]? = some q → u_Kn s q.1 q.2.1 q.2.2 (dC k) (dI k) := by
    refine ⟨fun k => if k = 0 then c0 else if k = 1 then c1 else if k = 2 then c2 else c3, fun k => if k = 0 then iS0 else if k = 1 then iS1 else if k = 2 then iS2 else iS3, ?_⟩
    intro k q hq
    match k, hq with
    | 0, hq => cases hq; exact hKn0
    | 1, hq => cases hq; exact hKn1
    | 2, hq => cases hq; exact hKn2
    | 3, hq => cases hq; exact hKn3
    | k + 4, hq => simp [vwCl] at hq
  have hS : va_S (fun q : Nat => s.heap.size ≤ q) s.heap s.heap [] := va_S.rf
  have hK : va_K (dC, dI) vwCl [] s := ⟨hKc, fun k q h => by simp at h⟩
  have hP : va_P (dC, dI) vwCl [] s.heap := fun k q h => by simp at h
  have hD : va_D (fun q : Nat => s.heap.size ≤ q) [] := ⟨fun i j p q h => by simp at h, fun k q h => by simp at h⟩
  have hl := lv_entry ([.ref b]) (n := 4) (Nat.le_of_ble_eq_true rfl)
  rw [lg_entry_eq]
  generalize (lg_sl ([.ref b]) ++ List.replicate (4 - (lg_sl ([.ref b])).length) Slot.unset).toArray = ls at hl ⊢
  have hl : lv_has ls 4 [(0, .ref b)] := hl
  refine va_new (ci := 2) (fs := [.null, .null, .null, .null, .null, .null, .null, .int (0 : Int32)]) (C := RX2) (T := TX2) (N := 8) hx hb hts inX2 tyX2 tyX2_ok hown (hts _ k8) (hts _ k9) (hts _ k1) hK hP hD hS hA rfl (fun j hj => by rcases (show j = 0 ∨ j = 1 ∨ j = 2 ∨ j = 3 ∨ j = 4 ∨ j = 5 ∨ j = 6 ∨ j = 7 by omega) with rfl | rfl | rfl | rfl | rfl | rfl | rfl | rfl <;> rfl) (Nat.le_of_ble_eq_true rfl) (Nat.le_of_ble_eq_true rfl) dL_law_0 (fun q0 H hP hD hS => ?_)
  have hP : va_P (dC, dI) vwCl ([(q0, .inr (2, [.null, .null, .null, .null, .null, .null, .null, .int (0 : Int32)]))] ++ []) H := hP
  have hD : va_D (fun q : Nat => s.heap.size ≤ q) ([(q0, .inr (2, [.null, .null, .null, .null, .null, .null, .null, .int (0 : Int32)]))] ++ []) := hD
  refine W.widen (k := 1) (n := 8) (by omega) (by omega) ?_
  refine lv_dup hx hb dL_law_3 rfl ?_
  refine cL_v (va_runI (As := []) (rest := [.ref q0]) ⟨hx, hb, hml, hown, hts⟩ (mX2_init l (h0 := q0)) (cwI 0 hts (gB k12) rfl rfl rfl (hts _ k1) (hts _ k10) (hts _ k11) rfl (by decide +kernel) ⟨Nat.le_of_ble_eq_true rfl, Nat.le_of_ble_eq_true rfl⟩) (prW (P_l hP) hK hNS (D_l hD)) rfl rfl hl.1 rfl (lv_room (Nat.le_of_ble_eq_true rfl)) dL_law_4 ⟨by show 1 + 12 ≤ 600000; omega, by show 8 + 100 ≤ 7302250; omega⟩) hP hD hS hA (fun u H locs _ hP hK hD hS => ?_)
  obtain ⟨⟨qa, qn, qx, qy⟩, ⟨cI, cF⟩, fa, ar⟩ := u
  have hP : va_P (dC, dI) vwCl (w_bc q0 qa qn qx qy cI cF fa ar (fun _ => 16) (fun _ => 16) (fun _ => 16) (fun _ => 1) (fun _ _ => 0) (upd (upd (fun _ => 0) 8 16) 9 16) (0, 0, 0) (0, 0, 0) 0 none none 3) H := by rw [List.append_nil] at hP; exact hP
  have hD : va_D (fun q : Nat => s.heap.size ≤ q) (w_bc q0 qa qn qx qy cI cF fa ar (fun _ => 16) (fun _ => 16) (fun _ => 16) (fun _ => 1) (fun _ _ => 0) (upd (upd (fun _ => 0) 8 16) 9 16) (0, 0, 0) (0, 0, 0) 0 none none 3) := by rw [List.append_nil] at hD; exact hD
  have hK : va_K (dC, dI) vwCl (tyB cI cF) s := hK
  refine W.widen (k := 13) (n := 108) (by omega) (by omega) ?_
  refine lv_astore_n (lv' := [(1, .ref q0), (0, .ref b)]) hx hb dL_law_7 rfl hl (by decide) rfl (fun ls hl => ?_)
  refine va_new (ci := 3) (fs := [.null, .null, .null, .null, .null, .int (0 : Int32), .int (0 : Int32), .int (0 : Int32), .int (0 : Int32), .null]) (C := RX3) (T := TX3) (N := 10) hx hb hts inX3 tyX3 tyX3_ok hown (hts _ k284) (hts _ k285) (hts _ k4) hK hP hD hS hA rfl (fun j hj => by rcases (show j = 0 ∨ j = 1 ∨ j = 2 ∨ j = 3 ∨ j = 4 ∨ j = 5 ∨ j = 6 ∨ j = 7 ∨ j = 8 ∨ j = 9 by omega) with rfl | rfl | rfl | rfl | rfl | rfl | rfl | rfl | rfl | rfl <;> rfl) (Nat.le_of_ble_eq_true rfl) (Nat.le_of_ble_eq_true rfl) dL_law_8 (fun m0 H hP hD hS => ?_)
  refine W.widen (k := 14) (n := 118) (by omega) (by omega) ?_
  refine lv_dup hx hb dL_law_11 rfl ?_
  have hK0 : va_K (dC, dI) vwCl [] s := hK.sub [] rfl
  refine cR_v (va_runI (As := []) (rest := [.ref m0]) ⟨hx, hb, hml, hown, hts⟩ (mX3_init l (m0 := m0)) (cwI 0 hts (gB k288) rfl rfl rfl (hts _ k4) (hts _ k286) (hts _ k287) rfl (by decide +kernel) ⟨Nat.le_of_ble_eq_true rfl, Nat.le_of_ble_eq_true rfl⟩) (prW (P_r hP) hK0 hNS (D_r hD)) rfl rfl hl.1 rfl (lv_room (Nat.le_of_ble_eq_true rfl)) dL_law_12 ⟨by show 14 + 6 ≤ 600000; omega, by show 118 + 20034 ≤ 7302250; omega⟩) hP hD hS hA (fun u H locs _ hP hK2 hD hS => ?_)
  obtain ⟨⟨a1, a2, a3, a4, a5, a6⟩, cN⟩ := u
  have hcc : cI = cN := cA_one (i := 0) (j := 2) (hK.app hK2) rfl rfl
  subst hcc
  have hP : va_P (dC, dI) vwCl (w_bc q0 qa qn qx qy cI cF fa ar (fun _ => 16) (fun _ => 16) (fun _ => 16) (fun _ => 1) (fun _ _ => 0) (upd (upd (fun _ => 0) 8 16) 9 16) (0, 0, 0) (0, 0, 0) 0 none none 3 ++ w_md m0 a1 a2 a3 a4 a5 a6 cI (fun _ => 16) (fun _ => 16) (fun _ => 0) (fun _ => 0) (fun _ => 0) (upd (upd (fun _ => 0) 8 16) 9 16) 0 (-1) (-1) 3) H := hP
  have hD : va_D (fun q : Nat => s.heap.size ≤ q) (w_bc q0 qa qn qx qy cI cF fa ar (fun _ => 16) (fun _ => 16) (fun _ => 16) (fun _ => 1) (fun _ _ => 0) (upd (upd (fun _ => 0) 8 16) 9 16) (0, 0, 0) (0, 0, 0) 0 none none 3 ++ w_md m0 a1 a2 a3 a4 a5 a6 cI (fun _ => 16) (fun _ => 16) (fun _ => 0) (fun _ => 0) (fun _ => 0) (upd (upd (fun _ => 0) 8 16) 9 16) 0 (-1) (-1) 3) := hD
  refine W.widen (k := 20) (n := 20152) (by omega) (by omega) ?_
  refine lv_astore_n (lv' := [(2, .ref m0), (1, .ref q0), (0, .ref b)]) hx hb dL_law_15 rfl hl (by decide) rfl (fun ls hl => ?_)
  refine lv_iconst (v := 0) hx hb dL_law_16 (by decide) ?_
  refine lv_istore_n (lv' := [(3, .int 0), (2, .ref m0), (1, .ref q0), (0, .ref b)]) hx hb dL_law_17 rfl hl (by decide) rfl (fun ls hl => ?_)
  have hG : Sg dC dI s q0 qa qn qx qy cI cF fa m0 a1 a2 a3 a4 a5 a6 H locs := ⟨ar, (fun _ => 16), (fun _ => 16), (fun _ => 16), (fun _ => 1), (fun _ _ => 0), (upd (upd (fun _ => 0) 8 16) 9 16), (0, 0, 0), (0, 0, 0), 0, none, none, 3, (fun _ => 16), (fun _ => 16), (fun _ => 0), (fun _ => 0), (fun _ => 0), (upd (upd (fun _ => 0) 8 16) 9 16), 0, (-1), (-1), 3, ⟨_, _, _, _, RC_0, RM_0, fun _ j _ => b_0 j, fun _ j _ => b_0 j⟩, hP, hD, hS⟩
  exact law_loop hL C0 hK (L + 4) 0 0 (by omega) (by omega) rfl H locs hG ls (lv_sub hl [3, 2, 1, 0] rfl)
