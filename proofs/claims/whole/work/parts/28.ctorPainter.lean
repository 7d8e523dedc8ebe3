/-! The painter's tables, as its constructor makes them. -/
def SPOTS : Nat → Int32 := (f_X2_setSpots (fun _ => 0)).getD (fun _ => 0)
def WAVEST : Nat → Int32 := (f_X2_setWaves (fun _ => 0)).getD (fun _ => 0)
theorem getD_eq {α : Type} {o : Option α} {d : α} (h : o.isSome = true) : o = some (o.getD d) := by
  cases o with
  | none => cases h
  | some a => rfl
set_option maxRecDepth 100000 in
theorem spots_eq : f_X2_setSpots (fun _ => 0) = some SPOTS := getD_eq (by decide +kernel)
set_option maxRecDepth 100000 in
theorem wavest_eq : f_X2_setWaves (fun _ => 0) = some WAVEST := getD_eq (by decide +kernel)
abbrev rm_X2_init : Room := { frames := 2, cells := 5, slots := 264, locals := 60 }

theorem cdS_X2_init : yX2_init.cls ≠ "java/lang/invoke/MethodHandle" ∧ yX2_init.cls ≠ "java/lang/invoke/VarHandle" ∧ (parseMethodDescriptor yX2_init.desc).map (fun d => d.parameters.length) = some 0 := by decide +kernel

theorem hi_X2_init_2 : ∀ w ∈ u_ws RX2 TX2 5, w ∈ wsX2_init := fun _ h => List.mem_cons_of_mem _ (List.mem_append_right _ h)

set_option maxHeartbeats 40000000 in
set_option maxRecDepth 100000 in
theorem c_X2_init (l : Launch) (D : va_G) (cB cI cJ cQ : ClassId) (N : Nat) (h0 : Nat) (sz : Nat) : Met l yX2_init wsX2_init rm_X2_init (ctP D cB cI cJ cQ N sz [.ref h0] (wf [oB h0 2 [.null, .null, .null, .null, .null]] [])) (ctQn D h0 (fun r0 => wf [oB (r0 0) 2 [.ref (r0 1), .ref (r0 2), .ref (r0 3), .ref (r0 4), .ref (r0 5)], aI (r0 1) cI 64 SPOTS, aI (r0 2) cI 64 WAVEST, aI (r0 3) cI 64 (fun _ => 0), aI (r0 4) cI 64 (fun _ => 0), aJ (r0 5) cJ 8 (fun _ => 0)] []) (va_A (wf [oB h0 2 [.null, .null, .null, .null, .null]] []) sz)) 5 264 (va_A (wf [oB h0 2 [.null, .null, .null, .null, .null]] []) sz) := by
  refine ct_of (y := yX2_init) (av := [.ref h0]) (cc := cX2_init) (maxL := 1) (ret := none) (own := RX2) (Qp := ctQn D h0 (fun r0 => wf [oB (r0 0) 2 [.ref (r0 1), .ref (r0 2), .ref (r0 3), .ref (r0 4), .ref (r0 5)], aI (r0 1) cI 64 SPOTS, aI (r0 2) cI 64 WAVEST, aI (r0 3) cI 64 (fun _ => 0), aI (r0 4) cI 64 (fun _ => 0), aJ (r0 5) cJ 8 (fun _ => 0)] [])) (by decide) rfl rfl (Nat.le_of_ble_eq_true rfl) ?_
  intro p e s m args below meth c A hx hb hr hml hown hts hlk hnm hsz hAe E hP0 hD0 hS0 ls0 hl0
  subst hsz
  have hl0 : lv_has ls0 1 [(0, .ref h0)] := hl0
  refine lv_aload_n hx hb dX2_init_0 rfl (lv_at hl0 0 rfl) ?_
  refine W.objInit hx hb hown (hts _ (List.mem_of_getElem? (i := 1) rfl)) (hts _ (List.mem_of_getElem? (i := 2) rfl)) (hts _ (List.mem_of_getElem? (i := 3) rfl)) rfl (by rw [hml]; exact hl0.1) rfl dX2_init_1 (Nat.le_of_ble_eq_true rfl) (Nat.le_of_ble_eq_true rfl) ?_
  refine W.eq (g2 := F0 m 4 ls0 []) rfl ?_
  refine lv_aload_n hx hb dX2_init_4 rfl (lv_at hl0 0 rfl) ?_
  refine lv_bipush (v := 64) hx hb dX2_init_5 (by decide) ?_
  refine ct_newa (atype := .int) (ty := .int) (k0 := 0) (cA := cI) (n := 64) (N' := 64) (a0 := (64, .inl (fun _ => 0))) hx hb (hts _ (List.mem_of_getElem? (i := 4) rfl)) rfl E hP0 hD0 hS0 rfl (fun _ _ => rfl) (fun _ => rfl) (by decide) rfl (Nat.le_of_ble_eq_true rfl) (Nat.le_of_ble_eq_true rfl) (Nat.le_of_ble_eq_true rfl) dX2_init_7 (fun q1 H1 hP1 hD1 hS1 => ?_)
  clear hP0 hD0 hS0
  have hP1 : va_P D vwCl (wf [oB h0 2 [.null, .null, .null, .null, .null], aI q1 cI 64 (fun _ => 0)] []) H1 := hP1
  have hD1 : va_D A (wf [oB h0 2 [.null, .null, .null, .null, .null], aI q1 cI 64 (fun _ => 0)] []) := hD1
  refine W.widen (k := 1) (n := 64) (Nat.le_of_ble_eq_true rfl) (Nat.le_of_ble_eq_true rfl) ?_
  refine ct_putF (D := D) (ci := 2) (v := .ref q1) (ty := .array .int) (C := RX2) (T := TX2) (N := 5) (ws' := (wf [oB h0 2 [.ref q1, .null, .null, .null, .null], aI q1 cI 64 (fun _ => 0)] [])) hx hb hts hi_X2_init_2 tyX2 tyX2_ok nmX2 hown E.1 hP1 hD1 hS1 0 rfl rfl 0 (by decide) (hts _ (List.mem_of_getElem? (i := 5) rfl)) (fun _ h9 => h9) rfl hnm rfl (by decide +kernel) rfl rfl (Nat.le_of_ble_eq_true rfl) rfl dX2_init_9 (fun H2 lc2 hP2 hD2 hS2 => ?_)
  clear hP1 hD1 hS1
  refine lv_aload_n hx hb dX2_init_12 rfl (lv_at hl0 0 rfl) ?_
  refine lv_bipush (v := 64) hx hb dX2_init_13 (by decide) ?_
  refine ct_newa (atype := .int) (ty := .int) (k0 := 0) (cA := cI) (n := 64) (N' := 64) (a0 := (64, .inl (fun _ => 0))) hx hb (hts _ (List.mem_of_getElem? (i := 4) rfl)) rfl E hP2 hD2 hS2 rfl (fun _ _ => rfl) (fun _ => rfl) (by decide) rfl (Nat.le_of_ble_eq_true rfl) (Nat.le_of_ble_eq_true rfl) (Nat.le_of_ble_eq_true rfl) dX2_init_15 (fun q3 H3 hP3 hD3 hS3 => ?_)
  clear hP2 hD2 hS2
  have hP3 : va_P D vwCl (wf [oB h0 2 [.ref q1, .null, .null, .null, .null], aI q1 cI 64 (fun _ => 0), aI q3 cI 64 (fun _ => 0)] []) H3 := hP3
  have hD3 : va_D A (wf [oB h0 2 [.ref q1, .null, .null, .null, .null], aI q1 cI 64 (fun _ => 0), aI q3 cI 64 (fun _ => 0)] []) := hD3
  refine W.widen (k := 2) (n := 128) (Nat.le_of_ble_eq_true rfl) (Nat.le_of_ble_eq_true rfl) ?_
  refine ct_putF (D := D) (ci := 2) (v := .ref q3) (ty := .array .int) (C := RX2) (T := TX2) (N := 5) (ws' := (wf [oB h0 2 [.ref q1, .ref q3, .null, .null, .null], aI q1 cI 64 (fun _ => 0), aI q3 cI 64 (fun _ => 0)] [])) hx hb hts hi_X2_init_2 tyX2 tyX2_ok nmX2 hown E.1 hP3 hD3 hS3 0 rfl rfl 1 (by decide) (hts _ (List.mem_of_getElem? (i := 6) rfl)) (fun _ h9 => h9) rfl hnm rfl (by decide +kernel) rfl rfl (Nat.le_of_ble_eq_true rfl) rfl dX2_init_17 (fun H4 lc4 hP4 hD4 hS4 => ?_)
  clear hP3 hD3 hS3
  refine lv_aload_n hx hb dX2_init_20 rfl (lv_at hl0 0 rfl) ?_
  refine lv_bipush (v := 64) hx hb dX2_init_21 (by decide) ?_
  refine ct_newa (atype := .int) (ty := .int) (k0 := 0) (cA := cI) (n := 64) (N' := 64) (a0 := (64, .inl (fun _ => 0))) hx hb (hts _ (List.mem_of_getElem? (i := 4) rfl)) rfl E hP4 hD4 hS4 rfl (fun _ _ => rfl) (fun _ => rfl) (by decide) rfl (Nat.le_of_ble_eq_true rfl) (Nat.le_of_ble_eq_true rfl) (Nat.le_of_ble_eq_true rfl) dX2_init_23 (fun q5 H5 hP5 hD5 hS5 => ?_)
  clear hP4 hD4 hS4
  have hP5 : va_P D vwCl (wf [oB h0 2 [.ref q1, .ref q3, .null, .null, .null], aI q1 cI 64 (fun _ => 0), aI q3 cI 64 (fun _ => 0), aI q5 cI 64 (fun _ => 0)] []) H5 := hP5
  have hD5 : va_D A (wf [oB h0 2 [.ref q1, .ref q3, .null, .null, .null], aI q1 cI 64 (fun _ => 0), aI q3 cI 64 (fun _ => 0), aI q5 cI 64 (fun _ => 0)] []) := hD5
  refine W.widen (k := 3) (n := 192) (Nat.le_of_ble_eq_true rfl) (Nat.le_of_ble_eq_true rfl) ?_
  refine ct_putF (D := D) (ci := 2) (v := .ref q5) (ty := .array .int) (C := RX2) (T := TX2) (N := 5) (ws' := (wf [oB h0 2 [.ref q1, .ref q3, .ref q5, .null, .null], aI q1 cI 64 (fun _ => 0), aI q3 cI 64 (fun _ => 0), aI q5 cI 64 (fun _ => 0)] [])) hx hb hts hi_X2_init_2 tyX2 tyX2_ok nmX2 hown E.1 hP5 hD5 hS5 0 rfl rfl 2 (by decide) (hts _ (List.mem_of_getElem? (i := 7) rfl)) (fun _ h9 => h9) rfl hnm rfl (by decide +kernel) rfl rfl (Nat.le_of_ble_eq_true rfl) rfl dX2_init_25 (fun H6 lc6 hP6 hD6 hS6 => ?_)
  clear hP5 hD5 hS5
  refine lv_aload_n hx hb dX2_init_28 rfl (lv_at hl0 0 rfl) ?_
  refine lv_bipush (v := 64) hx hb dX2_init_29 (by decide) ?_
  refine ct_newa (atype := .int) (ty := .int) (k0 := 0) (cA := cI) (n := 64) (N' := 64) (a0 := (64, .inl (fun _ => 0))) hx hb (hts _ (List.mem_of_getElem? (i := 4) rfl)) rfl E hP6 hD6 hS6 rfl (fun _ _ => rfl) (fun _ => rfl) (by decide) rfl (Nat.le_of_ble_eq_true rfl) (Nat.le_of_ble_eq_true rfl) (Nat.le_of_ble_eq_true rfl) dX2_init_31 (fun q7 H7 hP7 hD7 hS7 => ?_)
  clear hP6 hD6 hS6
  have hP7 : va_P D vwCl (wf [oB h0 2 [.ref q1, .ref q3, .ref q5, .null, .null], aI q1 cI 64 (fun _ => 0), aI q3 cI 64 (fun _ => 0), aI q5 cI 64 (fun _ => 0), aI q7 cI 64 (fun _ => 0)] []) H7 := hP7
  have hD7 : va_D A (wf [oB h0 2 [.ref q1, .ref q3, .ref q5, .null, .null], aI q1 cI 64 (fun _ => 0), aI q3 cI 64 (fun _ => 0), aI q5 cI 64 (fun _ => 0), aI q7 cI 64 (fun _ => 0)] []) := hD7
  refine W.widen (k := 4) (n := 256) (Nat.le_of_ble_eq_true rfl) (Nat.le_of_ble_eq_true rfl) ?_
  refine ct_putF (D := D) (ci := 2) (v := .ref q7) (ty := .array .int) (C := RX2) (T := TX2) (N := 5) (ws' := (wf [oB h0 2 [.ref q1, .ref q3, .ref q5, .ref q7, .null], aI q1 cI 64 (fun _ => 0), aI q3 cI 64 (fun _ => 0), aI q5 cI 64 (fun _ => 0), aI q7 cI 64 (fun _ => 0)] [])) hx hb hts hi_X2_init_2 tyX2 tyX2_ok nmX2 hown E.1 hP7 hD7 hS7 0 rfl rfl 3 (by decide) (hts _ (List.mem_of_getElem? (i := 8) rfl)) (fun _ h9 => h9) rfl hnm rfl (by decide +kernel) rfl rfl (Nat.le_of_ble_eq_true rfl) rfl dX2_init_33 (fun H8 lc8 hP8 hD8 hS8 => ?_)
  clear hP7 hD7 hS7
  refine lv_aload_n hx hb dX2_init_36 rfl (lv_at hl0 0 rfl) ?_
  refine lv_bipush (v := 8) hx hb dX2_init_37 (by decide) ?_
  refine ct_newa (atype := .long) (ty := .long) (k0 := 2) (cA := cJ) (n := 8) (N' := 8) (a0 := (8, .inr (.inl (fun _ => 0)))) hx hb (hts _ (List.mem_of_getElem? (i := 9) rfl)) rfl E hP8 hD8 hS8 rfl (fun _ _ => rfl) (fun _ => rfl) (by decide) rfl (Nat.le_of_ble_eq_true rfl) (Nat.le_of_ble_eq_true rfl) (Nat.le_of_ble_eq_true rfl) dX2_init_39 (fun q9 H9 hP9 hD9 hS9 => ?_)
  clear hP8 hD8 hS8
  have hP9 : va_P D vwCl (wf [oB h0 2 [.ref q1, .ref q3, .ref q5, .ref q7, .null], aI q1 cI 64 (fun _ => 0), aI q3 cI 64 (fun _ => 0), aI q5 cI 64 (fun _ => 0), aI q7 cI 64 (fun _ => 0), aJ q9 cJ 8 (fun _ => 0)] []) H9 := hP9
  have hD9 : va_D A (wf [oB h0 2 [.ref q1, .ref q3, .ref q5, .ref q7, .null], aI q1 cI 64 (fun _ => 0), aI q3 cI 64 (fun _ => 0), aI q5 cI 64 (fun _ => 0), aI q7 cI 64 (fun _ => 0), aJ q9 cJ 8 (fun _ => 0)] []) := hD9
  refine W.widen (k := 5) (n := 264) (Nat.le_of_ble_eq_true rfl) (Nat.le_of_ble_eq_true rfl) ?_
  refine ct_putF (D := D) (ci := 2) (v := .ref q9) (ty := .array .long) (C := RX2) (T := TX2) (N := 5) (ws' := (wf [oB h0 2 [.ref q1, .ref q3, .ref q5, .ref q7, .ref q9], aI q1 cI 64 (fun _ => 0), aI q3 cI 64 (fun _ => 0), aI q5 cI 64 (fun _ => 0), aI q7 cI 64 (fun _ => 0), aJ q9 cJ 8 (fun _ => 0)] [])) hx hb hts hi_X2_init_2 tyX2 tyX2_ok nmX2 hown E.1 hP9 hD9 hS9 0 rfl rfl 4 (by decide) (hts _ (List.mem_of_getElem? (i := 10) rfl)) (fun _ h9 => h9) rfl hnm rfl (by decide +kernel) rfl rfl (Nat.le_of_ble_eq_true rfl) rfl dX2_init_41 (fun H10 lc10 hP10 hD10 hS10 => ?_)
  clear hP9 hD9 hS9
  refine lv_aload_n hx hb dX2_init_44 rfl (lv_at hl0 0 rfl) ?_
  obtain ⟨r0, he11_0, he11_1, he11_2, he11_3, he11_4, he11_5⟩ : ∃ r0 : Nat → Nat, r0 0 = h0 ∧ r0 1 = q1 ∧ r0 2 = q3 ∧ r0 3 = q5 ∧ r0 4 = q7 ∧ r0 5 = q9 := ⟨fun k => if k = 0 then h0 else if k = 1 then q1 else if k = 2 then q3 else if k = 3 then q5 else if k = 4 then q7 else if k = 5 then q9 else 0, rfl, rfl, rfl, rfl, rfl, rfl⟩
  rw [← he11_0, ← he11_1, ← he11_2, ← he11_3, ← he11_4, ← he11_5] at hP10 hD10
  have hP10 : va_P D vwCl (wf [oB (r0 0) 2 [.ref (r0 1), .ref (r0 2), .ref (r0 3), .ref (r0 4), .ref (r0 5)], aI (r0 1) cI 64 (fun _ => 0), aI (r0 2) cI 64 (fun _ => 0), aI (r0 3) cI 64 (fun _ => 0), aI (r0 4) cI 64 (fun _ => 0), aJ (r0 5) cJ 8 (fun _ => 0)] []) H10 := hP10
  have hD10 : va_D A (wf [oB (r0 0) 2 [.ref (r0 1), .ref (r0 2), .ref (r0 3), .ref (r0 4), .ref (r0 5)], aI (r0 1) cI 64 (fun _ => 0), aI (r0 2) cI 64 (fun _ => 0), aI (r0 3) cI 64 (fun _ => 0), aI (r0 4) cI 64 (fun _ => 0), aJ (r0 5) cJ 8 (fun _ => 0)] []) := hD10
  have hlq : lv_has ls0 1 [(0, .ref (r0 0))] := by rw [he11_0]; exact hl0
  rw [← he11_0]
  have sb12 := ctS.mk (n := 6) (k := 0) (pre := [oB (r0 0) 2 [.ref (r0 1), .ref (r0 2), .ref (r0 3), .ref (r0 4), .ref (r0 5)], aI (r0 1) cI 64 (fun _ => 0), aI (r0 2) cI 64 (fun _ => 0), aI (r0 3) cI 64 (fun _ => 0), aI (r0 4) cI 64 (fun _ => 0), aJ (r0 5) cJ 8 (fun _ => 0)]) (tl := []) [0, 1] [2, 3, 4, 5] [] [] rfl rfl (by decide +kernel) (by decide +kernel)
  refine ct_callv E sb12 hP10 hD10 hS10 (va_runV (As := []) (rest := []) ⟨hx, hb, hml, hown, hts⟩ (c_X2_setSpots l D cB cI cJ cQ N r0 H10.size (fun _ => 0) (SPOTS) spots_eq) (cwV 0 hts gX2_init_X2_setSpots rfl rfl rfl cdV_X2_setSpots ⟨Nat.le_of_ble_eq_true rfl, Nat.le_of_ble_eq_true rfl⟩) (ct_preV (q0 := 0) (ci := 2) E sb12 hP10 hD10 hS10 rfl rfl) rfl rfl hl0.1 rfl (lv_room (Nat.le_of_ble_eq_true rfl)) dX2_init_45 ⟨Nat.le_of_ble_eq_true rfl, Nat.le_of_ble_eq_true rfl⟩) (fun H12 lc12 hP12 hD12 hS12 => ?_); clear sb12
  clear hP10 hD10 hS10
  have hP12 : va_P D vwCl (wf [aI (r0 2) cI 64 (fun _ => 0), aI (r0 3) cI 64 (fun _ => 0), aI (r0 4) cI 64 (fun _ => 0), aJ (r0 5) cJ 8 (fun _ => 0), oB (r0 0) 2 [.ref (r0 1), .ref (r0 2), .ref (r0 3), .ref (r0 4), .ref (r0 5)], aI (r0 1) cI 64 SPOTS] []) H12 := hP12
  have hD12 : va_D A (wf [aI (r0 2) cI 64 (fun _ => 0), aI (r0 3) cI 64 (fun _ => 0), aI (r0 4) cI 64 (fun _ => 0), aJ (r0 5) cJ 8 (fun _ => 0), oB (r0 0) 2 [.ref (r0 1), .ref (r0 2), .ref (r0 3), .ref (r0 4), .ref (r0 5)], aI (r0 1) cI 64 SPOTS] []) := hD12
  refine lv_aload_n hx hb dX2_init_48 rfl (lv_at hlq 0 rfl) ?_
  have sb13 := ctS.mk (n := 6) (k := 0) (pre := [aI (r0 2) cI 64 (fun _ => 0), aI (r0 3) cI 64 (fun _ => 0), aI (r0 4) cI 64 (fun _ => 0), aJ (r0 5) cJ 8 (fun _ => 0), oB (r0 0) 2 [.ref (r0 1), .ref (r0 2), .ref (r0 3), .ref (r0 4), .ref (r0 5)], aI (r0 1) cI 64 SPOTS]) (tl := []) [4, 0] [1, 2, 3, 5] [] [] rfl rfl (by decide +kernel) (by decide +kernel)
  refine ct_callv E sb13 hP12 hD12 hS12 (va_runV (As := []) (rest := []) ⟨hx, hb, hml, hown, hts⟩ (c_X2_setWaves l D cB cI cJ cQ N r0 H12.size (fun _ => 0) (WAVEST) wavest_eq) (cwV 0 hts gX2_init_X2_setWaves rfl rfl rfl cdV_X2_setWaves ⟨Nat.le_of_ble_eq_true rfl, Nat.le_of_ble_eq_true rfl⟩) (ct_preV (q0 := 4) (ci := 2) E sb13 hP12 hD12 hS12 rfl rfl) rfl rfl hl0.1 rfl (lv_room (Nat.le_of_ble_eq_true rfl)) dX2_init_49 ⟨Nat.le_of_ble_eq_true rfl, Nat.le_of_ble_eq_true rfl⟩) (fun H13 lc13 hP13 hD13 hS13 => ?_); clear sb13
  clear hP12 hD12 hS12
  have hP13 : va_P D vwCl (wf [aI (r0 3) cI 64 (fun _ => 0), aI (r0 4) cI 64 (fun _ => 0), aJ (r0 5) cJ 8 (fun _ => 0), aI (r0 1) cI 64 SPOTS, oB (r0 0) 2 [.ref (r0 1), .ref (r0 2), .ref (r0 3), .ref (r0 4), .ref (r0 5)], aI (r0 2) cI 64 WAVEST] []) H13 := hP13
  have hD13 : va_D A (wf [aI (r0 3) cI 64 (fun _ => 0), aI (r0 4) cI 64 (fun _ => 0), aJ (r0 5) cJ 8 (fun _ => 0), aI (r0 1) cI 64 SPOTS, oB (r0 0) 2 [.ref (r0 1), .ref (r0 2), .ref (r0 3), .ref (r0 4), .ref (r0 5)], aI (r0 2) cI 64 WAVEST] []) := hD13
  obtain ⟨hP14, hD14⟩ := ct_ord (n := 6) (k := 0) [4, 3, 5, 0, 1, 2] [] hP13 hD13 rfl rfl (by decide +kernel) (by decide +kernel)
  have hS14 := hS13
  have hP14 : va_P D vwCl (wf [oB (r0 0) 2 [.ref (r0 1), .ref (r0 2), .ref (r0 3), .ref (r0 4), .ref (r0 5)], aI (r0 1) cI 64 SPOTS, aI (r0 2) cI 64 WAVEST, aI (r0 3) cI 64 (fun _ => 0), aI (r0 4) cI 64 (fun _ => 0), aJ (r0 5) cJ 8 (fun _ => 0)] []) H13 := hP14
  have hD14 : va_D A (wf [oB (r0 0) 2 [.ref (r0 1), .ref (r0 2), .ref (r0 3), .ref (r0 4), .ref (r0 5)], aI (r0 1) cI 64 SPOTS, aI (r0 2) cI 64 WAVEST, aI (r0 3) cI 64 (fun _ => 0), aI (r0 4) cI 64 (fun _ => 0), aJ (r0 5) cJ 8 (fun _ => 0)] []) := hD14
  exact ct_nret r0 rfl hx hb hr hlk hP14 hD14 hS14 dX2_init_52
