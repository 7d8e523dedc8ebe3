abbrev rm_X4_init : Room := { frames := 1, cells := 1, slots := 6000, locals := 60 }

theorem cdS_X4_init : yX4_init.cls ≠ "java/lang/invoke/MethodHandle" ∧ yX4_init.cls ≠ "java/lang/invoke/VarHandle" ∧ (parseMethodDescriptor yX4_init.desc).map (fun d => d.parameters.length) = some 0 := by decide +kernel

theorem hi_X4_init_4 : ∀ w ∈ u_ws RX4 TX4 4, w ∈ wsX4_init := fun _ h => List.mem_cons_of_mem _ (List.mem_append_right _ h)

set_option maxHeartbeats 40000000 in
set_option maxRecDepth 100000 in
theorem c_X4_init (l : Launch) (D : va_G) (cB cI cJ cQ : ClassId) (N : Nat) (h0 : Nat) (sz : Nat) : Met l yX4_init wsX4_init rm_X4_init (ctP D cB cI cJ cQ N sz [.ref h0] (wf [oB h0 4 [.null, .int 0, .int 0, .int 0]] [])) (ctQn D h0 (fun r0 => wf [oB (r0 0) 4 [.ref (r0 1), .int 0, .int 0, .int 0], aI (r0 1) cB 6000 (fun _ => 0)] []) (va_A (wf [oB h0 4 [.null, .int 0, .int 0, .int 0]] []) sz)) 1 6000 (va_A (wf [oB h0 4 [.null, .int 0, .int 0, .int 0]] []) sz) := by
  refine ct_of (y := yX4_init) (av := [.ref h0]) (cc := cX4_init) (maxL := 1) (ret := none) (own := RX4) (Qp := ctQn D h0 (fun r0 => wf [oB (r0 0) 4 [.ref (r0 1), .int 0, .int 0, .int 0], aI (r0 1) cB 6000 (fun _ => 0)] [])) (by decide) rfl rfl (Nat.le_of_ble_eq_true rfl) ?_
  intro p e s m args below meth c A hx hb hr hml hown hts hlk hnm hsz hAe E hP0 hD0 hS0 ls0 hl0
  subst hsz
  have hl0 : lv_has ls0 1 [(0, .ref h0)] := hl0
  refine lv_aload_n hx hb dX4_init_0 rfl (lv_at hl0 0 rfl) ?_
  refine W.objInit hx hb hown (hts _ (List.mem_of_getElem? (i := 1) rfl)) (hts _ (List.mem_of_getElem? (i := 2) rfl)) (hts _ (List.mem_of_getElem? (i := 3) rfl)) rfl (by rw [hml]; exact hl0.1) rfl dX4_init_1 (Nat.le_of_ble_eq_true rfl) (Nat.le_of_ble_eq_true rfl) ?_
  refine W.eq (g2 := F0 m 4 ls0 []) rfl ?_
  refine lv_aload_n hx hb dX4_init_4 rfl (lv_at hl0 0 rfl) ?_
  refine lv_sipush (v := 6000) hx hb dX4_init_5 (by decide) ?_
  refine ct_newa (atype := .byte) (ty := .byte) (k0 := 1) (cA := cB) (n := 6000) (N' := 6000) (a0 := (6000, .inl (fun _ => 0))) hx hb (hts _ (List.mem_of_getElem? (i := 4) rfl)) rfl E hP0 hD0 hS0 rfl (fun _ _ => rfl) (fun _ => rfl) (by decide) rfl (Nat.le_of_ble_eq_true rfl) (Nat.le_of_ble_eq_true rfl) (Nat.le_of_ble_eq_true rfl) dX4_init_8 (fun q1 H1 hP1 hD1 hS1 => ?_)
  clear hP0 hD0 hS0
  have hP1 : va_P D vwCl (wf [oB h0 4 [.null, .int 0, .int 0, .int 0], aI q1 cB 6000 (fun _ => 0)] []) H1 := hP1
  have hD1 : va_D A (wf [oB h0 4 [.null, .int 0, .int 0, .int 0], aI q1 cB 6000 (fun _ => 0)] []) := hD1
  refine W.widen (k := 1) (n := 6000) (Nat.le_of_ble_eq_true rfl) (Nat.le_of_ble_eq_true rfl) ?_
  refine ct_putF (D := D) (ci := 4) (v := .ref q1) (ty := .array .byte) (C := RX4) (T := TX4) (N := 4) (ws' := (wf [oB h0 4 [.ref q1, .int 0, .int 0, .int 0], aI q1 cB 6000 (fun _ => 0)] [])) hx hb hts hi_X4_init_4 tyX4 tyX4_ok nmX4 hown E.1 hP1 hD1 hS1 0 rfl rfl 0 (by decide) (hts _ (List.mem_of_getElem? (i := 5) rfl)) (fun _ h9 => h9) rfl hnm rfl (by decide +kernel) rfl rfl (Nat.le_of_ble_eq_true rfl) rfl dX4_init_10 (fun H2 lc2 hP2 hD2 hS2 => ?_)
  clear hP1 hD1 hS1
  obtain ⟨r0, he3_0, he3_1⟩ : ∃ r0 : Nat → Nat, r0 0 = h0 ∧ r0 1 = q1 := ⟨fun k => if k = 0 then h0 else if k = 1 then q1 else 0, rfl, rfl⟩
  rw [← he3_0, ← he3_1] at hP2 hD2
  have hP2 : va_P D vwCl (wf [oB (r0 0) 4 [.ref (r0 1), .int 0, .int 0, .int 0], aI (r0 1) cB 6000 (fun _ => 0)] []) H2 := hP2
  have hD2 : va_D A (wf [oB (r0 0) 4 [.ref (r0 1), .int 0, .int 0, .int 0], aI (r0 1) cB 6000 (fun _ => 0)] []) := hD2
  have hlq : lv_has ls0 1 [(0, .ref (r0 0))] := by rw [he3_0]; exact hl0
  exact ct_nret r0 he3_0 hx hb hr hlk hP2 hD2 hS2 dX4_init_13

abbrev rm_X5_init : Room := { frames := 1, cells := 1, slots := 88, locals := 60 }

theorem cdS_X5_init : yX5_init.cls ≠ "java/lang/invoke/MethodHandle" ∧ yX5_init.cls ≠ "java/lang/invoke/VarHandle" ∧ (parseMethodDescriptor yX5_init.desc).map (fun d => d.parameters.length) = some 0 := by decide +kernel

theorem hi_X5_init_5 : ∀ w ∈ u_ws RX5 TX5 4, w ∈ wsX5_init := fun _ h => List.mem_cons_of_mem _ (List.mem_append_right _ h)

set_option maxHeartbeats 40000000 in
set_option maxRecDepth 100000 in
theorem c_X5_init (l : Launch) (D : va_G) (cB cI cJ cQ : ClassId) (N : Nat) (h0 : Nat) (sz : Nat) : Met l yX5_init wsX5_init rm_X5_init (ctP D cB cI cJ cQ N sz [.ref h0] (wf [oB h0 5 [.null, .int 0, .int 0, .int 0]] [])) (ctQn D h0 (fun r0 => wf [oB (r0 0) 5 [.ref (r0 1), .int 0, .int 0, .int 0], aI (r0 1) cI 88 (fun _ => 0)] []) (va_A (wf [oB h0 5 [.null, .int 0, .int 0, .int 0]] []) sz)) 1 88 (va_A (wf [oB h0 5 [.null, .int 0, .int 0, .int 0]] []) sz) := by
  refine ct_of (y := yX5_init) (av := [.ref h0]) (cc := cX5_init) (maxL := 1) (ret := none) (own := RX5) (Qp := ctQn D h0 (fun r0 => wf [oB (r0 0) 5 [.ref (r0 1), .int 0, .int 0, .int 0], aI (r0 1) cI 88 (fun _ => 0)] [])) (by decide) rfl rfl (Nat.le_of_ble_eq_true rfl) ?_
  intro p e s m args below meth c A hx hb hr hml hown hts hlk hnm hsz hAe E hP0 hD0 hS0 ls0 hl0
  subst hsz
  have hl0 : lv_has ls0 1 [(0, .ref h0)] := hl0
  refine lv_aload_n hx hb dX5_init_0 rfl (lv_at hl0 0 rfl) ?_
  refine W.objInit hx hb hown (hts _ (List.mem_of_getElem? (i := 1) rfl)) (hts _ (List.mem_of_getElem? (i := 2) rfl)) (hts _ (List.mem_of_getElem? (i := 3) rfl)) rfl (by rw [hml]; exact hl0.1) rfl dX5_init_1 (Nat.le_of_ble_eq_true rfl) (Nat.le_of_ble_eq_true rfl) ?_
  refine W.eq (g2 := F0 m 4 ls0 []) rfl ?_
  refine lv_aload_n hx hb dX5_init_4 rfl (lv_at hl0 0 rfl) ?_
  refine lv_bipush (v := 88) hx hb dX5_init_5 (by decide) ?_
  refine ct_newa (atype := .int) (ty := .int) (k0 := 0) (cA := cI) (n := 88) (N' := 88) (a0 := (88, .inl (fun _ => 0))) hx hb (hts _ (List.mem_of_getElem? (i := 4) rfl)) rfl E hP0 hD0 hS0 rfl (fun _ _ => rfl) (fun _ => rfl) (by decide) rfl (Nat.le_of_ble_eq_true rfl) (Nat.le_of_ble_eq_true rfl) (Nat.le_of_ble_eq_true rfl) dX5_init_7 (fun q1 H1 hP1 hD1 hS1 => ?_)
  clear hP0 hD0 hS0
  have hP1 : va_P D vwCl (wf [oB h0 5 [.null, .int 0, .int 0, .int 0], aI q1 cI 88 (fun _ => 0)] []) H1 := hP1
  have hD1 : va_D A (wf [oB h0 5 [.null, .int 0, .int 0, .int 0], aI q1 cI 88 (fun _ => 0)] []) := hD1
  refine W.widen (k := 1) (n := 88) (Nat.le_of_ble_eq_true rfl) (Nat.le_of_ble_eq_true rfl) ?_
  refine ct_putF (D := D) (ci := 5) (v := .ref q1) (ty := .array .int) (C := RX5) (T := TX5) (N := 4) (ws' := (wf [oB h0 5 [.ref q1, .int 0, .int 0, .int 0], aI q1 cI 88 (fun _ => 0)] [])) hx hb hts hi_X5_init_5 tyX5 tyX5_ok nmX5 hown E.1 hP1 hD1 hS1 0 rfl rfl 0 (by decide) (hts _ (List.mem_of_getElem? (i := 5) rfl)) (fun _ h9 => h9) rfl hnm rfl (by decide +kernel) rfl rfl (Nat.le_of_ble_eq_true rfl) rfl dX5_init_9 (fun H2 lc2 hP2 hD2 hS2 => ?_)
  clear hP1 hD1 hS1
  obtain ⟨r0, he3_0, he3_1⟩ : ∃ r0 : Nat → Nat, r0 0 = h0 ∧ r0 1 = q1 := ⟨fun k => if k = 0 then h0 else if k = 1 then q1 else 0, rfl, rfl⟩
  rw [← he3_0, ← he3_1] at hP2 hD2
  have hP2 : va_P D vwCl (wf [oB (r0 0) 5 [.ref (r0 1), .int 0, .int 0, .int 0], aI (r0 1) cI 88 (fun _ => 0)] []) H2 := hP2
  have hD2 : va_D A (wf [oB (r0 0) 5 [.ref (r0 1), .int 0, .int 0, .int 0], aI (r0 1) cI 88 (fun _ => 0)] []) := hD2
  have hlq : lv_has ls0 1 [(0, .ref (r0 0))] := by rw [he3_0]; exact hl0
  exact ct_nret r0 he3_0 hx hb hr hlk hP2 hD2 hS2 dX5_init_12

abbrev rm_X3_init : Room := { frames := 1, cells := 1, slots := 2304, locals := 60 }

theorem cdS_X3_init : yX3_init.cls ≠ "java/lang/invoke/MethodHandle" ∧ yX3_init.cls ≠ "java/lang/invoke/VarHandle" ∧ (parseMethodDescriptor yX3_init.desc).map (fun d => d.parameters.length) = some 0 := by decide +kernel

theorem hi_X3_init_3 : ∀ w ∈ u_ws RX3 TX3 3, w ∈ wsX3_init := fun _ h => List.mem_cons_of_mem _ (List.mem_append_right _ h)

set_option maxHeartbeats 40000000 in
set_option maxRecDepth 100000 in
theorem c_X3_init (l : Launch) (D : va_G) (cB cI cJ cQ : ClassId) (N : Nat) (h0 : Nat) (sz : Nat) : Met l yX3_init wsX3_init rm_X3_init (ctP D cB cI cJ cQ N sz [.ref h0] (wf [oB h0 3 [.null, .int 0, .int 0]] [])) (ctQn D h0 (fun r0 => wf [oB (r0 0) 3 [.ref (r0 1), .int 0, .int 0], aI (r0 1) cI 2304 (fun _ => 0)] []) (va_A (wf [oB h0 3 [.null, .int 0, .int 0]] []) sz)) 1 2304 (va_A (wf [oB h0 3 [.null, .int 0, .int 0]] []) sz) := by
  refine ct_of (y := yX3_init) (av := [.ref h0]) (cc := cX3_init) (maxL := 1) (ret := none) (own := RX3) (Qp := ctQn D h0 (fun r0 => wf [oB (r0 0) 3 [.ref (r0 1), .int 0, .int 0], aI (r0 1) cI 2304 (fun _ => 0)] [])) (by decide) rfl rfl (Nat.le_of_ble_eq_true rfl) ?_
  intro p e s m args below meth c A hx hb hr hml hown hts hlk hnm hsz hAe E hP0 hD0 hS0 ls0 hl0
  subst hsz
  have hl0 : lv_has ls0 1 [(0, .ref h0)] := hl0
  refine lv_aload_n hx hb dX3_init_0 rfl (lv_at hl0 0 rfl) ?_
  refine W.objInit hx hb hown (hts _ (List.mem_of_getElem? (i := 1) rfl)) (hts _ (List.mem_of_getElem? (i := 2) rfl)) (hts _ (List.mem_of_getElem? (i := 3) rfl)) rfl (by rw [hml]; exact hl0.1) rfl dX3_init_1 (Nat.le_of_ble_eq_true rfl) (Nat.le_of_ble_eq_true rfl) ?_
  refine W.eq (g2 := F0 m 4 ls0 []) rfl ?_
  refine lv_aload_n hx hb dX3_init_4 rfl (lv_at hl0 0 rfl) ?_
  refine lv_sipush (v := 2304) hx hb dX3_init_5 (by decide) ?_
  refine ct_newa (atype := .int) (ty := .int) (k0 := 0) (cA := cI) (n := 2304) (N' := 2304) (a0 := (2304, .inl (fun _ => 0))) hx hb (hts _ (List.mem_of_getElem? (i := 4) rfl)) rfl E hP0 hD0 hS0 rfl (fun _ _ => rfl) (fun _ => rfl) (by decide) rfl (Nat.le_of_ble_eq_true rfl) (Nat.le_of_ble_eq_true rfl) (Nat.le_of_ble_eq_true rfl) dX3_init_8 (fun q1 H1 hP1 hD1 hS1 => ?_)
  clear hP0 hD0 hS0
  have hP1 : va_P D vwCl (wf [oB h0 3 [.null, .int 0, .int 0], aI q1 cI 2304 (fun _ => 0)] []) H1 := hP1
  have hD1 : va_D A (wf [oB h0 3 [.null, .int 0, .int 0], aI q1 cI 2304 (fun _ => 0)] []) := hD1
  refine W.widen (k := 1) (n := 2304) (Nat.le_of_ble_eq_true rfl) (Nat.le_of_ble_eq_true rfl) ?_
  refine ct_putF (D := D) (ci := 3) (v := .ref q1) (ty := .array .int) (C := RX3) (T := TX3) (N := 3) (ws' := (wf [oB h0 3 [.ref q1, .int 0, .int 0], aI q1 cI 2304 (fun _ => 0)] [])) hx hb hts hi_X3_init_3 tyX3 tyX3_ok nmX3 hown E.1 hP1 hD1 hS1 0 rfl rfl 0 (by decide) (hts _ (List.mem_of_getElem? (i := 5) rfl)) (fun _ h9 => h9) rfl hnm rfl (by decide +kernel) rfl rfl (Nat.le_of_ble_eq_true rfl) rfl dX3_init_10 (fun H2 lc2 hP2 hD2 hS2 => ?_)
  clear hP1 hD1 hS1
  obtain ⟨r0, he3_0, he3_1⟩ : ∃ r0 : Nat → Nat, r0 0 = h0 ∧ r0 1 = q1 := ⟨fun k => if k = 0 then h0 else if k = 1 then q1 else 0, rfl, rfl⟩
  rw [← he3_0, ← he3_1] at hP2 hD2
  have hP2 : va_P D vwCl (wf [oB (r0 0) 3 [.ref (r0 1), .int 0, .int 0], aI (r0 1) cI 2304 (fun _ => 0)] []) H2 := hP2
  have hD2 : va_D A (wf [oB (r0 0) 3 [.ref (r0 1), .int 0, .int 0], aI (r0 1) cI 2304 (fun _ => 0)] []) := hD2
  have hlq : lv_has ls0 1 [(0, .ref (r0 0))] := by rw [he3_0]; exact hl0
  exact ct_nret r0 he3_0 hx hb hr hlk hP2 hD2 hS2 dX3_init_13

abbrev rm_X0_init : Room := { frames := 1, cells := 42, slots := 2489, locals := 60 }

theorem cdS_X0_init : yX0_init.cls ≠ "java/lang/invoke/MethodHandle" ∧ yX0_init.cls ≠ "java/lang/invoke/VarHandle" ∧ (parseMethodDescriptor yX0_init.desc).map (fun d => d.parameters.length) = some 0 := by decide +kernel

theorem hi_X0_init_0 : ∀ w ∈ u_ws RX0 TX0 12, w ∈ wsX0_init := fun _ h => List.mem_cons_of_mem _ (List.mem_append_right _ h)

set_option maxHeartbeats 40000000 in
set_option maxRecDepth 100000 in
theorem c_X0_init (l : Launch) (D : va_G) (cB cI cJ cQ : ClassId) (N : Nat) (h0 : Nat) (sz : Nat) : Met l yX0_init wsX0_init rm_X0_init (ctP D cB cI cJ cQ N sz [.ref h0] (wf [oB h0 0 [.null, .null, .null, .null, .null, .null, .int 0, .int 0, .int 0, .int 0, .int 0, .int 0]] [])) (ctQn D h0 (fun r0 => wf [oB (r0 0) 0 [.ref (r0 1), .ref (r0 2), .ref (r0 3), .ref (r0 4), .ref (r0 5), .ref (r0 6), .int 0, .int 0, .int 0, .int 0, .int 0, .int 0], aI (r0 1) cI 36 (fun _ => 0), aI (r0 2) cI 36 (fun _ => 0), aI (r0 3) cI 36 (fun _ => 0), aQ (r0 4) cQ r0, aI (r0 5) cI 36 (fun _ => 0), aI (r0 6) cI 5 (fun _ => 0)] [rowsW cI r0 (fun _ _ => 0)]) (va_A (wf [oB h0 0 [.null, .null, .null, .null, .null, .null, .int 0, .int 0, .int 0, .int 0, .int 0, .int 0]] []) sz)) 42 2489 (va_A (wf [oB h0 0 [.null, .null, .null, .null, .null, .null, .int 0, .int 0, .int 0, .int 0, .int 0, .int 0]] []) sz) := by
  refine ct_of (y := yX0_init) (av := [.ref h0]) (cc := cX0_init) (maxL := 1) (ret := none) (own := RX0) (Qp := ctQn D h0 (fun r0 => wf [oB (r0 0) 0 [.ref (r0 1), .ref (r0 2), .ref (r0 3), .ref (r0 4), .ref (r0 5), .ref (r0 6), .int 0, .int 0, .int 0, .int 0, .int 0, .int 0], aI (r0 1) cI 36 (fun _ => 0), aI (r0 2) cI 36 (fun _ => 0), aI (r0 3) cI 36 (fun _ => 0), aQ (r0 4) cQ r0, aI (r0 5) cI 36 (fun _ => 0), aI (r0 6) cI 5 (fun _ => 0)] [rowsW cI r0 (fun _ _ => 0)])) (by decide) rfl rfl (Nat.le_of_ble_eq_true rfl) ?_
  intro p e s m args below meth c A hx hb hr hml hown hts hlk hnm hsz hAe E hP0 hD0 hS0 ls0 hl0
  subst hsz
  have hl0 : lv_has ls0 1 [(0, .ref h0)] := hl0
  refine lv_aload_n hx hb dX0_init_0 rfl (lv_at hl0 0 rfl) ?_
  refine W.objInit hx hb hown (hts _ (List.mem_of_getElem? (i := 1) rfl)) (hts _ (List.mem_of_getElem? (i := 2) rfl)) (hts _ (List.mem_of_getElem? (i := 3) rfl)) rfl (by rw [hml]; exact hl0.1) rfl dX0_init_1 (Nat.le_of_ble_eq_true rfl) (Nat.le_of_ble_eq_true rfl) ?_
  refine W.eq (g2 := F0 m 4 ls0 []) rfl ?_
  refine lv_aload_n hx hb dX0_init_4 rfl (lv_at hl0 0 rfl) ?_
  refine lv_bipush (v := 36) hx hb dX0_init_5 (by decide) ?_
  refine ct_newa (atype := .int) (ty := .int) (k0 := 0) (cA := cI) (n := 36) (N' := 36) (a0 := (36, .inl (fun _ => 0))) hx hb (hts _ (List.mem_of_getElem? (i := 4) rfl)) rfl E hP0 hD0 hS0 rfl (fun _ _ => rfl) (fun _ => rfl) (by decide) rfl (Nat.le_of_ble_eq_true rfl) (Nat.le_of_ble_eq_true rfl) (Nat.le_of_ble_eq_true rfl) dX0_init_7 (fun q1 H1 hP1 hD1 hS1 => ?_)
  clear hP0 hD0 hS0
  have hP1 : va_P D vwCl (wf [oB h0 0 [.null, .null, .null, .null, .null, .null, .int 0, .int 0, .int 0, .int 0, .int 0, .int 0], aI q1 cI 36 (fun _ => 0)] []) H1 := hP1
  have hD1 : va_D A (wf [oB h0 0 [.null, .null, .null, .null, .null, .null, .int 0, .int 0, .int 0, .int 0, .int 0, .int 0], aI q1 cI 36 (fun _ => 0)] []) := hD1
  refine W.widen (k := 1) (n := 36) (Nat.le_of_ble_eq_true rfl) (Nat.le_of_ble_eq_true rfl) ?_
  refine ct_putF (D := D) (ci := 0) (v := .ref q1) (ty := .array .int) (C := RX0) (T := TX0) (N := 12) (ws' := (wf [oB h0 0 [.ref q1, .null, .null, .null, .null, .null, .int 0, .int 0, .int 0, .int 0, .int 0, .int 0], aI q1 cI 36 (fun _ => 0)] [])) hx hb hts hi_X0_init_0 tyX0 tyX0_ok nmX0 hown E.1 hP1 hD1 hS1 0 rfl rfl 0 (by decide) (hts _ (List.mem_of_getElem? (i := 5) rfl)) (fun _ h9 => h9) rfl hnm rfl (by decide +kernel) rfl rfl (Nat.le_of_ble_eq_true rfl) rfl dX0_init_9 (fun H2 lc2 hP2 hD2 hS2 => ?_)
  clear hP1 hD1 hS1
  refine lv_aload_n hx hb dX0_init_12 rfl (lv_at hl0 0 rfl) ?_
  refine lv_bipush (v := 36) hx hb dX0_init_13 (by decide) ?_
  refine ct_newa (atype := .int) (ty := .int) (k0 := 0) (cA := cI) (n := 36) (N' := 36) (a0 := (36, .inl (fun _ => 0))) hx hb (hts _ (List.mem_of_getElem? (i := 4) rfl)) rfl E hP2 hD2 hS2 rfl (fun _ _ => rfl) (fun _ => rfl) (by decide) rfl (Nat.le_of_ble_eq_true rfl) (Nat.le_of_ble_eq_true rfl) (Nat.le_of_ble_eq_true rfl) dX0_init_15 (fun q3 H3 hP3 hD3 hS3 => ?_)
  clear hP2 hD2 hS2
  have hP3 : va_P D vwCl (wf [oB h0 0 [.ref q1, .null, .null, .null, .null, .null, .int 0, .int 0, .int 0, .int 0, .int 0, .int 0], aI q1 cI 36 (fun _ => 0), aI q3 cI 36 (fun _ => 0)] []) H3 := hP3
  have hD3 : va_D A (wf [oB h0 0 [.ref q1, .null, .null, .null, .null, .null, .int 0, .int 0, .int 0, .int 0, .int 0, .int 0], aI q1 cI 36 (fun _ => 0), aI q3 cI 36 (fun _ => 0)] []) := hD3
  refine W.widen (k := 2) (n := 72) (Nat.le_of_ble_eq_true rfl) (Nat.le_of_ble_eq_true rfl) ?_
  refine ct_putF (D := D) (ci := 0) (v := .ref q3) (ty := .array .int) (C := RX0) (T := TX0) (N := 12) (ws' := (wf [oB h0 0 [.ref q1, .ref q3, .null, .null, .null, .null, .int 0, .int 0, .int 0, .int 0, .int 0, .int 0], aI q1 cI 36 (fun _ => 0), aI q3 cI 36 (fun _ => 0)] [])) hx hb hts hi_X0_init_0 tyX0 tyX0_ok nmX0 hown E.1 hP3 hD3 hS3 0 rfl rfl 1 (by decide) (hts _ (List.mem_of_getElem? (i := 6) rfl)) (fun _ h9 => h9) rfl hnm rfl (by decide +kernel) rfl rfl (Nat.le_of_ble_eq_true rfl) rfl dX0_init_17 (fun H4 lc4 hP4 hD4 hS4 => ?_)
  clear hP3 hD3 hS3
  refine lv_aload_n hx hb dX0_init_20 rfl (lv_at hl0 0 rfl) ?_
  refine lv_bipush (v := 36) hx hb dX0_init_21 (by decide) ?_
  refine ct_newa (atype := .int) (ty := .int) (k0 := 0) (cA := cI) (n := 36) (N' := 36) (a0 := (36, .inl (fun _ => 0))) hx hb (hts _ (List.mem_of_getElem? (i := 4) rfl)) rfl E hP4 hD4 hS4 rfl (fun _ _ => rfl) (fun _ => rfl) (by decide) rfl (Nat.le_of_ble_eq_true rfl) (Nat.le_of_ble_eq_true rfl) (Nat.le_of_ble_eq_true rfl) dX0_init_23 (fun q5 H5 hP5 hD5 hS5 => ?_)
  clear hP4 hD4 hS4
  have hP5 : va_P D vwCl (wf [oB h0 0 [.ref q1, .ref q3, .null, .null, .null, .null, .int 0, .int 0, .int 0, .int 0, .int 0, .int 0], aI q1 cI 36 (fun _ => 0), aI q3 cI 36 (fun _ => 0), aI q5 cI 36 (fun _ => 0)] []) H5 := hP5
  have hD5 : va_D A (wf [oB h0 0 [.ref q1, .ref q3, .null, .null, .null, .null, .int 0, .int 0, .int 0, .int 0, .int 0, .int 0], aI q1 cI 36 (fun _ => 0), aI q3 cI 36 (fun _ => 0), aI q5 cI 36 (fun _ => 0)] []) := hD5
  refine W.widen (k := 3) (n := 108) (Nat.le_of_ble_eq_true rfl) (Nat.le_of_ble_eq_true rfl) ?_
  refine ct_putF (D := D) (ci := 0) (v := .ref q5) (ty := .array .int) (C := RX0) (T := TX0) (N := 12) (ws' := (wf [oB h0 0 [.ref q1, .ref q3, .ref q5, .null, .null, .null, .int 0, .int 0, .int 0, .int 0, .int 0, .int 0], aI q1 cI 36 (fun _ => 0), aI q3 cI 36 (fun _ => 0), aI q5 cI 36 (fun _ => 0)] [])) hx hb hts hi_X0_init_0 tyX0 tyX0_ok nmX0 hown E.1 hP5 hD5 hS5 0 rfl rfl 2 (by decide) (hts _ (List.mem_of_getElem? (i := 7) rfl)) (fun _ h9 => h9) rfl hnm rfl (by decide +kernel) rfl rfl (Nat.le_of_ble_eq_true rfl) rfl dX0_init_25 (fun H6 lc6 hP6 hD6 hS6 => ?_)
  clear hP5 hD5 hS5
  refine lv_aload_n hx hb dX0_init_28 rfl (lv_at hl0 0 rfl) ?_
  refine lv_bipush (v := 36) hx hb dX0_init_29 (by decide) ?_
  refine lv_bipush (v := 64) hx hb dX0_init_31 (by decide) ?_
  refine ct_mna hx hb hown (hts _ (List.mem_of_getElem? (i := 8) rfl)) (hts _ (List.mem_of_getElem? (i := 4) rfl)) (E.2.1.2.2.2.2.2.2.2.2.2.2) E hP6 hD6 hS6 (Nat.le_of_ble_eq_true rfl) (Nat.le_of_ble_eq_true rfl) dX0_init_33 (fun q7 rr7 H7 hP7 hD7 hS7 => ?_)
  clear hP6 hD6 hS6
  have hP7 : va_P D vwCl (wf [oB h0 0 [.ref q1, .ref q3, .ref q5, .null, .null, .null, .int 0, .int 0, .int 0, .int 0, .int 0, .int 0], aI q1 cI 36 (fun _ => 0), aI q3 cI 36 (fun _ => 0), aI q5 cI 36 (fun _ => 0), aQ q7 cQ rr7] [rowsW cI rr7 (fun _ _ => 0)]) H7 := hP7
  have hD7 : va_D A (wf [oB h0 0 [.ref q1, .ref q3, .ref q5, .null, .null, .null, .int 0, .int 0, .int 0, .int 0, .int 0, .int 0], aI q1 cI 36 (fun _ => 0), aI q3 cI 36 (fun _ => 0), aI q5 cI 36 (fun _ => 0), aQ q7 cQ rr7] [rowsW cI rr7 (fun _ _ => 0)]) := hD7
  refine W.widen (k := 40) (n := 2448) (Nat.le_of_ble_eq_true rfl) (Nat.le_of_ble_eq_true rfl) ?_
  refine ct_putF (D := D) (ci := 0) (v := .ref q7) (ty := .array (.array .int)) (C := RX0) (T := TX0) (N := 12) (ws' := (wf [oB h0 0 [.ref q1, .ref q3, .ref q5, .ref q7, .null, .null, .int 0, .int 0, .int 0, .int 0, .int 0, .int 0], aI q1 cI 36 (fun _ => 0), aI q3 cI 36 (fun _ => 0), aI q5 cI 36 (fun _ => 0), aQ q7 cQ rr7] [rowsW cI rr7 (fun _ _ => 0)])) hx hb hts hi_X0_init_0 tyX0 tyX0_ok nmX0 hown E.1 hP7 hD7 hS7 0 rfl rfl 3 (by decide) (hts _ (List.mem_of_getElem? (i := 9) rfl)) (fun _ h9 => h9) rfl hnm rfl (by decide +kernel) rfl rfl (Nat.le_of_ble_eq_true rfl) rfl dX0_init_37 (fun H8 lc8 hP8 hD8 hS8 => ?_)
  clear hP7 hD7 hS7
  refine lv_aload_n hx hb dX0_init_40 rfl (lv_at hl0 0 rfl) ?_
  refine lv_bipush (v := 36) hx hb dX0_init_41 (by decide) ?_
  refine ct_newa (atype := .int) (ty := .int) (k0 := 0) (cA := cI) (n := 36) (N' := 36) (a0 := (36, .inl (fun _ => 0))) hx hb (hts _ (List.mem_of_getElem? (i := 4) rfl)) rfl E hP8 hD8 hS8 rfl (fun _ _ => rfl) (fun _ => rfl) (by decide) rfl (Nat.le_of_ble_eq_true rfl) (Nat.le_of_ble_eq_true rfl) (Nat.le_of_ble_eq_true rfl) dX0_init_43 (fun q9 H9 hP9 hD9 hS9 => ?_)
  clear hP8 hD8 hS8
  have hP9 : va_P D vwCl (wf [oB h0 0 [.ref q1, .ref q3, .ref q5, .ref q7, .null, .null, .int 0, .int 0, .int 0, .int 0, .int 0, .int 0], aI q1 cI 36 (fun _ => 0), aI q3 cI 36 (fun _ => 0), aI q5 cI 36 (fun _ => 0), aQ q7 cQ rr7, aI q9 cI 36 (fun _ => 0)] [rowsW cI rr7 (fun _ _ => 0)]) H9 := hP9
  have hD9 : va_D A (wf [oB h0 0 [.ref q1, .ref q3, .ref q5, .ref q7, .null, .null, .int 0, .int 0, .int 0, .int 0, .int 0, .int 0], aI q1 cI 36 (fun _ => 0), aI q3 cI 36 (fun _ => 0), aI q5 cI 36 (fun _ => 0), aQ q7 cQ rr7, aI q9 cI 36 (fun _ => 0)] [rowsW cI rr7 (fun _ _ => 0)]) := hD9
  refine W.widen (k := 41) (n := 2484) (Nat.le_of_ble_eq_true rfl) (Nat.le_of_ble_eq_true rfl) ?_
  refine ct_putF (D := D) (ci := 0) (v := .ref q9) (ty := .array .int) (C := RX0) (T := TX0) (N := 12) (ws' := (wf [oB h0 0 [.ref q1, .ref q3, .ref q5, .ref q7, .ref q9, .null, .int 0, .int 0, .int 0, .int 0, .int 0, .int 0], aI q1 cI 36 (fun _ => 0), aI q3 cI 36 (fun _ => 0), aI q5 cI 36 (fun _ => 0), aQ q7 cQ rr7, aI q9 cI 36 (fun _ => 0)] [rowsW cI rr7 (fun _ _ => 0)])) hx hb hts hi_X0_init_0 tyX0 tyX0_ok nmX0 hown E.1 hP9 hD9 hS9 0 rfl rfl 4 (by decide) (hts _ (List.mem_of_getElem? (i := 10) rfl)) (fun _ h9 => h9) rfl hnm rfl (by decide +kernel) rfl rfl (Nat.le_of_ble_eq_true rfl) rfl dX0_init_45 (fun H10 lc10 hP10 hD10 hS10 => ?_)
  clear hP9 hD9 hS9
  refine lv_aload_n hx hb dX0_init_48 rfl (lv_at hl0 0 rfl) ?_
  refine lv_iconst (v := 5) hx hb dX0_init_49 (by decide) ?_
  refine ct_newa (atype := .int) (ty := .int) (k0 := 0) (cA := cI) (n := 5) (N' := 5) (a0 := (5, .inl (fun _ => 0))) hx hb (hts _ (List.mem_of_getElem? (i := 4) rfl)) rfl E hP10 hD10 hS10 rfl (fun _ _ => rfl) (fun _ => rfl) (by decide) rfl (Nat.le_of_ble_eq_true rfl) (Nat.le_of_ble_eq_true rfl) (Nat.le_of_ble_eq_true rfl) dX0_init_50 (fun q11 H11 hP11 hD11 hS11 => ?_)
  clear hP10 hD10 hS10
  have hP11 : va_P D vwCl (wf [oB h0 0 [.ref q1, .ref q3, .ref q5, .ref q7, .ref q9, .null, .int 0, .int 0, .int 0, .int 0, .int 0, .int 0], aI q1 cI 36 (fun _ => 0), aI q3 cI 36 (fun _ => 0), aI q5 cI 36 (fun _ => 0), aQ q7 cQ rr7, aI q9 cI 36 (fun _ => 0), aI q11 cI 5 (fun _ => 0)] [rowsW cI rr7 (fun _ _ => 0)]) H11 := hP11
  have hD11 : va_D A (wf [oB h0 0 [.ref q1, .ref q3, .ref q5, .ref q7, .ref q9, .null, .int 0, .int 0, .int 0, .int 0, .int 0, .int 0], aI q1 cI 36 (fun _ => 0), aI q3 cI 36 (fun _ => 0), aI q5 cI 36 (fun _ => 0), aQ q7 cQ rr7, aI q9 cI 36 (fun _ => 0), aI q11 cI 5 (fun _ => 0)] [rowsW cI rr7 (fun _ _ => 0)]) := hD11
  refine W.widen (k := 42) (n := 2489) (Nat.le_of_ble_eq_true rfl) (Nat.le_of_ble_eq_true rfl) ?_
  refine ct_putF (D := D) (ci := 0) (v := .ref q11) (ty := .array .int) (C := RX0) (T := TX0) (N := 12) (ws' := (wf [oB h0 0 [.ref q1, .ref q3, .ref q5, .ref q7, .ref q9, .ref q11, .int 0, .int 0, .int 0, .int 0, .int 0, .int 0], aI q1 cI 36 (fun _ => 0), aI q3 cI 36 (fun _ => 0), aI q5 cI 36 (fun _ => 0), aQ q7 cQ rr7, aI q9 cI 36 (fun _ => 0), aI q11 cI 5 (fun _ => 0)] [rowsW cI rr7 (fun _ _ => 0)])) hx hb hts hi_X0_init_0 tyX0 tyX0_ok nmX0 hown E.1 hP11 hD11 hS11 0 rfl rfl 5 (by decide) (hts _ (List.mem_of_getElem? (i := 11) rfl)) (fun _ h9 => h9) rfl hnm rfl (by decide +kernel) rfl rfl (Nat.le_of_ble_eq_true rfl) rfl dX0_init_52 (fun H12 lc12 hP12 hD12 hS12 => ?_)
  clear hP11 hD11 hS11
  obtain ⟨r0, he13_0, he13_1, he13_2, he13_3, he13_4, he13_5, he13_6, he13_7⟩ : ∃ r0 : Nat → Nat, r0 0 = h0 ∧ r0 1 = q1 ∧ r0 2 = q3 ∧ r0 3 = q5 ∧ r0 4 = q7 ∧ r0 5 = q9 ∧ r0 6 = q11 ∧ ∀ i, r0 (7 + i) = rr7 (7 + i) := ⟨fun k => if k = 0 then h0 else if k = 1 then q1 else if k = 2 then q3 else if k = 3 then q5 else if k = 4 then q7 else if k = 5 then q9 else if k = 6 then q11 else rr7 k, rfl, rfl, rfl, rfl, rfl, rfl, rfl, fun i => by simp [show 7 + i ≠ 0 by omega, show 7 + i ≠ 1 by omega, show 7 + i ≠ 2 by omega, show 7 + i ≠ 3 by omega, show 7 + i ≠ 4 by omega, show 7 + i ≠ 5 by omega, show 7 + i ≠ 6 by omega]⟩
  rw [rowsW_cg he13_7, aQ_cg he13_7] at hP12 hD12
  rw [← he13_0, ← he13_1, ← he13_2, ← he13_3, ← he13_4, ← he13_5, ← he13_6] at hP12 hD12
  have hP12 : va_P D vwCl (wf [oB (r0 0) 0 [.ref (r0 1), .ref (r0 2), .ref (r0 3), .ref (r0 4), .ref (r0 5), .ref (r0 6), .int 0, .int 0, .int 0, .int 0, .int 0, .int 0], aI (r0 1) cI 36 (fun _ => 0), aI (r0 2) cI 36 (fun _ => 0), aI (r0 3) cI 36 (fun _ => 0), aQ (r0 4) cQ r0, aI (r0 5) cI 36 (fun _ => 0), aI (r0 6) cI 5 (fun _ => 0)] [rowsW cI r0 (fun _ _ => 0)]) H12 := hP12
  have hD12 : va_D A (wf [oB (r0 0) 0 [.ref (r0 1), .ref (r0 2), .ref (r0 3), .ref (r0 4), .ref (r0 5), .ref (r0 6), .int 0, .int 0, .int 0, .int 0, .int 0, .int 0], aI (r0 1) cI 36 (fun _ => 0), aI (r0 2) cI 36 (fun _ => 0), aI (r0 3) cI 36 (fun _ => 0), aQ (r0 4) cQ r0, aI (r0 5) cI 36 (fun _ => 0), aI (r0 6) cI 5 (fun _ => 0)] [rowsW cI r0 (fun _ _ => 0)]) := hD12
  have hlq : lv_has ls0 1 [(0, .ref (r0 0))] := by rw [he13_0]; exact hl0
  exact ct_nret r0 he13_0 hx hb hr hlk hP12 hD12 hS12 dX0_init_55

abbrev rm_X1_init : Room := { frames := 2, cells := 7, slots := 244, locals := 80 }

theorem cdS_X1_init : yX1_init.cls ≠ "java/lang/invoke/MethodHandle" ∧ yX1_init.cls ≠ "java/lang/invoke/VarHandle" ∧ (parseMethodDescriptor yX1_init.desc).map (fun d => d.parameters.length) = some 0 := by decide +kernel

theorem hi_X1_init_1 : ∀ w ∈ u_ws RX1 TX1 8, w ∈ wsX1_init := fun _ h => List.mem_cons_of_mem _ (List.mem_append_left _ (List.mem_append_right _ h))

theorem hi_X1_init_5 : ∀ w ∈ u_ws RX5 TX5 4, w ∈ wsX1_init := fun _ h => List.mem_cons_of_mem _ (List.mem_append_right _ h)

set_option maxHeartbeats 40000000 in
set_option maxRecDepth 100000 in
theorem c_X1_init (l : Launch) (D : va_G) (cB cI cJ cQ : ClassId) (N : Nat) (h0 : Nat) (sz : Nat) : Met l yX1_init wsX1_init rm_X1_init (ctP D cB cI cJ cQ N sz [.ref h0] (wf [oB h0 1 [.null, .null, .null, .null, .null, .int 0, .int 0, .int 0]] [])) (ctQn D h0 (fun r0 => wf [oB (r0 0) 1 [.ref (r0 1), .ref (r0 2), .ref (r0 3), .ref (r0 5), .ref (r0 7), .int 0, .int 0, .int 0], aI (r0 1) cI 8 (fun _ => 0), aI (r0 2) cI 16 (fun _ => 0), oB (r0 3) 5 [.ref (r0 4), .int 0, .int 0, .int 0], aI (r0 4) cI 88 (fun _ => 0), oB (r0 5) 5 [.ref (r0 6), .int 0, .int 0, .int 0], aI (r0 6) cI 88 (fun _ => 0), aI (r0 7) cI 36 (fun _ => 0)] []) (va_A (wf [oB h0 1 [.null, .null, .null, .null, .null, .int 0, .int 0, .int 0]] []) sz)) 7 244 (va_A (wf [oB h0 1 [.null, .null, .null, .null, .null, .int 0, .int 0, .int 0]] []) sz) := by
  refine ct_of (y := yX1_init) (av := [.ref h0]) (cc := cX1_init) (maxL := 1) (ret := none) (own := RX1) (Qp := ctQn D h0 (fun r0 => wf [oB (r0 0) 1 [.ref (r0 1), .ref (r0 2), .ref (r0 3), .ref (r0 5), .ref (r0 7), .int 0, .int 0, .int 0], aI (r0 1) cI 8 (fun _ => 0), aI (r0 2) cI 16 (fun _ => 0), oB (r0 3) 5 [.ref (r0 4), .int 0, .int 0, .int 0], aI (r0 4) cI 88 (fun _ => 0), oB (r0 5) 5 [.ref (r0 6), .int 0, .int 0, .int 0], aI (r0 6) cI 88 (fun _ => 0), aI (r0 7) cI 36 (fun _ => 0)] [])) (by decide) rfl rfl (Nat.le_of_ble_eq_true rfl) ?_
  intro p e s m args below meth c A hx hb hr hml hown hts hlk hnm hsz hAe E hP0 hD0 hS0 ls0 hl0
  subst hsz
  have hl0 : lv_has ls0 1 [(0, .ref h0)] := hl0
  refine lv_aload_n hx hb dX1_init_0 rfl (lv_at hl0 0 rfl) ?_
  refine W.objInit hx hb hown (hts _ (List.mem_of_getElem? (i := 1) rfl)) (hts _ (List.mem_of_getElem? (i := 2) rfl)) (hts _ (List.mem_of_getElem? (i := 3) rfl)) rfl (by rw [hml]; exact hl0.1) rfl dX1_init_1 (Nat.le_of_ble_eq_true rfl) (Nat.le_of_ble_eq_true rfl) ?_
  refine W.eq (g2 := F0 m 4 ls0 []) rfl ?_
  refine lv_aload_n hx hb dX1_init_4 rfl (lv_at hl0 0 rfl) ?_
  refine lv_bipush (v := 8) hx hb dX1_init_5 (by decide) ?_
  refine ct_newa (atype := .int) (ty := .int) (k0 := 0) (cA := cI) (n := 8) (N' := 8) (a0 := (8, .inl (fun _ => 0))) hx hb (hts _ (List.mem_of_getElem? (i := 4) rfl)) rfl E hP0 hD0 hS0 rfl (fun _ _ => rfl) (fun _ => rfl) (by decide) rfl (Nat.le_of_ble_eq_true rfl) (Nat.le_of_ble_eq_true rfl) (Nat.le_of_ble_eq_true rfl) dX1_init_7 (fun q1 H1 hP1 hD1 hS1 => ?_)
  clear hP0 hD0 hS0
  have hP1 : va_P D vwCl (wf [oB h0 1 [.null, .null, .null, .null, .null, .int 0, .int 0, .int 0], aI q1 cI 8 (fun _ => 0)] []) H1 := hP1
  have hD1 : va_D A (wf [oB h0 1 [.null, .null, .null, .null, .null, .int 0, .int 0, .int 0], aI q1 cI 8 (fun _ => 0)] []) := hD1
  refine W.widen (k := 1) (n := 8) (Nat.le_of_ble_eq_true rfl) (Nat.le_of_ble_eq_true rfl) ?_
  refine ct_putF (D := D) (ci := 1) (v := .ref q1) (ty := .array .int) (C := RX1) (T := TX1) (N := 8) (ws' := (wf [oB h0 1 [.ref q1, .null, .null, .null, .null, .int 0, .int 0, .int 0], aI q1 cI 8 (fun _ => 0)] [])) hx hb hts hi_X1_init_1 tyX1 tyX1_ok nmX1 hown E.1 hP1 hD1 hS1 0 rfl rfl 0 (by decide) (hts _ (List.mem_of_getElem? (i := 5) rfl)) (fun _ h9 => h9) rfl hnm rfl (by decide +kernel) rfl rfl (Nat.le_of_ble_eq_true rfl) rfl dX1_init_9 (fun H2 lc2 hP2 hD2 hS2 => ?_)
  clear hP1 hD1 hS1
  refine lv_aload_n hx hb dX1_init_12 rfl (lv_at hl0 0 rfl) ?_
  refine lv_bipush (v := 16) hx hb dX1_init_13 (by decide) ?_
  refine ct_newa (atype := .int) (ty := .int) (k0 := 0) (cA := cI) (n := 16) (N' := 16) (a0 := (16, .inl (fun _ => 0))) hx hb (hts _ (List.mem_of_getElem? (i := 4) rfl)) rfl E hP2 hD2 hS2 rfl (fun _ _ => rfl) (fun _ => rfl) (by decide) rfl (Nat.le_of_ble_eq_true rfl) (Nat.le_of_ble_eq_true rfl) (Nat.le_of_ble_eq_true rfl) dX1_init_15 (fun q3 H3 hP3 hD3 hS3 => ?_)
  clear hP2 hD2 hS2
  have hP3 : va_P D vwCl (wf [oB h0 1 [.ref q1, .null, .null, .null, .null, .int 0, .int 0, .int 0], aI q1 cI 8 (fun _ => 0), aI q3 cI 16 (fun _ => 0)] []) H3 := hP3
  have hD3 : va_D A (wf [oB h0 1 [.ref q1, .null, .null, .null, .null, .int 0, .int 0, .int 0], aI q1 cI 8 (fun _ => 0), aI q3 cI 16 (fun _ => 0)] []) := hD3
  refine W.widen (k := 2) (n := 24) (Nat.le_of_ble_eq_true rfl) (Nat.le_of_ble_eq_true rfl) ?_
  refine ct_putF (D := D) (ci := 1) (v := .ref q3) (ty := .array .int) (C := RX1) (T := TX1) (N := 8) (ws' := (wf [oB h0 1 [.ref q1, .ref q3, .null, .null, .null, .int 0, .int 0, .int 0], aI q1 cI 8 (fun _ => 0), aI q3 cI 16 (fun _ => 0)] [])) hx hb hts hi_X1_init_1 tyX1 tyX1_ok nmX1 hown E.1 hP3 hD3 hS3 0 rfl rfl 1 (by decide) (hts _ (List.mem_of_getElem? (i := 6) rfl)) (fun _ h9 => h9) rfl hnm rfl (by decide +kernel) rfl rfl (Nat.le_of_ble_eq_true rfl) rfl dX1_init_17 (fun H4 lc4 hP4 hD4 hS4 => ?_)
  clear hP3 hD3 hS3
  refine lv_aload_n hx hb dX1_init_20 rfl (lv_at hl0 0 rfl) ?_
  refine ct_new (ci := 5) (fs := [.null, .int 0, .int 0, .int 0]) (C := RX5) (T := TX5) (F := 4) hx hb hts hi_X1_init_5 tyX5 tyX5_ok hown (hts _ (List.mem_of_getElem? (i := 7) rfl)) (hts _ (List.mem_of_getElem? (i := 8) rfl)) (hts _ (List.mem_of_getElem? (i := 9) rfl)) E hP4 hD4 hS4 rfl (fun j hj => by rcases (show j = 0 ∨ j = 1 ∨ j = 2 ∨ j = 3 by omega) with rfl | rfl | rfl | rfl <;> rfl) (Nat.le_of_ble_eq_true rfl) (Nat.le_of_ble_eq_true rfl) dX1_init_21 (fun q5 H5 hP5 hD5 hS5 => ?_)
  clear hP4 hD4 hS4
  have hP5 : va_P D vwCl (wf [oB h0 1 [.ref q1, .ref q3, .null, .null, .null, .int 0, .int 0, .int 0], aI q1 cI 8 (fun _ => 0), aI q3 cI 16 (fun _ => 0), oB q5 5 [.null, .int 0, .int 0, .int 0]] []) H5 := hP5
  have hD5 : va_D A (wf [oB h0 1 [.ref q1, .ref q3, .null, .null, .null, .int 0, .int 0, .int 0], aI q1 cI 8 (fun _ => 0), aI q3 cI 16 (fun _ => 0), oB q5 5 [.null, .int 0, .int 0, .int 0]] []) := hD5
  refine W.widen (k := 3) (n := 28) (Nat.le_of_ble_eq_true rfl) (Nat.le_of_ble_eq_true rfl) ?_
  refine lv_dup hx hb dX1_init_24 rfl ?_
  have sb6 := ctS.mk (n := 4) (k := 0) (pre := [oB h0 1 [.ref q1, .ref q3, .null, .null, .null, .int 0, .int 0, .int 0], aI q1 cI 8 (fun _ => 0), aI q3 cI 16 (fun _ => 0), oB q5 5 [.null, .int 0, .int 0, .int 0]]) (tl := []) [3] [0, 1, 2] [] [] rfl rfl (by decide +kernel) (by decide +kernel)
  refine ct_callN (h := q5) E sb6 hP5 hD5 hS5 (va_runIN (As := []) (rest := [.ref q5, .ref h0]) ⟨hx, hb, hml, hown, hts⟩ (c_X5_init l D cB cI cJ cQ N q5 H5.size) ⟨va_cnB 0 hts gX1_init_X5_init_n20 rfl rfl rfl (E.2.1.1 _ (List.mem_of_getElem? (i := 2) rfl)) (hts _ (List.mem_of_getElem? (i := 9) rfl)) cdS_X5_init ⟨Nat.le_of_ble_eq_true rfl, Nat.le_of_ble_eq_true rfl⟩, rfl, (hts _ (List.mem_of_getElem? (i := 13) rfl))⟩ (ct_preS E sb6 hP5 hD5 hS5) rfl rfl hl0.1 rfl (lv_room (Nat.le_of_ble_eq_true rfl)) dX1_init_25 ⟨Nat.le_of_ble_eq_true rfl, Nat.le_of_ble_eq_true rfl⟩) (fun s6 H6 lc6 hr6 hP6 hD6 hS6 => ?_); clear sb6
  clear hP5 hD5 hS5
  subst hr6
  have hP6 : va_P D vwCl (wf [oB h0 1 [.ref q1, .ref q3, .null, .null, .null, .int 0, .int 0, .int 0], aI q1 cI 8 (fun _ => 0), aI q3 cI 16 (fun _ => 0), oB (s6 0) 5 [.ref (s6 1), .int 0, .int 0, .int 0], aI (s6 1) cI 88 (fun _ => 0)] []) H6 := hP6
  have hD6 : va_D A (wf [oB h0 1 [.ref q1, .ref q3, .null, .null, .null, .int 0, .int 0, .int 0], aI q1 cI 8 (fun _ => 0), aI q3 cI 16 (fun _ => 0), oB (s6 0) 5 [.ref (s6 1), .int 0, .int 0, .int 0], aI (s6 1) cI 88 (fun _ => 0)] []) := hD6
  refine W.widen (k := 4) (n := 116) (Nat.le_of_ble_eq_true rfl) (Nat.le_of_ble_eq_true rfl) ?_
  refine ct_putF (D := D) (ci := 1) (v := .ref (s6 0)) (ty := .object "FilmBlocks$Tree") (C := RX1) (T := TX1) (N := 8) (ws' := (wf [oB h0 1 [.ref q1, .ref q3, .ref (s6 0), .null, .null, .int 0, .int 0, .int 0], aI q1 cI 8 (fun _ => 0), aI q3 cI 16 (fun _ => 0), oB (s6 0) 5 [.ref (s6 1), .int 0, .int 0, .int 0], aI (s6 1) cI 88 (fun _ => 0)] [])) hx hb hts hi_X1_init_1 tyX1 tyX1_ok nmX1 hown E.1 hP6 hD6 hS6 0 rfl rfl 2 (by decide) (hts _ (List.mem_of_getElem? (i := 10) rfl)) (fun _ h9 => h9) rfl hnm rfl (by decide +kernel) rfl rfl (Nat.le_of_ble_eq_true rfl) rfl dX1_init_28 (fun H7 lc7 hP7 hD7 hS7 => ?_)
  clear hP6 hD6 hS6
  refine lv_aload_n hx hb dX1_init_31 rfl (lv_at hl0 0 rfl) ?_
  refine ct_new (ci := 5) (fs := [.null, .int 0, .int 0, .int 0]) (C := RX5) (T := TX5) (F := 4) hx hb hts hi_X1_init_5 tyX5 tyX5_ok hown (hts _ (List.mem_of_getElem? (i := 7) rfl)) (hts _ (List.mem_of_getElem? (i := 8) rfl)) (hts _ (List.mem_of_getElem? (i := 9) rfl)) E hP7 hD7 hS7 rfl (fun j hj => by rcases (show j = 0 ∨ j = 1 ∨ j = 2 ∨ j = 3 by omega) with rfl | rfl | rfl | rfl <;> rfl) (Nat.le_of_ble_eq_true rfl) (Nat.le_of_ble_eq_true rfl) dX1_init_32 (fun q8 H8 hP8 hD8 hS8 => ?_)
  clear hP7 hD7 hS7
  have hP8 : va_P D vwCl (wf [oB h0 1 [.ref q1, .ref q3, .ref (s6 0), .null, .null, .int 0, .int 0, .int 0], aI q1 cI 8 (fun _ => 0), aI q3 cI 16 (fun _ => 0), oB (s6 0) 5 [.ref (s6 1), .int 0, .int 0, .int 0], aI (s6 1) cI 88 (fun _ => 0), oB q8 5 [.null, .int 0, .int 0, .int 0]] []) H8 := hP8
  have hD8 : va_D A (wf [oB h0 1 [.ref q1, .ref q3, .ref (s6 0), .null, .null, .int 0, .int 0, .int 0], aI q1 cI 8 (fun _ => 0), aI q3 cI 16 (fun _ => 0), oB (s6 0) 5 [.ref (s6 1), .int 0, .int 0, .int 0], aI (s6 1) cI 88 (fun _ => 0), oB q8 5 [.null, .int 0, .int 0, .int 0]] []) := hD8
  refine W.widen (k := 5) (n := 120) (Nat.le_of_ble_eq_true rfl) (Nat.le_of_ble_eq_true rfl) ?_
  refine lv_dup hx hb dX1_init_35 rfl ?_
  have sb9 := ctS.mk (n := 6) (k := 0) (pre := [oB h0 1 [.ref q1, .ref q3, .ref (s6 0), .null, .null, .int 0, .int 0, .int 0], aI q1 cI 8 (fun _ => 0), aI q3 cI 16 (fun _ => 0), oB (s6 0) 5 [.ref (s6 1), .int 0, .int 0, .int 0], aI (s6 1) cI 88 (fun _ => 0), oB q8 5 [.null, .int 0, .int 0, .int 0]]) (tl := []) [5] [0, 1, 2, 3, 4] [] [] rfl rfl (by decide +kernel) (by decide +kernel)
  refine ct_callN (h := q8) E sb9 hP8 hD8 hS8 (va_runIN (As := []) (rest := [.ref q8, .ref h0]) ⟨hx, hb, hml, hown, hts⟩ (c_X5_init l D cB cI cJ cQ N q8 H8.size) ⟨va_cnB 0 hts gX1_init_X5_init_n20 rfl rfl rfl (E.2.1.1 _ (List.mem_of_getElem? (i := 2) rfl)) (hts _ (List.mem_of_getElem? (i := 9) rfl)) cdS_X5_init ⟨Nat.le_of_ble_eq_true rfl, Nat.le_of_ble_eq_true rfl⟩, rfl, (hts _ (List.mem_of_getElem? (i := 13) rfl))⟩ (ct_preS E sb9 hP8 hD8 hS8) rfl rfl hl0.1 rfl (lv_room (Nat.le_of_ble_eq_true rfl)) dX1_init_36 ⟨Nat.le_of_ble_eq_true rfl, Nat.le_of_ble_eq_true rfl⟩) (fun s9 H9 lc9 hr9 hP9 hD9 hS9 => ?_); clear sb9
  clear hP8 hD8 hS8
  subst hr9
  have hP9 : va_P D vwCl (wf [oB h0 1 [.ref q1, .ref q3, .ref (s6 0), .null, .null, .int 0, .int 0, .int 0], aI q1 cI 8 (fun _ => 0), aI q3 cI 16 (fun _ => 0), oB (s6 0) 5 [.ref (s6 1), .int 0, .int 0, .int 0], aI (s6 1) cI 88 (fun _ => 0), oB (s9 0) 5 [.ref (s9 1), .int 0, .int 0, .int 0], aI (s9 1) cI 88 (fun _ => 0)] []) H9 := hP9
  have hD9 : va_D A (wf [oB h0 1 [.ref q1, .ref q3, .ref (s6 0), .null, .null, .int 0, .int 0, .int 0], aI q1 cI 8 (fun _ => 0), aI q3 cI 16 (fun _ => 0), oB (s6 0) 5 [.ref (s6 1), .int 0, .int 0, .int 0], aI (s6 1) cI 88 (fun _ => 0), oB (s9 0) 5 [.ref (s9 1), .int 0, .int 0, .int 0], aI (s9 1) cI 88 (fun _ => 0)] []) := hD9
  refine W.widen (k := 6) (n := 208) (Nat.le_of_ble_eq_true rfl) (Nat.le_of_ble_eq_true rfl) ?_
  refine ct_putF (D := D) (ci := 1) (v := .ref (s9 0)) (ty := .object "FilmBlocks$Tree") (C := RX1) (T := TX1) (N := 8) (ws' := (wf [oB h0 1 [.ref q1, .ref q3, .ref (s6 0), .ref (s9 0), .null, .int 0, .int 0, .int 0], aI q1 cI 8 (fun _ => 0), aI q3 cI 16 (fun _ => 0), oB (s6 0) 5 [.ref (s6 1), .int 0, .int 0, .int 0], aI (s6 1) cI 88 (fun _ => 0), oB (s9 0) 5 [.ref (s9 1), .int 0, .int 0, .int 0], aI (s9 1) cI 88 (fun _ => 0)] [])) hx hb hts hi_X1_init_1 tyX1 tyX1_ok nmX1 hown E.1 hP9 hD9 hS9 0 rfl rfl 3 (by decide) (hts _ (List.mem_of_getElem? (i := 11) rfl)) (fun _ h9 => h9) rfl hnm rfl (by decide +kernel) rfl rfl (Nat.le_of_ble_eq_true rfl) rfl dX1_init_39 (fun H10 lc10 hP10 hD10 hS10 => ?_)
  clear hP9 hD9 hS9
  refine lv_aload_n hx hb dX1_init_42 rfl (lv_at hl0 0 rfl) ?_
  refine lv_bipush (v := 36) hx hb dX1_init_43 (by decide) ?_
  refine ct_newa (atype := .int) (ty := .int) (k0 := 0) (cA := cI) (n := 36) (N' := 36) (a0 := (36, .inl (fun _ => 0))) hx hb (hts _ (List.mem_of_getElem? (i := 4) rfl)) rfl E hP10 hD10 hS10 rfl (fun _ _ => rfl) (fun _ => rfl) (by decide) rfl (Nat.le_of_ble_eq_true rfl) (Nat.le_of_ble_eq_true rfl) (Nat.le_of_ble_eq_true rfl) dX1_init_45 (fun q11 H11 hP11 hD11 hS11 => ?_)
  clear hP10 hD10 hS10
  have hP11 : va_P D vwCl (wf [oB h0 1 [.ref q1, .ref q3, .ref (s6 0), .ref (s9 0), .null, .int 0, .int 0, .int 0], aI q1 cI 8 (fun _ => 0), aI q3 cI 16 (fun _ => 0), oB (s6 0) 5 [.ref (s6 1), .int 0, .int 0, .int 0], aI (s6 1) cI 88 (fun _ => 0), oB (s9 0) 5 [.ref (s9 1), .int 0, .int 0, .int 0], aI (s9 1) cI 88 (fun _ => 0), aI q11 cI 36 (fun _ => 0)] []) H11 := hP11
  have hD11 : va_D A (wf [oB h0 1 [.ref q1, .ref q3, .ref (s6 0), .ref (s9 0), .null, .int 0, .int 0, .int 0], aI q1 cI 8 (fun _ => 0), aI q3 cI 16 (fun _ => 0), oB (s6 0) 5 [.ref (s6 1), .int 0, .int 0, .int 0], aI (s6 1) cI 88 (fun _ => 0), oB (s9 0) 5 [.ref (s9 1), .int 0, .int 0, .int 0], aI (s9 1) cI 88 (fun _ => 0), aI q11 cI 36 (fun _ => 0)] []) := hD11
  refine W.widen (k := 7) (n := 244) (Nat.le_of_ble_eq_true rfl) (Nat.le_of_ble_eq_true rfl) ?_
  refine ct_putF (D := D) (ci := 1) (v := .ref q11) (ty := .array .int) (C := RX1) (T := TX1) (N := 8) (ws' := (wf [oB h0 1 [.ref q1, .ref q3, .ref (s6 0), .ref (s9 0), .ref q11, .int 0, .int 0, .int 0], aI q1 cI 8 (fun _ => 0), aI q3 cI 16 (fun _ => 0), oB (s6 0) 5 [.ref (s6 1), .int 0, .int 0, .int 0], aI (s6 1) cI 88 (fun _ => 0), oB (s9 0) 5 [.ref (s9 1), .int 0, .int 0, .int 0], aI (s9 1) cI 88 (fun _ => 0), aI q11 cI 36 (fun _ => 0)] [])) hx hb hts hi_X1_init_1 tyX1 tyX1_ok nmX1 hown E.1 hP11 hD11 hS11 0 rfl rfl 4 (by decide) (hts _ (List.mem_of_getElem? (i := 12) rfl)) (fun _ h9 => h9) rfl hnm rfl (by decide +kernel) rfl rfl (Nat.le_of_ble_eq_true rfl) rfl dX1_init_47 (fun H12 lc12 hP12 hD12 hS12 => ?_)
  clear hP11 hD11 hS11
  obtain ⟨r0, he13_0, he13_1, he13_2, he13_3, he13_4, he13_5, he13_6, he13_7⟩ : ∃ r0 : Nat → Nat, r0 0 = h0 ∧ r0 1 = q1 ∧ r0 2 = q3 ∧ r0 7 = q11 ∧ r0 3 = s6 0 ∧ r0 4 = s6 1 ∧ r0 5 = s9 0 ∧ r0 6 = s9 1 := ⟨fun k => if k = 0 then h0 else if k = 1 then q1 else if k = 2 then q3 else if k = 7 then q11 else if k = 3 then s6 0 else if k = 4 then s6 1 else if k = 5 then s9 0 else if k = 6 then s9 1 else 0, rfl, rfl, rfl, rfl, rfl, rfl, rfl, rfl⟩
  rw [← he13_4] at hP12 hD12
  rw [← he13_5] at hP12 hD12
  rw [← he13_6] at hP12 hD12
  rw [← he13_7] at hP12 hD12
  rw [← he13_0, ← he13_1, ← he13_2, ← he13_3] at hP12 hD12
  have hP12 : va_P D vwCl (wf [oB (r0 0) 1 [.ref (r0 1), .ref (r0 2), .ref (r0 3), .ref (r0 5), .ref (r0 7), .int 0, .int 0, .int 0], aI (r0 1) cI 8 (fun _ => 0), aI (r0 2) cI 16 (fun _ => 0), oB (r0 3) 5 [.ref (r0 4), .int 0, .int 0, .int 0], aI (r0 4) cI 88 (fun _ => 0), oB (r0 5) 5 [.ref (r0 6), .int 0, .int 0, .int 0], aI (r0 6) cI 88 (fun _ => 0), aI (r0 7) cI 36 (fun _ => 0)] []) H12 := hP12
  have hD12 : va_D A (wf [oB (r0 0) 1 [.ref (r0 1), .ref (r0 2), .ref (r0 3), .ref (r0 5), .ref (r0 7), .int 0, .int 0, .int 0], aI (r0 1) cI 8 (fun _ => 0), aI (r0 2) cI 16 (fun _ => 0), oB (r0 3) 5 [.ref (r0 4), .int 0, .int 0, .int 0], aI (r0 4) cI 88 (fun _ => 0), oB (r0 5) 5 [.ref (r0 6), .int 0, .int 0, .int 0], aI (r0 6) cI 88 (fun _ => 0), aI (r0 7) cI 36 (fun _ => 0)] []) := hD12
  have hlq : lv_has ls0 1 [(0, .ref (r0 0))] := by rw [he13_0]; exact hl0
  exact ct_nret r0 he13_0 hx hb hr hlk hP12 hD12 hS12 dX1_init_50
