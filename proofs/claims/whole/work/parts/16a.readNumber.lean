def f_X0_readNumber (x2 : Int32) (x3 : Int32) (f_places : Nat → Int32) (f_grid : Nat → Nat → Int32) (t_size : Int32) (t_position : Int32) (t_fault : Int32) (t_bytes : Nat → Int32) : Option ((Nat → Int32) × (Nat → Nat → Int32) × Int32 × Int32) :=
  jn (fun (k2 : Int32 → Option ((Nat → Int32) × (Nat → Nat → Int32) × Int32 × Int32)) => (if x2 < (11 : Int32) then
  (k2 (0 : Int32))
  else
  ((if (29 : Int32) < x2 then
  (k2 (0 : Int32))
  else
  (k2 (1 : Int32)))))) fun k0_3 =>
  jn (fun (k8 : Int32 → Int32 → Int32 → Option ((Nat → Int32) × (Nat → Nat → Int32) × Int32 × Int32)) => (if k0_3 = (0 : Int32) then
  (k8 t_position t_fault (1 : Int32))
  else
  (bd3 (f_X4_bit t_size t_position t_fault t_bytes) fun y_81 t_position_82 t_fault_83 =>
  (if y_81 = (1 : Int32) then
  (k8 t_position_82 t_fault_83 (-1 : Int32))
  else
  (k8 t_position_82 t_fault_83 (1 : Int32)))))) fun t_position_9 t_fault_10 k0_11 =>
  gi x2 32 <|
  gi x2 32 <|
  bd3 (f_X4_number (sNUMBER_BITS x2.toNatClampNeg) t_size t_position_9 t_fault_10 t_bytes) fun y_19 t_position_20 t_fault_21 =>
  nm ((k0_11 * ((sNUMBER x2.toNatClampNeg) + y_19)) : Int32) fun v6_25 =>
  gi x3 36 <|
  gi x2 32 <|
  gi x2 32 <|
  bd3 (f_X4_number (sPASSED_BITS x2.toNatClampNeg) t_size t_position_20 t_fault_21 t_bytes) fun y_33 t_position_34 t_fault_35 =>
  nm ((((f_places x3.toNatClampNeg) + (sPASSED x2.toNatClampNeg)) + y_33) : Int32) fun v7_39 =>
  (if v6_25 = (0 : Int32) then
  (bd2 (f_X0_goTo x3 v7_39 f_places t_fault_35) fun f_places_72 t_fault_73 =>
  some (f_places_72, f_grid, t_position_34, t_fault_73))
  else
  ((if v7_39 < (64 : Int32) then
  (gi x3 36 <|
  gi v7_39 64 <|
  nm (updM f_grid x3.toNatClampNeg v7_39.toNatClampNeg v6_25 : Nat → Nat → Int32) fun f_grid_48 =>
  jn (fun (k52 : Int32 → Option ((Nat → Int32) × (Nat → Nat → Int32) × Int32 × Int32)) => (if x2 < (30 : Int32) then
  (k52 (v7_39 + (1 : Int32)))
  else
  (k52 (64 : Int32)))) fun k0_53 =>
  bd2 (f_X0_goTo x3 k0_53 f_places t_fault_35) fun f_places_56 t_fault_57 =>
  some (f_places_56, f_grid_48, t_position_34, t_fault_57))
  else
  (bd1 (f_X4_fail (6 : Int32) t_fault_35) fun t_fault_66 =>
  some (f_places, f_grid, t_position_34, t_fault_66)))))

abbrev rm_X0_readNumber : Room := { frames := 3, cells := 0, slots := 0, locals := 65 }

theorem cdS_X0_readNumber : yX0_readNumber.cls ≠ "java/lang/invoke/MethodHandle" ∧ yX0_readNumber.cls ≠ "java/lang/invoke/VarHandle" ∧ (parseMethodDescriptor yX0_readNumber.desc).map (fun d => d.parameters.length) = some 3 := by decide +kernel

theorem cdV_X0_readNumber : yX0_readNumber.cls = RX0 ∧ yX0_readNumber.cls ≠ "java/lang/invoke/MethodHandle" ∧ yX0_readNumber.cls ≠ "java/lang/invoke/VarHandle" ∧ (parseMethodDescriptor yX0_readNumber.desc).map (fun d => d.parameters.length) = some 3 := ⟨rfl, cdS_X0_readNumber⟩

theorem hi_X0_readNumber_0 : ∀ w ∈ u_ws RX0 TX0 12, w ∈ wsX0_readNumber := fun _ h => List.mem_cons_of_mem _ (List.mem_append_left _ (List.mem_append_right _ h))

set_option maxHeartbeats 40000000 in
set_option maxRecDepth 100000 in
theorem c_X0_readNumber (l : Launch) (D : va_G) (cB cI cJ cQ : ClassId) (N : Nat) (r0 : Nat → Nat) (r1 : Nat → Nat) (sz : Nat) (x2 : Int32) (x3 : Int32) (f_columns : Int32) (f_rows : Int32) (f_scale : Int32) (f_toEnd : Int32) (f_between : Int32) (f_kept : Int32) (f_places : Nat → Int32) (t_size : Int32) (t_position : Int32) (t_fault : Int32) (t_bytes : Nat → Int32) (f_grid : Nat → Nat → Int32) (o : (Nat → Int32) × (Nat → Nat → Int32) × Int32 × Int32) (hm0 : f_X0_readNumber x2 x3 f_places f_grid t_size t_position t_fault t_bytes = some o) : Met l yX0_readNumber wsX0_readNumber rm_X0_readNumber (ctP D cB cI cJ cQ N sz [.ref (r0 0), .ref (r1 0), .int x2, .int x3] (wf [oB (r0 0) 0 [.ref (r0 1), .ref (r0 2), .ref (r0 3), .ref (r0 4), .ref (r0 5), .ref (r0 6), .int f_columns, .int f_rows, .int f_scale, .int f_toEnd, .int f_between, .int f_kept], aQ (r0 4) cQ r0, aI (r0 5) cI 36 f_places, oB (r1 0) 4 [.ref (r1 1), .int t_size, .int t_position, .int t_fault], aI (r1 1) cB 6000 t_bytes] [rowsW cI r0 f_grid])) (ctQv D (wf [oB (r0 0) 0 [.ref (r0 1), .ref (r0 2), .ref (r0 3), .ref (r0 4), .ref (r0 5), .ref (r0 6), .int f_columns, .int f_rows, .int f_scale, .int f_toEnd, .int f_between, .int f_kept], aQ (r0 4) cQ r0, aI (r0 5) cI 36 (o.1), oB (r1 0) 4 [.ref (r1 1), .int t_size, .int (o.2.2.1), .int (o.2.2.2)], aI (r1 1) cB 6000 t_bytes] [rowsW cI r0 (o.2.1)]) (va_A (wf [oB (r0 0) 0 [.ref (r0 1), .ref (r0 2), .ref (r0 3), .ref (r0 4), .ref (r0 5), .ref (r0 6), .int f_columns, .int f_rows, .int f_scale, .int f_toEnd, .int f_between, .int f_kept], aQ (r0 4) cQ r0, aI (r0 5) cI 36 f_places, oB (r1 0) 4 [.ref (r1 1), .int t_size, .int t_position, .int t_fault], aI (r1 1) cB 6000 t_bytes] [rowsW cI r0 f_grid]) sz)) 0 0 (va_A (wf [oB (r0 0) 0 [.ref (r0 1), .ref (r0 2), .ref (r0 3), .ref (r0 4), .ref (r0 5), .ref (r0 6), .int f_columns, .int f_rows, .int f_scale, .int f_toEnd, .int f_between, .int f_kept], aQ (r0 4) cQ r0, aI (r0 5) cI 36 f_places, oB (r1 0) 4 [.ref (r1 1), .int t_size, .int t_position, .int t_fault], aI (r1 1) cB 6000 t_bytes] [rowsW cI r0 f_grid]) sz) := by
  refine ct_of (cc := cX0_readNumber) (maxL := 8) (ret := none) (own := RX0) (Qp := ctQv D (wf [oB (r0 0) 0 [.ref (r0 1), .ref (r0 2), .ref (r0 3), .ref (r0 4), .ref (r0 5), .ref (r0 6), .int f_columns, .int f_rows, .int f_scale, .int f_toEnd, .int f_between, .int f_kept], aQ (r0 4) cQ r0, aI (r0 5) cI 36 (o.1), oB (r1 0) 4 [.ref (r1 1), .int t_size, .int (o.2.2.1), .int (o.2.2.2)], aI (r1 1) cB 6000 t_bytes] [rowsW cI r0 (o.2.1)])) (by decide) rfl rfl (Nat.le_of_ble_eq_true rfl) ?_
  intro p e s m args below meth c A hx hb hr hml hown hts hlk hnm hsz hAe E hP0 hD0 hS0 ls0 hl0
  subst hsz
  have hl0 : lv_has ls0 8 [(0, .ref (r0 0)), (1, .ref (r1 0)), (2, .int x2), (3, .int x3)] := hl0
  obtain ⟨QQ, hQ⟩ : ∃ Q : State → Prop, Q = MQ below (ctQv D (wf [oB (r0 0) 0 [.ref (r0 1), .ref (r0 2), .ref (r0 3), .ref (r0 4), .ref (r0 5), .ref (r0 6), .int f_columns, .int f_rows, .int f_scale, .int f_toEnd, .int f_between, .int f_kept], aQ (r0 4) cQ r0, aI (r0 5) cI 36 (o.1), oB (r1 0) 4 [.ref (r1 1), .int t_size, .int (o.2.2.1), .int (o.2.2.2)], aI (r1 1) cB 6000 t_bytes] [rowsW cI r0 (o.2.1)]) A) args s 0 0 A := ⟨_, rfl⟩
  rw [← hQ]
  unfold f_X0_readNumber at hm0
  refine lv_iload_n hx hb dX0_readNumber_0 rfl (lv_at hl0 2 rfl) ?_
  refine lv_bipush (v := 11) hx hb dX0_readNumber_1 (by decide) ?_
  obtain ⟨k2, ek2, hm2⟩ := jn_some hm0; clear hm0
  have KJ2 : ∀ (k0_3 : Int32) (H4 : Heap) (lc4 : List Loc) (ls4 : Array Slot), k2 k0_3 = some o → va_P D vwCl (wf [oB (r0 0) 0 [.ref (r0 1), .ref (r0 2), .ref (r0 3), .ref (r0 4), .ref (r0 5), .ref (r0 6), .int f_columns, .int f_rows, .int f_scale, .int f_toEnd, .int f_between, .int f_kept], aQ (r0 4) cQ r0, aI (r0 5) cI 36 f_places, oB (r1 0) 4 [.ref (r1 1), .int t_size, .int t_position, .int t_fault], aI (r1 1) cB 6000 t_bytes] [rowsW cI r0 f_grid]) H4 → va_D A (wf [oB (r0 0) 0 [.ref (r0 1), .ref (r0 2), .ref (r0 3), .ref (r0 4), .ref (r0 5), .ref (r0 6), .int f_columns, .int f_rows, .int f_scale, .int f_toEnd, .int f_between, .int f_kept], aQ (r0 4) cQ r0, aI (r0 5) cI 36 f_places, oB (r1 0) 4 [.ref (r1 1), .int t_size, .int t_position, .int t_fault], aI (r1 1) cB 6000 t_bytes] [rowsW cI r0 f_grid]) → va_S A s.heap H4 lc4 → lv_has ls4 8 [(0, .ref (r0 0)), (1, .ref (r1 0)), (2, .int x2), (3, .int x3)] → W p l e rm_X0_readNumber s m args below meth c H4 lc4 0 0 QQ (F0 m 17 ls4 [.int k0_3]) := by
    intro k0_3 H4 lc4 ls4 hm5 hP4 hD4 hS4 hl4
    rw [ek2] at hm5
    refine lv_istore (lv' := [(4, .int k0_3), (0, .ref (r0 0)), (1, .ref (r1 0)), (2, .int x2), (3, .int x3)]) hx hb dX0_readNumber_17 hl4 (by decide) rfl (fun ls6 hl6 => ?_); clear hl4
    refine lv_iload hx hb dX0_readNumber_19 (lv_at hl6 0 rfl) ?_
    obtain ⟨k8, ek8, hm8⟩ := jn_some hm5; clear hm5
    have KJ8 : ∀ (t_position_9 : Int32) (t_fault_10 : Int32) (k0_11 : Int32) (H12 : Heap) (lc12 : List Loc) (ls12 : Array Slot), k8 t_position_9 t_fault_10 k0_11 = some o → va_P D vwCl (wf [oB (r0 0) 0 [.ref (r0 1), .ref (r0 2), .ref (r0 3), .ref (r0 4), .ref (r0 5), .ref (r0 6), .int f_columns, .int f_rows, .int f_scale, .int f_toEnd, .int f_between, .int f_kept], aQ (r0 4) cQ r0, aI (r0 5) cI 36 f_places, oB (r1 0) 4 [.ref (r1 1), .int t_size, .int t_position_9, .int t_fault_10], aI (r1 1) cB 6000 t_bytes] [rowsW cI r0 f_grid]) H12 → va_D A (wf [oB (r0 0) 0 [.ref (r0 1), .ref (r0 2), .ref (r0 3), .ref (r0 4), .ref (r0 5), .ref (r0 6), .int f_columns, .int f_rows, .int f_scale, .int f_toEnd, .int f_between, .int f_kept], aQ (r0 4) cQ r0, aI (r0 5) cI 36 f_places, oB (r1 0) 4 [.ref (r1 1), .int t_size, .int t_position_9, .int t_fault_10], aI (r1 1) cB 6000 t_bytes] [rowsW cI r0 f_grid]) → va_S A s.heap H12 lc12 → lv_has ls12 8 [(0, .ref (r0 0)), (1, .ref (r1 0)), (2, .int x2), (3, .int x3)] → W p l e rm_X0_readNumber s m args below meth c H12 lc12 0 0 QQ (F0 m 37 ls12 [.int k0_11]) := by
      intro t_position_9 t_fault_10 k0_11 H12 lc12 ls12 hm13 hP12 hD12 hS12 hl12
      rw [ek8] at hm13
      refine lv_istore (lv' := [(5, .int k0_11), (0, .ref (r0 0)), (1, .ref (r1 0)), (2, .int x2), (3, .int x3)]) hx hb dX0_readNumber_37 hl12 (by decide) rfl (fun ls14 hl14 => ?_); clear hl12
      refine lv_iload hx hb dX0_readNumber_39 (lv_at hl14 0 rfl) ?_
      obtain ⟨sa15, hz15, hn15, hl15_, hxx15⟩ := E.2.1.2.2.2.2.2.1
      refine va_gets hx hb (hz15.narrow E.2.2.2.1) hS12 hown (hts _ (List.mem_of_getElem? (i := 1) rfl)) (fun _ h9 => h9) dX0_readNumber_41 ?_
      refine lv_iload_n hx hb dX0_readNumber_44 rfl (lv_at hl14 3 rfl) ?_
      obtain ⟨hin16, hm16⟩ := gi_some hm13; clear hm13
      refine va_sld hx hb hxx15 hl15_ (fun h => absurd (E.2.2.2.1 _ h) (Nat.not_le.mpr hn15)) hS12 hin16 dX0_readNumber_45 ?_
      refine lv_aload_n hx hb dX0_readNumber_46 rfl (lv_at hl14 2 rfl) ?_
      obtain ⟨sa17, hz17, hn17, hl17_, hxx17⟩ := E.2.1.2.2.2.2.2.2.1
      refine va_gets hx hb (hz17.narrow E.2.2.2.1) hS12 hown (hts _ (List.mem_of_getElem? (i := 2) rfl)) (fun _ h9 => h9) dX0_readNumber_47 ?_
      refine lv_iload_n hx hb dX0_readNumber_50 rfl (lv_at hl14 3 rfl) ?_
      obtain ⟨hin18, hm18⟩ := gi_some hm16; clear hm16
      refine va_sld hx hb hxx17 hl17_ (fun h => absurd (E.2.2.2.1 _ h) (Nat.not_le.mpr hn17)) hS12 hin18 dX0_readNumber_51 ?_
      obtain ⟨y_19, t_position_20, t_fault_21, hcl22, hm22⟩ := bd3_some hm18; clear hm18
      have sb23 := ctS.mk (n := 5) (k := 1) (pre := [oB (r0 0) 0 [.ref (r0 1), .ref (r0 2), .ref (r0 3), .ref (r0 4), .ref (r0 5), .ref (r0 6), .int f_columns, .int f_rows, .int f_scale, .int f_toEnd, .int f_between, .int f_kept], aQ (r0 4) cQ r0, aI (r0 5) cI 36 f_places, oB (r1 0) 4 [.ref (r1 1), .int t_size, .int t_position_9, .int t_fault_10], aI (r1 1) cB 6000 t_bytes]) (tl := [rowsW cI r0 f_grid]) [3, 4] [0, 1, 2] [] [0] rfl rfl (by decide +kernel) (by decide +kernel)
      refine ct_calli (r := y_19) E sb23 hP12 hD12 hS12 (va_runV (As := [.int (sNUMBER_BITS x2.toNatClampNeg)]) (rest := [.int (sNUMBER x2.toNatClampNeg), .int k0_11]) ⟨hx, hb, hml, hown, hts⟩ (c_X4_number l D cB cI cJ cQ N r1 H12.size (sNUMBER_BITS x2.toNatClampNeg) t_size t_position_9 t_fault_10 t_bytes (y_19, t_position_20, t_fault_21) hcl22) (cwV 1 hts gX0_readNumber_X4_number rfl rfl rfl cdV_X4_number ⟨Nat.le_of_ble_eq_true rfl, Nat.le_of_ble_eq_true rfl⟩) (ct_preV (q0 := 3) (ci := 4) E sb23 hP12 hD12 hS12 rfl rfl) rfl rfl hl14.1 rfl (lv_room (Nat.le_of_ble_eq_true rfl)) dX0_readNumber_52 ⟨Nat.zero_le _, Nat.zero_le _⟩) (fun H24 lc24 hP24 hD24 hS24 => ?_); clear sb23 hcl22
      clear hP12 hD12 hS12
      have hP24 : va_P D vwCl (wf [oB (r0 0) 0 [.ref (r0 1), .ref (r0 2), .ref (r0 3), .ref (r0 4), .ref (r0 5), .ref (r0 6), .int f_columns, .int f_rows, .int f_scale, .int f_toEnd, .int f_between, .int f_kept], aQ (r0 4) cQ r0, aI (r0 5) cI 36 f_places, oB (r1 0) 4 [.ref (r1 1), .int t_size, .int t_position_20, .int t_fault_21], aI (r1 1) cB 6000 t_bytes] [rowsW cI r0 f_grid]) H24 := hP24
      have hD24 : va_D A (wf [oB (r0 0) 0 [.ref (r0 1), .ref (r0 2), .ref (r0 3), .ref (r0 4), .ref (r0 5), .ref (r0 6), .int f_columns, .int f_rows, .int f_scale, .int f_toEnd, .int f_between, .int f_kept], aQ (r0 4) cQ r0, aI (r0 5) cI 36 f_places, oB (r1 0) 4 [.ref (r1 1), .int t_size, .int t_position_20, .int t_fault_21], aI (r1 1) cB 6000 t_bytes] [rowsW cI r0 f_grid]) := hD24
      refine lv_iadd hx hb dX0_readNumber_55 ?_
      refine lv_imul hx hb dX0_readNumber_56 ?_
      obtain ⟨v6_25, ev6_25, hm26⟩ := nm_some hm22; clear hm22
      refine ct_topi ev6_25 ?_
      refine lv_istore (lv' := [(6, .int v6_25), (5, .int k0_11), (0, .ref (r0 0)), (1, .ref (r1 0)), (2, .int x2), (3, .int x3)]) hx hb dX0_readNumber_57 hl14 (by decide) rfl (fun ls27 hl27 => ?_); clear hl14
      refine lv_aload_n hx hb dX0_readNumber_59 rfl (lv_at hl27 2 rfl) ?_
      refine va_get (D := D) (ci := 0) (v := .ref (r0 5)) (C := RX0) (T := TX0) (N := 12) hx hb hts hi_X0_readNumber_0 hown E.1 hP24 0 rfl rfl 4 (by decide) (hts _ (List.mem_of_getElem? (i := 3) rfl)) (fun _ h9 => h9) rfl dX0_readNumber_60 ?_
      refine lv_iload_n hx hb dX0_readNumber_63 rfl (lv_at hl27 5 rfl) ?_
      obtain ⟨hin28, hm28⟩ := gi_some hm26; clear hm26
      refine va_iald hx hb E.1 hP24 2 0 rfl rfl hin28 dX0_readNumber_64 ?_
      obtain ⟨sa29, hz29, hn29, hl29_, hxx29⟩ := E.2.1.2.2.2.1
      refine va_gets hx hb (hz29.narrow E.2.2.2.1) hS24 hown (hts _ (List.mem_of_getElem? (i := 4) rfl)) (fun _ h9 => h9) dX0_readNumber_65 ?_
      refine lv_iload_n hx hb dX0_readNumber_68 rfl (lv_at hl27 4 rfl) ?_
      obtain ⟨hin30, hm30⟩ := gi_some hm28; clear hm28
      refine va_sld hx hb hxx29 hl29_ (fun h => absurd (E.2.2.2.1 _ h) (Nat.not_le.mpr hn29)) hS24 hin30 dX0_readNumber_69 ?_
      refine lv_iadd hx hb dX0_readNumber_70 ?_
      refine lv_aload_n hx hb dX0_readNumber_71 rfl (lv_at hl27 3 rfl) ?_
      obtain ⟨sa31, hz31, hn31, hl31_, hxx31⟩ := E.2.1.2.2.2.2.1
      refine va_gets hx hb (hz31.narrow E.2.2.2.1) hS24 hown (hts _ (List.mem_of_getElem? (i := 5) rfl)) (fun _ h9 => h9) dX0_readNumber_72 ?_
      refine lv_iload_n hx hb dX0_readNumber_75 rfl (lv_at hl27 4 rfl) ?_
      obtain ⟨hin32, hm32⟩ := gi_some hm30; clear hm30
      refine va_sld hx hb hxx31 hl31_ (fun h => absurd (E.2.2.2.1 _ h) (Nat.not_le.mpr hn31)) hS24 hin32 dX0_readNumber_76 ?_
      obtain ⟨y_33, t_position_34, t_fault_35, hcl36, hm36⟩ := bd3_some hm32; clear hm32
      have sb37 := ctS.mk (n := 5) (k := 1) (pre := [oB (r0 0) 0 [.ref (r0 1), .ref (r0 2), .ref (r0 3), .ref (r0 4), .ref (r0 5), .ref (r0 6), .int f_columns, .int f_rows, .int f_scale, .int f_toEnd, .int f_between, .int f_kept], aQ (r0 4) cQ r0, aI (r0 5) cI 36 f_places, oB (r1 0) 4 [.ref (r1 1), .int t_size, .int t_position_20, .int t_fault_21], aI (r1 1) cB 6000 t_bytes]) (tl := [rowsW cI r0 f_grid]) [3, 4] [0, 1, 2] [] [0] rfl rfl (by decide +kernel) (by decide +kernel)
      refine ct_calli (r := y_33) E sb37 hP24 hD24 hS24 (va_runV (As := [.int (sPASSED_BITS x2.toNatClampNeg)]) (rest := [.int ((f_places x3.toNatClampNeg) + (sPASSED x2.toNatClampNeg))]) ⟨hx, hb, hml, hown, hts⟩ (c_X4_number l D cB cI cJ cQ N r1 H24.size (sPASSED_BITS x2.toNatClampNeg) t_size t_position_20 t_fault_21 t_bytes (y_33, t_position_34, t_fault_35) hcl36) (cwV 1 hts gX0_readNumber_X4_number rfl rfl rfl cdV_X4_number ⟨Nat.le_of_ble_eq_true rfl, Nat.le_of_ble_eq_true rfl⟩) (ct_preV (q0 := 3) (ci := 4) E sb37 hP24 hD24 hS24 rfl rfl) rfl rfl hl27.1 rfl (lv_room (Nat.le_of_ble_eq_true rfl)) dX0_readNumber_77 ⟨Nat.zero_le _, Nat.zero_le _⟩) (fun H38 lc38 hP38 hD38 hS38 => ?_); clear sb37 hcl36
      clear hP24 hD24 hS24
      have hP38 : va_P D vwCl (wf [oB (r0 0) 0 [.ref (r0 1), .ref (r0 2), .ref (r0 3), .ref (r0 4), .ref (r0 5), .ref (r0 6), .int f_columns, .int f_rows, .int f_scale, .int f_toEnd, .int f_between, .int f_kept], aQ (r0 4) cQ r0, aI (r0 5) cI 36 f_places, oB (r1 0) 4 [.ref (r1 1), .int t_size, .int t_position_34, .int t_fault_35], aI (r1 1) cB 6000 t_bytes] [rowsW cI r0 f_grid]) H38 := hP38
      have hD38 : va_D A (wf [oB (r0 0) 0 [.ref (r0 1), .ref (r0 2), .ref (r0 3), .ref (r0 4), .ref (r0 5), .ref (r0 6), .int f_columns, .int f_rows, .int f_scale, .int f_toEnd, .int f_between, .int f_kept], aQ (r0 4) cQ r0, aI (r0 5) cI 36 f_places, oB (r1 0) 4 [.ref (r1 1), .int t_size, .int t_position_34, .int t_fault_35], aI (r1 1) cB 6000 t_bytes] [rowsW cI r0 f_grid]) := hD38
      refine lv_iadd hx hb dX0_readNumber_80 ?_
      obtain ⟨v7_39, ev7_39, hm40⟩ := nm_some hm36; clear hm36
      refine ct_topi ev7_39 ?_
      refine lv_istore (lv' := [(7, .int v7_39), (6, .int v6_25), (5, .int k0_11), (0, .ref (r0 0)), (1, .ref (r1 0)), (2, .int x2), (3, .int x3)]) hx hb dX0_readNumber_81 hl27 (by decide) rfl (fun ls41 hl41 => ?_); clear hl27
      refine lv_iload hx hb dX0_readNumber_83 (lv_at hl41 1 rfl) ?_
      refine lv_if_ne (tgt := 99) hx hb dX0_readNumber_85 (by decide) (fun hc42 => ?_) (fun hc42 => ?_)
      · have hm43 := bq_f hm40 hc42; clear hm40
        refine lv_iload hx hb dX0_readNumber_99 (lv_at hl41 0 rfl) ?_
        refine lv_bipush (v := 64) hx hb dX0_readNumber_101 (by decide) ?_
        refine lv_icmp_lt (tgt := 115) hx hb dX0_readNumber_103 (by decide) (fun hc44 => ?_) (fun hc44 => ?_)
        · have hm45 := bq_t hm43 hc44; clear hm43
          refine lv_aload_n hx hb dX0_readNumber_115 rfl (lv_at hl41 3 rfl) ?_
          refine va_get (D := D) (ci := 0) (v := .ref (r0 4)) (C := RX0) (T := TX0) (N := 12) hx hb hts hi_X0_readNumber_0 hown E.1 hP38 0 rfl rfl 3 (by decide) (hts _ (List.mem_of_getElem? (i := 6) rfl)) (fun _ h9 => h9) rfl dX0_readNumber_116 ?_
          refine lv_iload_n hx hb dX0_readNumber_119 rfl (lv_at hl41 6 rfl) ?_
          obtain ⟨hin46, hm46⟩ := gi_some hm45; clear hm45
          refine ct_aald hx hb E.1 hP38 1 rfl hin46 dX0_readNumber_120 ?_
          refine lv_iload hx hb dX0_readNumber_121 (lv_at hl41 0 rfl) ?_
          refine lv_iload hx hb dX0_readNumber_123 (lv_at hl41 1 rfl) ?_
          obtain ⟨hin47, hm47⟩ := gi_some hm46; clear hm46
          obtain ⟨f_grid_48, ef_grid_48, hm49⟩ := nm_some hm47; clear hm47
          refine ct_rst hx hb E.1 hP38 hD38 hS38 (vp_row hin46) hin47 ef_grid_48 dX0_readNumber_125 (fun H50 lc50 hP50 hD50 hS50 => ?_)
          clear hP38 hD38 hS38
          have hP50 : va_P D vwCl (wf [oB (r0 0) 0 [.ref (r0 1), .ref (r0 2), .ref (r0 3), .ref (r0 4), .ref (r0 5), .ref (r0 6), .int f_columns, .int f_rows, .int f_scale, .int f_toEnd, .int f_between, .int f_kept], aQ (r0 4) cQ r0, aI (r0 5) cI 36 f_places, oB (r1 0) 4 [.ref (r1 1), .int t_size, .int t_position_34, .int t_fault_35], aI (r1 1) cB 6000 t_bytes] [rowsW cI r0 f_grid_48]) H50 := hP50
          have hD50 : va_D A (wf [oB (r0 0) 0 [.ref (r0 1), .ref (r0 2), .ref (r0 3), .ref (r0 4), .ref (r0 5), .ref (r0 6), .int f_columns, .int f_rows, .int f_scale, .int f_toEnd, .int f_between, .int f_kept], aQ (r0 4) cQ r0, aI (r0 5) cI 36 f_places, oB (r1 0) 4 [.ref (r1 1), .int t_size, .int t_position_34, .int t_fault_35], aI (r1 1) cB 6000 t_bytes] [rowsW cI r0 f_grid_48]) := hD50
          refine lv_aload_n hx hb dX0_readNumber_126 rfl (lv_at hl41 3 rfl) ?_
          refine lv_aload_n hx hb dX0_readNumber_127 rfl (lv_at hl41 4 rfl) ?_
          refine lv_iload_n hx hb dX0_readNumber_128 rfl (lv_at hl41 6 rfl) ?_
          refine lv_iload_n hx hb dX0_readNumber_129 rfl (lv_at hl41 5 rfl) ?_
          refine lv_bipush (v := 30) hx hb dX0_readNumber_130 (by decide) ?_
          obtain ⟨k52, ek52, hm52⟩ := jn_some hm49; clear hm49
          have KJ52 : ∀ (k0_53 : Int32) (H54 : Heap) (lc54 : List Loc) (ls54 : Array Slot), k52 k0_53 = some o → va_P D vwCl (wf [oB (r0 0) 0 [.ref (r0 1), .ref (r0 2), .ref (r0 3), .ref (r0 4), .ref (r0 5), .ref (r0 6), .int f_columns, .int f_rows, .int f_scale, .int f_toEnd, .int f_between, .int f_kept], aQ (r0 4) cQ r0, aI (r0 5) cI 36 f_places, oB (r1 0) 4 [.ref (r1 1), .int t_size, .int t_position_34, .int t_fault_35], aI (r1 1) cB 6000 t_bytes] [rowsW cI r0 f_grid_48]) H54 → va_D A (wf [oB (r0 0) 0 [.ref (r0 1), .ref (r0 2), .ref (r0 3), .ref (r0 4), .ref (r0 5), .ref (r0 6), .int f_columns, .int f_rows, .int f_scale, .int f_toEnd, .int f_between, .int f_kept], aQ (r0 4) cQ r0, aI (r0 5) cI 36 f_places, oB (r1 0) 4 [.ref (r1 1), .int t_size, .int t_position_34, .int t_fault_35], aI (r1 1) cB 6000 t_bytes] [rowsW cI r0 f_grid_48]) → va_S A s.heap H54 lc54 → lv_has ls54 8 [] → W p l e rm_X0_readNumber s m args below meth c H54 lc54 0 0 QQ (F0 m 144 ls54 [.int k0_53, .int x3, .ref (r1 0), .ref (r0 0)]) := by
            intro k0_53 H54 lc54 ls54 hm55 hP54 hD54 hS54 hl54
            rw [ek52] at hm55
            obtain ⟨f_places_56, t_fault_57, hcl58, hm58⟩ := bd2_some hm55; clear hm55
            have sb59 := ctS.mk (n := 5) (k := 1) (pre := [oB (r0 0) 0 [.ref (r0 1), .ref (r0 2), .ref (r0 3), .ref (r0 4), .ref (r0 5), .ref (r0 6), .int f_columns, .int f_rows, .int f_scale, .int f_toEnd, .int f_between, .int f_kept], aQ (r0 4) cQ r0, aI (r0 5) cI 36 f_places, oB (r1 0) 4 [.ref (r1 1), .int t_size, .int t_position_34, .int t_fault_35], aI (r1 1) cB 6000 t_bytes]) (tl := [rowsW cI r0 f_grid_48]) [0, 2, 3] [1, 4] [] [0] rfl rfl (by decide +kernel) (by decide +kernel)
            refine ct_callv E sb59 hP54 hD54 hS54 (va_runV (As := [.ref (r1 0), .int x3, .int k0_53]) (rest := []) ⟨hx, hb, hml, hown, hts⟩ (c_X0_goTo l D cB cI cJ cQ N r0 r1 H54.size x3 k0_53 f_columns f_rows f_scale f_toEnd f_between f_kept f_places t_size t_position_34 t_fault_35 (f_places_56, t_fault_57) hcl58) (cwV 3 hts gX0_readNumber_X0_goTo rfl rfl rfl cdV_X0_goTo ⟨Nat.le_of_ble_eq_true rfl, Nat.le_of_ble_eq_true rfl⟩) (ct_preV (q0 := 0) (ci := 0) E sb59 hP54 hD54 hS54 rfl rfl) rfl rfl hl54.1 rfl (lv_room (Nat.le_of_ble_eq_true rfl)) dX0_readNumber_144 ⟨Nat.zero_le _, Nat.zero_le _⟩) (fun H60 lc60 hP60 hD60 hS60 => ?_); clear sb59 hcl58
            clear hP54 hD54 hS54
            have hP60 : va_P D vwCl (wf [aQ (r0 4) cQ r0, aI (r1 1) cB 6000 t_bytes, oB (r0 0) 0 [.ref (r0 1), .ref (r0 2), .ref (r0 3), .ref (r0 4), .ref (r0 5), .ref (r0 6), .int f_columns, .int f_rows, .int f_scale, .int f_toEnd, .int f_between, .int f_kept], aI (r0 5) cI 36 f_places_56, oB (r1 0) 4 [.ref (r1 1), .int t_size, .int t_position_34, .int t_fault_57]] [rowsW cI r0 f_grid_48]) H60 := hP60
            have hD60 : va_D A (wf [aQ (r0 4) cQ r0, aI (r1 1) cB 6000 t_bytes, oB (r0 0) 0 [.ref (r0 1), .ref (r0 2), .ref (r0 3), .ref (r0 4), .ref (r0 5), .ref (r0 6), .int f_columns, .int f_rows, .int f_scale, .int f_toEnd, .int f_between, .int f_kept], aI (r0 5) cI 36 f_places_56, oB (r1 0) 4 [.ref (r1 1), .int t_size, .int t_position_34, .int t_fault_57]] [rowsW cI r0 f_grid_48]) := hD60
            obtain ⟨hP61, hD61⟩ := ct_ord (n := 5) (k := 1) [2, 0, 3, 4, 1] [0] hP60 hD60 rfl rfl (by decide +kernel) (by decide +kernel)
            have hS61 := hS60
            have hP61 : va_P D vwCl (wf [oB (r0 0) 0 [.ref (r0 1), .ref (r0 2), .ref (r0 3), .ref (r0 4), .ref (r0 5), .ref (r0 6), .int f_columns, .int f_rows, .int f_scale, .int f_toEnd, .int f_between, .int f_kept], aQ (r0 4) cQ r0, aI (r0 5) cI 36 f_places_56, oB (r1 0) 4 [.ref (r1 1), .int t_size, .int t_position_34, .int t_fault_57], aI (r1 1) cB 6000 t_bytes] [rowsW cI r0 f_grid_48]) H60 := hP61
            have hD61 : va_D A (wf [oB (r0 0) 0 [.ref (r0 1), .ref (r0 2), .ref (r0 3), .ref (r0 4), .ref (r0 5), .ref (r0 6), .int f_columns, .int f_rows, .int f_scale, .int f_toEnd, .int f_between, .int f_kept], aQ (r0 4) cQ r0, aI (r0 5) cI 36 f_places_56, oB (r1 0) 4 [.ref (r1 1), .int t_size, .int t_position_34, .int t_fault_57], aI (r1 1) cB 6000 t_bytes] [rowsW cI r0 f_grid_48]) := hD61
            obtain rfl := Option.some.inj hm58
            rw [hQ]
            exact ct_vret hx hb hr hlk hP61 hD61 hS61 dX0_readNumber_147
          refine lv_icmp_lt (tgt := 140) hx hb dX0_readNumber_132 (by decide) (fun hc62 => ?_) (fun hc62 => ?_)
          · have hm63 := bq_t hm52 hc62; clear hm52
            refine lv_iload hx hb dX0_readNumber_140 (lv_at hl41 0 rfl) ?_
            refine lv_iconst (v := 1) hx hb dX0_readNumber_142 (by decide) ?_
            refine lv_iadd hx hb dX0_readNumber_143 ?_
            exact KJ52 (v7_39 + (1 : Int32)) _ _ _ hm63 hP50 hD50 hS50 (lv_sub hl41 [] rfl)
          · have hm64 := bq_f hm52 hc62; clear hm52
            refine lv_bipush (v := 64) hx hb dX0_readNumber_135 (by decide) ?_
            refine lv_goto (tgt := 144) hx hb dX0_readNumber_137 (by decide) ?_
            exact KJ52 (64 : Int32) _ _ _ hm64 hP50 hD50 hS50 (lv_sub hl41 [] rfl)
        · have hm65 := bq_f hm43 hc44; clear hm43
          refine lv_aload_n hx hb dX0_readNumber_106 rfl (lv_at hl41 4 rfl) ?_
          refine lv_bipush (v := 6) hx hb dX0_readNumber_107 (by decide) ?_
          obtain ⟨t_fault_66, hcl67, hm67⟩ := bd1_some hm65; clear hm65
          have sb68 := ctS.mk (n := 5) (k := 1) (pre := [oB (r0 0) 0 [.ref (r0 1), .ref (r0 2), .ref (r0 3), .ref (r0 4), .ref (r0 5), .ref (r0 6), .int f_columns, .int f_rows, .int f_scale, .int f_toEnd, .int f_between, .int f_kept], aQ (r0 4) cQ r0, aI (r0 5) cI 36 f_places, oB (r1 0) 4 [.ref (r1 1), .int t_size, .int t_position_34, .int t_fault_35], aI (r1 1) cB 6000 t_bytes]) (tl := [rowsW cI r0 f_grid]) [3] [0, 1, 2, 4] [] [0] rfl rfl (by decide +kernel) (by decide +kernel)
          refine ct_callv E sb68 hP38 hD38 hS38 (va_runV (As := [.int (6 : Int32)]) (rest := []) ⟨hx, hb, hml, hown, hts⟩ (c_X4_fail l D cB cI cJ cQ N r1 H38.size (6 : Int32) t_size t_position_34 t_fault_35 (t_fault_66) hcl67) (cwV 1 hts gX0_readNumber_X4_fail rfl rfl rfl cdV_X4_fail ⟨Nat.le_of_ble_eq_true rfl, Nat.le_of_ble_eq_true rfl⟩) (ct_preV (q0 := 3) (ci := 4) E sb68 hP38 hD38 hS38 rfl rfl) rfl rfl hl41.1 rfl (lv_room (Nat.le_of_ble_eq_true rfl)) dX0_readNumber_109 ⟨Nat.zero_le _, Nat.zero_le _⟩) (fun H69 lc69 hP69 hD69 hS69 => ?_); clear sb68 hcl67
          clear hP38 hD38 hS38
          have hP69 : va_P D vwCl (wf [oB (r0 0) 0 [.ref (r0 1), .ref (r0 2), .ref (r0 3), .ref (r0 4), .ref (r0 5), .ref (r0 6), .int f_columns, .int f_rows, .int f_scale, .int f_toEnd, .int f_between, .int f_kept], aQ (r0 4) cQ r0, aI (r0 5) cI 36 f_places, aI (r1 1) cB 6000 t_bytes, oB (r1 0) 4 [.ref (r1 1), .int t_size, .int t_position_34, .int t_fault_66]] [rowsW cI r0 f_grid]) H69 := hP69
          have hD69 : va_D A (wf [oB (r0 0) 0 [.ref (r0 1), .ref (r0 2), .ref (r0 3), .ref (r0 4), .ref (r0 5), .ref (r0 6), .int f_columns, .int f_rows, .int f_scale, .int f_toEnd, .int f_between, .int f_kept], aQ (r0 4) cQ r0, aI (r0 5) cI 36 f_places, aI (r1 1) cB 6000 t_bytes, oB (r1 0) 4 [.ref (r1 1), .int t_size, .int t_position_34, .int t_fault_66]] [rowsW cI r0 f_grid]) := hD69
          refine lv_goto (tgt := 147) hx hb dX0_readNumber_112 (by decide) ?_
          obtain ⟨hP70, hD70⟩ := ct_ord (n := 5) (k := 1) [0, 1, 2, 4, 3] [0] hP69 hD69 rfl rfl (by decide +kernel) (by decide +kernel)
          have hS70 := hS69
          have hP70 : va_P D vwCl (wf [oB (r0 0) 0 [.ref (r0 1), .ref (r0 2), .ref (r0 3), .ref (r0 4), .ref (r0 5), .ref (r0 6), .int f_columns, .int f_rows, .int f_scale, .int f_toEnd, .int f_between, .int f_kept], aQ (r0 4) cQ r0, aI (r0 5) cI 36 f_places, oB (r1 0) 4 [.ref (r1 1), .int t_size, .int t_position_34, .int t_fault_66], aI (r1 1) cB 6000 t_bytes] [rowsW cI r0 f_grid]) H69 := hP70
          have hD70 : va_D A (wf [oB (r0 0) 0 [.ref (r0 1), .ref (r0 2), .ref (r0 3), .ref (r0 4), .ref (r0 5), .ref (r0 6), .int f_columns, .int f_rows, .int f_scale, .int f_toEnd, .int f_between, .int f_kept], aQ (r0 4) cQ r0, aI (r0 5) cI 36 f_places, oB (r1 0) 4 [.ref (r1 1), .int t_size, .int t_position_34, .int t_fault_66], aI (r1 1) cB 6000 t_bytes] [rowsW cI r0 f_grid]) := hD70
          obtain rfl := Option.some.inj hm67
          rw [hQ]
          exact ct_vret hx hb hr hlk hP70 hD70 hS70 dX0_readNumber_147
      · have hm71 := bq_t hm40 hc42; clear hm40
        refine lv_aload_n hx hb dX0_readNumber_88 rfl (lv_at hl41 3 rfl) ?_
        refine lv_aload_n hx hb dX0_readNumber_89 rfl (lv_at hl41 4 rfl) ?_
        refine lv_iload_n hx hb dX0_readNumber_90 rfl (lv_at hl41 6 rfl) ?_
        refine lv_iload hx hb dX0_readNumber_91 (lv_at hl41 0 rfl) ?_
        obtain ⟨f_places_72, t_fault_73, hcl74, hm74⟩ := bd2_some hm71; clear hm71
        have sb75 := ctS.mk (n := 5) (k := 1) (pre := [oB (r0 0) 0 [.ref (r0 1), .ref (r0 2), .ref (r0 3), .ref (r0 4), .ref (r0 5), .ref (r0 6), .int f_columns, .int f_rows, .int f_scale, .int f_toEnd, .int f_between, .int f_kept], aQ (r0 4) cQ r0, aI (r0 5) cI 36 f_places, oB (r1 0) 4 [.ref (r1 1), .int t_size, .int t_position_34, .int t_fault_35], aI (r1 1) cB 6000 t_bytes]) (tl := [rowsW cI r0 f_grid]) [0, 2, 3] [1, 4] [] [0] rfl rfl (by decide +kernel) (by decide +kernel)
        refine ct_callv E sb75 hP38 hD38 hS38 (va_runV (As := [.ref (r1 0), .int x3, .int v7_39]) (rest := []) ⟨hx, hb, hml, hown, hts⟩ (c_X0_goTo l D cB cI cJ cQ N r0 r1 H38.size x3 v7_39 f_columns f_rows f_scale f_toEnd f_between f_kept f_places t_size t_position_34 t_fault_35 (f_places_72, t_fault_73) hcl74) (cwV 3 hts gX0_readNumber_X0_goTo rfl rfl rfl cdV_X0_goTo ⟨Nat.le_of_ble_eq_true rfl, Nat.le_of_ble_eq_true rfl⟩) (ct_preV (q0 := 0) (ci := 0) E sb75 hP38 hD38 hS38 rfl rfl) rfl rfl hl41.1 rfl (lv_room (Nat.le_of_ble_eq_true rfl)) dX0_readNumber_93 ⟨Nat.zero_le _, Nat.zero_le _⟩) (fun H76 lc76 hP76 hD76 hS76 => ?_); clear sb75 hcl74
        clear hP38 hD38 hS38
        have hP76 : va_P D vwCl (wf [aQ (r0 4) cQ r0, aI (r1 1) cB 6000 t_bytes, oB (r0 0) 0 [.ref (r0 1), .ref (r0 2), .ref (r0 3), .ref (r0 4), .ref (r0 5), .ref (r0 6), .int f_columns, .int f_rows, .int f_scale, .int f_toEnd, .int f_between, .int f_kept], aI (r0 5) cI 36 f_places_72, oB (r1 0) 4 [.ref (r1 1), .int t_size, .int t_position_34, .int t_fault_73]] [rowsW cI r0 f_grid]) H76 := hP76
        have hD76 : va_D A (wf [aQ (r0 4) cQ r0, aI (r1 1) cB 6000 t_bytes, oB (r0 0) 0 [.ref (r0 1), .ref (r0 2), .ref (r0 3), .ref (r0 4), .ref (r0 5), .ref (r0 6), .int f_columns, .int f_rows, .int f_scale, .int f_toEnd, .int f_between, .int f_kept], aI (r0 5) cI 36 f_places_72, oB (r1 0) 4 [.ref (r1 1), .int t_size, .int t_position_34, .int t_fault_73]] [rowsW cI r0 f_grid]) := hD76
        refine lv_goto (tgt := 147) hx hb dX0_readNumber_96 (by decide) ?_
        obtain ⟨hP77, hD77⟩ := ct_ord (n := 5) (k := 1) [2, 0, 3, 4, 1] [0] hP76 hD76 rfl rfl (by decide +kernel) (by decide +kernel)
        have hS77 := hS76
        have hP77 : va_P D vwCl (wf [oB (r0 0) 0 [.ref (r0 1), .ref (r0 2), .ref (r0 3), .ref (r0 4), .ref (r0 5), .ref (r0 6), .int f_columns, .int f_rows, .int f_scale, .int f_toEnd, .int f_between, .int f_kept], aQ (r0 4) cQ r0, aI (r0 5) cI 36 f_places_72, oB (r1 0) 4 [.ref (r1 1), .int t_size, .int t_position_34, .int t_fault_73], aI (r1 1) cB 6000 t_bytes] [rowsW cI r0 f_grid]) H76 := hP77
        have hD77 : va_D A (wf [oB (r0 0) 0 [.ref (r0 1), .ref (r0 2), .ref (r0 3), .ref (r0 4), .ref (r0 5), .ref (r0 6), .int f_columns, .int f_rows, .int f_scale, .int f_toEnd, .int f_between, .int f_kept], aQ (r0 4) cQ r0, aI (r0 5) cI 36 f_places_72, oB (r1 0) 4 [.ref (r1 1), .int t_size, .int t_position_34, .int t_fault_73], aI (r1 1) cB 6000 t_bytes] [rowsW cI r0 f_grid]) := hD77
        obtain rfl := Option.some.inj hm74
        rw [hQ]
        exact ct_vret hx hb hr hlk hP77 hD77 hS77 dX0_readNumber_147
    refine lv_if_eq (tgt := 36) hx hb dX0_readNumber_21 (by decide) (fun hc78 => ?_) (fun hc78 => ?_)
    · have hm79 := bq_t hm8 hc78; clear hm8
      refine lv_iconst (v := 1) hx hb dX0_readNumber_36 (by decide) ?_
      exact KJ8 t_position t_fault (1 : Int32) _ _ _ hm79 hP4 hD4 hS4 (lv_sub hl6 [1, 2, 3, 4] rfl)
    · have hm80 := bq_f hm8 hc78; clear hm8
      refine lv_aload_n hx hb dX0_readNumber_24 rfl (lv_at hl6 2 rfl) ?_
      obtain ⟨y_81, t_position_82, t_fault_83, hcl84, hm84⟩ := bd3_some hm80; clear hm80
      have sb85 := ctS.mk (n := 5) (k := 1) (pre := [oB (r0 0) 0 [.ref (r0 1), .ref (r0 2), .ref (r0 3), .ref (r0 4), .ref (r0 5), .ref (r0 6), .int f_columns, .int f_rows, .int f_scale, .int f_toEnd, .int f_between, .int f_kept], aQ (r0 4) cQ r0, aI (r0 5) cI 36 f_places, oB (r1 0) 4 [.ref (r1 1), .int t_size, .int t_position, .int t_fault], aI (r1 1) cB 6000 t_bytes]) (tl := [rowsW cI r0 f_grid]) [3, 4] [0, 1, 2] [] [0] rfl rfl (by decide +kernel) (by decide +kernel)
      refine ct_calli (r := y_81) E sb85 hP4 hD4 hS4 (va_runV (As := []) (rest := []) ⟨hx, hb, hml, hown, hts⟩ (c_X4_bit l D cB cI cJ cQ N r1 H4.size t_size t_position t_fault t_bytes (y_81, t_position_82, t_fault_83) hcl84) (cwV 0 hts gX0_readNumber_X4_bit rfl rfl rfl cdV_X4_bit ⟨Nat.le_of_ble_eq_true rfl, Nat.le_of_ble_eq_true rfl⟩) (ct_preV (q0 := 3) (ci := 4) E sb85 hP4 hD4 hS4 rfl rfl) rfl rfl hl6.1 rfl (lv_room (Nat.le_of_ble_eq_true rfl)) dX0_readNumber_25 ⟨Nat.zero_le _, Nat.zero_le _⟩) (fun H86 lc86 hP86 hD86 hS86 => ?_); clear sb85 hcl84
      clear hP4 hD4 hS4
      have hP86 : va_P D vwCl (wf [oB (r0 0) 0 [.ref (r0 1), .ref (r0 2), .ref (r0 3), .ref (r0 4), .ref (r0 5), .ref (r0 6), .int f_columns, .int f_rows, .int f_scale, .int f_toEnd, .int f_between, .int f_kept], aQ (r0 4) cQ r0, aI (r0 5) cI 36 f_places, oB (r1 0) 4 [.ref (r1 1), .int t_size, .int t_position_82, .int t_fault_83], aI (r1 1) cB 6000 t_bytes] [rowsW cI r0 f_grid]) H86 := hP86
      have hD86 : va_D A (wf [oB (r0 0) 0 [.ref (r0 1), .ref (r0 2), .ref (r0 3), .ref (r0 4), .ref (r0 5), .ref (r0 6), .int f_columns, .int f_rows, .int f_scale, .int f_toEnd, .int f_between, .int f_kept], aQ (r0 4) cQ r0, aI (r0 5) cI 36 f_places, oB (r1 0) 4 [.ref (r1 1), .int t_size, .int t_position_82, .int t_fault_83], aI (r1 1) cB 6000 t_bytes] [rowsW cI r0 f_grid]) := hD86
      refine lv_iconst (v := 1) hx hb dX0_readNumber_28 (by decide) ?_
      refine lv_icmp_ne (tgt := 36) hx hb dX0_readNumber_29 (by decide) (fun hc87 => ?_) (fun hc87 => ?_)
      · have hm88 := bq_f hm84 hc87; clear hm84
        refine lv_iconst (v := 1) hx hb dX0_readNumber_36 (by decide) ?_
        exact KJ8 t_position_82 t_fault_83 (1 : Int32) _ _ _ hm88 hP86 hD86 hS86 (lv_sub hl6 [1, 2, 3, 4] rfl)
      · have hm89 := bq_t hm84 hc87; clear hm84
        refine lv_iconst (v := -1) hx hb dX0_readNumber_32 (by decide) ?_
        refine lv_goto (tgt := 37) hx hb dX0_readNumber_33 (by decide) ?_
        exact KJ8 t_position_82 t_fault_83 (-1 : Int32) _ _ _ hm89 hP86 hD86 hS86 (lv_sub hl6 [1, 2, 3, 4] rfl)
  refine lv_icmp_lt (tgt := 16) hx hb dX0_readNumber_3 (by decide) (fun hc90 => ?_) (fun hc90 => ?_)
  · have hm91 := bq_t hm2 hc90; clear hm2
    refine lv_iconst (v := 0) hx hb dX0_readNumber_16 (by decide) ?_
    exact KJ2 (0 : Int32) _ _ _ hm91 hP0 hD0 hS0 (lv_sub hl0 [0, 1, 2, 3] rfl)
  · have hm92 := bq_f hm2 hc90; clear hm2
    refine lv_iload_n hx hb dX0_readNumber_6 rfl (lv_at hl0 2 rfl) ?_
    refine lv_bipush (v := 29) hx hb dX0_readNumber_7 (by decide) ?_
    refine lv_icmp_gt (tgt := 16) hx hb dX0_readNumber_9 (by decide) (fun hc93 => ?_) (fun hc93 => ?_)
    · have hm94 := bq_t hm92 hc93; clear hm92
      refine lv_iconst (v := 0) hx hb dX0_readNumber_16 (by decide) ?_
      exact KJ2 (0 : Int32) _ _ _ hm94 hP0 hD0 hS0 (lv_sub hl0 [0, 1, 2, 3] rfl)
    · have hm95 := bq_f hm92 hc93; clear hm92
      refine lv_iconst (v := 1) hx hb dX0_readNumber_12 (by decide) ?_
      refine lv_goto (tgt := 17) hx hb dX0_readNumber_13 (by decide) ?_
      exact KJ2 (1 : Int32) _ _ _ hm95 hP0 hD0 hS0 (lv_sub hl0 [0, 1, 2, 3] rfl)
