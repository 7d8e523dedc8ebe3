def f_X0_readNumber (x2 : Int32) (x3 : Int32) (f_places : Nat → Int32) (f_grid : Nat → Nat → Int32) (t_size : Int32) (t_position : Int32) (t_fault : Int32) (t_bytes : Nat → Int32) : Option ((Nat → Int32) × (Nat → Nat → Int32) × Int32 × Int32) :=
  jn (fun (k2 : Int32 → Option ((Nat → Int32) × (Nat → Nat → Int32) × Int32 × Int32)) => (if x2 < (11 : Int32) then
  (k2 (0 : Int32))
  else
  ((if (29 : Int32) < x2 then
  (k2 (0 : Int32))
  else
  (k2 (1 : Int32)))))) fun k0_3 =>
  jn (fun (k8 : Int32 → Int32 → Int32 → Option ((Nat → Int32) × (Nat → Nat → Int32) × Int32 × Int32)) => (if k0_3 = (0 : Int32) then
  (k8 t_position t_fault (1 : Int32))
  else
  (bd3 (f_X4_bit t_size t_position t_fault t_bytes) fun y_81 t_position_82 t_fault_83 =>
  (if y_81 = (1 : Int32) then
  (k8 t_position_82 t_fault_83 (-1 : Int32))
  else
  (k8 t_position_82 t_fault_83 (1 : Int32)))))) fun t_position_9 t_fault_10 k0_11 =>
  gi x2 32 <|
  gi x2 32 <|
  bd3 (f_X4_number (sNUMBER_BITS x2.toNatClampNeg) t_size t_position_9 t_fault_10 t_bytes) fun y_19 t_position_20 t_fault_21 =>
  nm ((k0_11 * ((sNUMBER x2.toNatClampNeg) + y_19)) : Int32) fun v6_25 =>
  gi x3 36 <|
  gi x2 32 <|
  gi x2 32 <|
  bd3 (f_X4_number (sPASSED_BITS x2.toNatClampNeg) t_size t_position_20 t_fault_21 t_bytes) fun y_33 t_position_34 t_fault_35 =>
  nm ((((f_places x3.toNatClampNeg) + (sPASSED x2.toNatClampNeg)) + y_33) : Int32) fun v7_39 =>
  (if v6_25 = (0 : Int32) then
  (bd2 (f_X0_goTo x3 v7_39 f_places t_fault_35) fun f_places_72 t_fault_73 =>
  some (f_places_72, f_grid, t_position_34, t_fault_73))
  else
  ((if v7_39 < (64 : Int32) then
  (gi x3 36 <|
  gi v7_39 64 <|
  nm (updM f_grid x3.toNatClampNeg v7_39.toNatClampNeg v6_25 : Nat → Nat → Int32) fun f_grid_48 =>
  jn (fun (k52 : Int32 → Option ((Nat → Int32) × (Nat → Nat → Int32) × Int32 × Int32)) => (if x2 < (30 : Int32) then
  (k52 (v7_39 + (1 : Int32)))
  else
  (k52 (64 : Int32)))) fun k0_53 =>
  bd2 (f_X0_goTo x3 k0_53 f_places t_fault_35) fun f_places_56 t_fault_57 =>
  some (f_places_56, f_grid_48, t_position_34, t_fault_57))
  else
  (bd1 (f_X4_fail (6 : Int32) t_fault_35) fun t_fault_66 =>
  some (f_places, f_grid, t_position_34, t_fault_66)))))

abbrev rm_X0_readNumber : Room := { frames := 3, cells := 0, slots := 0, locals := 65 }

theorem cdS_X0_readNumber : yX0_readNumber.cls ≠ "java/lang/invoke/MethodHandle" ∧ yX0_readNumber.cls ≠ "java/lang/invoke/VarHandle" ∧ (parseMethodDescriptor yX0_readNumber.desc).map (fun d => d.parameters.length) = some 3 := by decide +kernel

theorem cdV_X0_readNumber : yX0_readNumber.cls = RX0 ∧ yX0_readNumber.cls ≠ "java/lang/invoke/MethodHandle" ∧ yX0_readNumber.cls ≠ "java/lang/invoke/VarHandle" ∧ (parseMethodDescriptor yX0_readNumber.desc).map (fun d => d.parameters.length) = some 3 := ⟨rfl, cdS_X0_readNumber⟩

theorem hi_X0_readNumber_0 : ∀ w ∈ u_ws RX0 TX0 12, w ∈ wsX0_readNumber := fun _ h => List.mem_cons_of_mem _ (List.mem_append_left _ (List.mem_append_right _ h))

set_option maxHeartbeats 40000000 in
set_option maxRecDepth 100000 in
theorem c_X0_readNumber (l : Launch) (D : va_G) (cB cI cJ cQ : ClassId) (N : Nat) (r0 : Nat → Nat) (r1 : Nat → Nat) (sz : Nat) (x2 : Int32) (x3 : Int32) (f_columns : Int32) (f_rows : Int32) (f_scale : Int32) (f_toEnd : Int32) (f_between : Int32) (f_kept : Int32) (f_places : Nat → Int32) (t_size : Int32) (t_position : Int32) (t_fault : Int32) (t_bytes : Nat → Int32) (f_grid : Nat → Nat → Int32) (o : (Nat → Int32) × (Nat → Nat → Int32) × Int32 × Int32) (hm0 : f_X0_readNumber x2 x3 f_places f_grid t_size t_position t_fault t_bytes = some o) : Met l yX0_readNumber wsX0_readNumber rm_X0_readNumber (ctP D cB cI cJ cQ N sz [.ref (r0 0), .ref (r1 0), .int x2, .int x3] (wf [oB (r0 0) 0 [.ref (r0 1), .ref (r0 2), .ref (r0 3), .ref (r0 4), .ref (r0 5), .ref (r0 6), .int f_columns, .int f_rows, .int f_scale, .int f_toEnd, .int f_between, .int f_kept], aQ (r0 4) cQ r0, aI (r0 5) cI 36 f_places, oB (r1 0) 4 [.ref (r1 1), .int t_size, .int t_position, .int t_fault], aI (r1 1) cB 6000 t_bytes] [rowsW cI r0 f_grid])) (ctQv D (wf [oB (r0 0) 0 [.ref (r0 1), .ref (r0 2), .ref (r0 3), .ref (r0 4), .ref (r0 5), .ref (r0 6), .int f_columns, .int f_rows, .int f_scale, .int f_toEnd, .int f_between, .int f_kept], aQ (r0 4) cQ r0, aI (r0 5) cI 36 (o.1), oB (r1 0) 4 [.ref (r1 1), .int t_size, .int (o.2.2.1), .int (o.2.2.2)], aI (r1 1) cB 6000 t_bytes] [rowsW cI r0 (o.2.1)]) (va_A (wf [oB (r0 0) 0 [.ref (r0 1), .ref (r0 2), .ref (r0 3), .ref (r0 4), .ref (r0 5), .ref (r0 6), .int f_columns, .int f_rows, .int f_scale, .int f_toEnd, .int f_between, .int f_kept], aQ (r0 4) cQ r0, aI (r0 5) cI 36 f_places, oB (r1 0) 4 [.ref (r1 1), .int t_size, .int t_position, .int t_fault], aI (r1 1) cB 6000 t_bytes] [rowsW cI r0 f_grid]) sz)) 0 0 (va_A (wf [oB (r0 0) 0 [.ref (r0 1), .ref (r0 2), .ref (r0 3), .ref (r0 4), .ref (r0 5), .ref (r0 6), .int f_columns, .int f_rows, .int f_scale, .int f_toEnd, .int f_between, .int f_kept], aQ (r0 4) cQ r0, aI (r0 5) cI 36 f_places, oB (r1 0) 4 [.ref (r1 1), .int t_size, .int t_position, .int t_fault], aI (r1 1) cB 6000 t_bytes] [rowsW cI r0 f_grid]) sz) := by
  refine ct_of (cc := cX0_readNumber) (maxL := 8) (ret := none) (own := RX0) (Qp := ctQv D (wf [oB (r0 0) 0 [.ref (r0 1), .ref (r0 2), .ref (r0 3), .ref (r0 4), .ref (r0 5), .ref (r0 6), .int f_columns, .int f_rows, .int f_scale, .int f_toEnd, .int f_between, .int f_kept], aQ (r0 4) cQ r0, aI (r0 5) cI 36 (o.1), oB (r1 0) 4 [.ref (r1 1), .int t_size, .int (o.2.2.1), .int (o.2.2.2)], aI (r1 1) cB 6000 t_bytes] [rowsW cI r0 (o.2.1)])) (by decide) rfl rfl (Nat.le_of_ble_eq_true rfl) ?_
  intro p e s m args below meth c A hx hb hr hml hown hts hlk hnm hsz hAe E hP0 hD0 hS0 ls0 hl0
  subst hsz
  have hl0 : lv_has ls0 8 [(0, .ref (r0 0)), (1, .ref (r1 0)), (2, .int x2), (3, .int x3)] := hl0
  obtain ⟨QQ, hQ⟩ : ∃ Q : State → Prop, Q = MQ below (ctQv D (wf [oB (r0 0) 0 [.ref (r0 1), .ref (r0 2), .ref (r0 3), .ref (r0 4), .ref (r0 5), .ref (r0 6), .int f_columns, .int f_rows, .int f_scale, .int f_toEnd, .int f_between, .int f_kept], aQ (r0 4) cQ r0, aI (r0 5) cI 36 (o.1), oB (r1 0) 4 [.ref (r1 1), .int t_size, .int (o.2.2.1), .int (o.2.2.2)], aI (r1 1) cB 6000 t_bytes] [rowsW cI r0 (o.2.1)]) A) args s 0 0 A := ⟨_, rfl⟩
  rw [← hQ]
  unfold f_X0_readNumber at hm0
  refine lv_iload_n hx hb dX0_readNumber_0 rfl (lv_at hl0 2 rfl) ?_
  refine lv_bipush (v := 11) hx hb dX0_readNumber_1 (by decide) ?_
  obtain ⟨k2, ek2, hm2⟩ := jn_some hm0; clear hm0
  have KJ2 : ∀ (k0_3 : Int32) (H4 : Heap) (lc4 : List Loc) (ls4 : Array Slot), k2 k0_3 = some o → va_P D vwCl (wf [oB (r0 0) 0 [.ref (r0 1), .ref (r0 2), .ref (r0 3), .ref (r0 4), .ref (r0 5), .ref (r0 6), .int f_columns, .int f_rows, .int f_scale, .int f_toEnd, .int f_between, .int f_kept], aQ (r0 4) cQ r0, aI (r0 5) cI 36 f_places, oB (r1 0) 4 [.ref (r1 1), .int t_size, .int t_position, .int t_fault], aI (r1 1) cB 6000 t_bytes] [rowsW cI r0 f_grid]) H4 → va_D A (wf [oB (r0 0) 0 [.ref (r0 1), .ref (r0 2), .ref (r0 3), .ref (r0 4), .ref (r0 5), .ref (r0 6), .int f_columns, .int f_rows, .int f_scale, .int f_toEnd, .int f_between, .int f_kept], aQ (r0 4) cQ r0, aI (r0 5) cI 36 f_places, oB (r1 0) 4 [.ref (r1 1), .int t_size, .int t_position, .int t_fault], aI (r1 1) cB 6000 t_bytes] [rowsW cI r0 f_grid]) → va_S A s.heap H4 lc4 → lv_has ls4 8 [(0, .ref (r0 0)), (1, .ref (r1 0)), (2, .int x2), (3, .int x3)] → W p l e rm_X0_readNumber s m args below meth c H4 lc4 0 0 QQ (F0 m 17 ls4 [.int k0_3]) := by
    intro k0_3 H4 lc4 ls4 hm5 hP4 hD4 hS4 hl4
    rw [ek2] at hm5
    refine lv_istore (lv' := [(4, .int k0_3), (0, .ref (r0 0)), (1, .ref (r1 0)), (2, .int x2), (3, .int x3)]) hx hb dX0_readNumber_17 hl4 (by decide) rfl (fun ls6 hl6 => ?_); clear hl4
    refine lv_iload hx hb dX0_readNumber_19 (lv_at hl6 0 rfl) ?_
    obtain ⟨k8, ek8, hm8⟩ := jn_some hm5; clear hm5
    have KJ8 : ∀ (t_position_9 : Int32) (t_fault_10 : Int32) (k0_11 : Int32) (H12 : Heap) (lc12 : List Loc) (ls12 : Array Slot), k8 t_position_9 t_fault_10 k0_11 = some o → va_P D vwCl (wf [oB (r0 0) 0 [.ref (r0 1), .ref (r0 2), .ref (r0 3), .ref (r0 4), .ref (r0 5), .ref (r0 6), .int f_columns, .int f_rows, .int f_scale, .int f_toEnd, .int f_between, .int f_kept], aQ (r0 4) cQ r0, aI (r0 5) cI 36 f_places, oB (r1 0) 4 [.ref (r1 1), .int t_size, .int t_position_9, .int t_fault_10], aI (r1 1) cB 6000 t_bytes] [rowsW cI r0 f_grid]) H12 → va_D A (wf [oB (r0 0) 0 [.ref (r0 1), .ref (r0 2), .ref (r0 3), .ref (r0 4), .ref (r0 5), .ref (r0 6), .int f_columns, .int f_rows, .int f_scale, .int f_toEnd, .int f_between, .int f_kept], aQ (r0 4) cQ r0, aI (r0 5) cI 36 f_places, oB (r1 0) 4 [.ref (r1 1), .int t_size, .int t_position_9, .int t_fault_10], aI (r1 1) cB 6000 t_bytes] [rowsW cI r0 f_grid]) → va_S A s.heap H12 lc12 → lv_has ls12 8 [(0, .ref (r0 0)), (1, .ref (r1 0)), (2, .int x2), (3, .int x3)] → W p l e rm_X0_readNumber s m args below meth c H12 lc12 0 0 QQ (F0 m 37 ls12 [.int k0_11]) := by
      intro t_position_9 t_fault_10 k0_11 H12 lc12 ls12 hm13 hP12 hD12 hS12 hl12
      rw [ek8] at hm13
      refine lv_istore (lv' := [(5, .int k0_11), (0, .ref (r0 0)), (1, .ref (r1 0)), (2, .int x2), (3, .int x3)]) hx hb dX0_readNumber_37 hl12 (by decide) rfl (fun ls14 hl14 => ?_); clear hl12
      refine lv_iload hx hb dX0_readNumber_39 (lv_at hl14 0 rfl) ?_
      obtain ⟨sa15, hz15, hn15, hl15_, hxx15⟩ := E.2.1.2.2.2.2.2.1
      refine va_gets hx hb (hz15.narrow E.2.2.2.1) hS12 hown (hts _ (List.mem_of_getElem? (i := 1) rfl)) (fun _ h9 => h9) dX0_readNumber_41 ?_
      refine lv_iload_n hx hb dX0_readNumber_44 rfl (lv_at hl14 3 rfl) ?_
      obtain ⟨hin16, hm16⟩ := gi_some hm13; clear hm13
      refine va_sld hx hb hxx15 hl15_ (fun h => absurd (E.2.2.2.1 _ h) (Nat.not_le.mpr hn15)) hS12 hin16 dX0_readNumber_45 ?_
      refine lv_aload_n hx hb dX0_readNumber_46 rfl (lv_at hl14 2 rfl) ?_
      obtain ⟨sa17, hz17, hn17, hl17_, hxx17⟩ := E.2.1.2.2.2.2.2.2.1
      refine va_gets hx hb (hz17.narrow E.2.2.2.1) hS12 hown (hts _ (List.mem_of_getElem? (i := 2) rfl)) (fun _ h9 => h9) dX0_readNumber_47 ?_
      refine lv_iload_n hx hb dX0_readNumber_50 rfl (lv_at hl14 3 rfl) ?_
      obtain ⟨hin18, hm18⟩ := gi_some hm16; clear hm16
      refine va_sld hx hb hxx17 hl17_ (fun h => absurd (E.2.2.2.1 _ h) (Nat.not_le.mpr hn17)) hS12 hin18 dX0_readNumber_51 ?_
      obtain ⟨y_19, t_position_20, t_fault_21, hcl22, hm22⟩ := bd3_some hm18; clear hm18
      have sb23 := ctS.mk (pre := [oB (r0 0) 0 [.ref (r0 1), .ref (r0 2), .ref (r0 3), .ref (r0 4), .ref (r0 5), .ref (r0 6), .int f_columns, .int f_rows, .int f_scale, .int f_toEnd, .int f_between, .int f_kept], aQ (r0 4) cQ r0, aI (r0 5) cI 36 f_places, oB (r1 0) 4 [.ref (r1 1), .int t_size, .int t_position_9, .int t_fault_10], aI (r1 1) cB 6000 t_bytes]) (tl := [rowsW cI r0 f_grid]) [3, 4] [0, 1, 2] [] [0] rfl rfl rfl rfl
      refine ct_calli (r := y_19) E sb23 hP12 hD12 hS12 (va_runV (As := [.int (sNUMBER_BITS x2.toNatClampNeg)]) (rest := [.int (sNUMBER x2.toNatClampNeg), .int k0_11]) ⟨hx, hb, hml, hown, hts⟩ (c_X4_number l D cB cI cJ cQ N r1 H12.size (sNUMBER_BITS x2.toNatClampNeg) t_size t_position_9 t_fault_10 t_bytes (y_19, t_position_20, t_fault_21) hcl22) (cwV 1 hts gX0_readNumber_X4_number rfl rfl rfl cdV_X4_number ⟨Nat.le_of_ble_eq_true rfl, Nat.le_of_ble_eq_true rfl⟩) (ct_preV (q0 := 3) (ci := 4) E sb23 hP12 hD12 hS12 rfl rfl) rfl rfl hl14.1 rfl (lv_room (Nat.le_of_ble_eq_true rfl)) dX0_readNumber_52 ⟨Nat.zero_le _, Nat.zero_le _⟩) (fun H24 lc24 hP24 hD24 hS24 => ?_); clear sb23 hcl22
      clear hP12 hD12 hS12
      have hP24 : va_P D vwCl (wf [oB (r0 0) 0 [.ref (r0 1), .ref (r0 2), .ref (r0 3), .ref (r0 4), .ref (r0 5), .ref (r0 6), .int f_columns, .int f_rows, .int f_scale, .int f_toEnd, .int f_between, .int f_kept], aQ (r0 4) cQ r0, aI (r0 5) cI 36 f_places, oB (r1 0) 4 [.ref (r1 1), .int t_size, .int t_position_20, .int t_fault_21], aI (r1 1) cB 6000 t_bytes] [rowsW cI r0 f_grid]) H24 := hP24
      have hD24 : va_D A (wf [oB (r0 0) 0 [.ref (r0 1), .ref (r0 2), .ref (r0 3), .ref (r0 4), .ref (r0 5), .ref (r0 6), .int f_columns, .int f_rows, .int f_scale, .int f_toEnd, .int f_between, .int f_kept], aQ (r0 4) cQ r0, aI (r0 5) cI 36 f_places, oB (r1 0) 4 [.ref (r1 1), .int t_size, .int t_position_20, .int t_fault_21], aI (r1 1) cB 6000 t_bytes] [rowsW cI r0 f_grid]) := hD24
      refine lv_iadd hx hb dX0_readNumber_55 ?_
      refine lv_imul hx hb dX0_readNumber_56 ?_
      obtain ⟨v6_25, ev6_25, hm26⟩ := nm_some hm22; clear hm22
      refine ct_topi ev6_25 ?_
      refine lv_istore (lv' := [(6, .int v6_25), (5, .int k0_11), (0, .ref (r0 0)), (1, .ref (r1 0)), (2, .int x2), (3, .int x3)]) hx hb dX0_readNumber_57 hl14 (by decide) rfl (fun ls27 hl27 => ?_); clear hl14
      refine lv_aload_n hx hb dX0_readNumber_59 rfl (lv_at hl27 2 rfl) ?_
      refine va_get (D := D) (ci := 0) (v := .ref (r0 5)) (C := RX0) (T := TX0) (N := 12) hx hb hts hi_X0_readNumber_0 hown E.1 hP24 0 rfl rfl 4 (by decide) (hts _ (List.mem_of_getElem? (i := 3) rfl)) (fun _ h9 => h9) rfl dX0_readNumber_60 ?_
      refine lv_iload_n hx hb dX0_readNumber_63 rfl (lv_at hl27 5 rfl) ?_
      obtain ⟨hin28, hm28⟩ := gi_some hm26; clear hm26
      refine va_iald hx hb E.1 hP24 2 0 rfl rfl hin28 dX0_readNumber_64 ?_
      obtain ⟨sa29, hz29, hn29, hl29_, hxx29⟩ := E.2.1.2.2.2.1
      refine va_gets hx hb (hz29.narrow E.2.2.2.1) hS24 hown (hts _ (List.mem_of_getElem? (i := 4) rfl)) (fun _ h9 => h9) dX0_readNumber_65 ?_
      refine lv_iload_n hx hb dX0_readNumber_68 rfl (lv_at hl27 4 rfl) ?_
      obtain ⟨hin30, hm30⟩ := gi_some hm28; clear hm28
      refine va_sld hx hb hxx29 hl29_ (fun h => absurd (E.2.2.2.1 _ h) (Nat.not_le.mpr hn29)) hS24 hin30 dX0_readNumber_69 ?_
      refine lv_iadd hx hb dX0_readNumber_70 ?_
      refine lv_aload_n hx hb dX0_readNumber_71 rfl (lv_at hl27 3 rfl) ?_
      obtain ⟨sa31, hz31, hn31, hl31_, hxx31⟩ := E.2.1.2.2.2.2.1
      refine va_gets hx hb (hz31.narrow E.2.2.2.1) hS24 hown (hts _ (List.mem_of_getElem? (i := 5) rfl)) (fun _ h9 => h9) dX0_readNumber_72 ?_
      refine lv_iload_n hx hb dX0_readNumber_75 rfl (lv_at hl27 4 rfl) ?_
      obtain ⟨hin32, hm32⟩ := gi_some hm30; clear hm30
      refine va_sld hx hb hxx31 hl31_ (fun h => absurd (E.2.2.2.1 _ h) (Nat.not_le.mpr hn31)) hS24 hin32 dX0_readNumber_76 ?_
      obtain ⟨y_33, t_position_34, t_fault_35, hcl36, hm36⟩ := bd3_some hm32; clear hm32
      have sb37 := ctS.mk (pre := [oB (r0 0) 0 [.ref (r0 1), .ref (r0 2), .ref (r0 3), .ref (r0 4), .ref (r0 5), .ref (r0 6), .int f_columns, .int f_rows, .int f_scale, .int f_toEnd, .int f_between, .int f_kept], aQ (r0 4) cQ r0, aI (r0 5) cI 36 f_places, oB (r1 0) 4 [.ref (r1 1), .int t_size, .int t_position_20, .int t_fault_21], aI (r1 1) cB 6000 t_bytes]) (tl := [rowsW cI r0 f_grid]) [3, 4] [0, 1, 2] [] [0] rfl rfl rfl rfl
      refine ct_calli (r := y_33) E sb37 hP24 hD24 hS24 (va_runV (As := [.int (sPASSED_BITS x2.toNatClampNeg)]) (rest := [.int ((f_places x3.toNatClampNeg) + (sPASSED x2.toNatClampNeg))]) ⟨hx, hb, hml, hown, hts⟩ (c_X4_number l D cB cI cJ cQ N r1 H24.size (sPASSED_BITS x2.toNatClampNeg) t_size t_position_20 t_fault_21 t_bytes (y_33, t_position_34, t_fault_35) hcl36) (cwV 1 hts gX0_readNumber_X4_number rfl rfl rfl cdV_X4_number ⟨Nat.le_of_ble_eq_true rfl, Nat.le_of_ble_eq_true rfl⟩) (ct_preV (q0 := 3) (ci := 4) E sb37 hP24 hD24 hS24 rfl rfl) rfl rfl hl27.1 rfl (lv_room (Nat.le_of_ble_eq_true rfl)) dX0_readNumber_77 ⟨Nat.zero_le _, Nat.zero_le _⟩) (fun H38 lc38 hP38 hD38 hS38 => ?_); clear sb37 hcl36
      clear hP24 hD24 hS24
      have hP38 : va_P D vwCl (wf [oB (r0 0) 0 [.ref (r0 1), .ref (r0 2), .ref (r0 3), .ref (r0 4), .ref (r0 5), .ref (r0 6), .int f_columns, .int f_rows, .int f_scale, .int f_toEnd, .int f_between, .int f_kept], aQ (r0 4) cQ r0, aI (r0 5) cI 36 f_places, oB (r1 0) 4 [.ref (r1 1), .int t_size, .int t_position_34, .int t_fault_35], aI (r1 1) cB 6000 t_bytes] [rowsW cI r0 f_grid]) H38 := hP38
      have hD38 : va_D A (wf [oB (r0 0) 0 [.ref (r0 1), .ref (r0 2), .ref (r0 3), .ref (r0 4), .ref (r0 5), .ref (r0 6), .int f_columns, .int f_rows, .int f_scale, .int f_toEnd, .int f_between, .int f_kept], aQ (r0 4) cQ r0, aI (r0 5) cI 36 f_places, oB (r1 0) 4 [.ref (r1 1), .int t_size, .int t_position_34, .int t_fault_35], aI (r1 1) cB 6000 t_bytes] [rowsW cI r0 f_grid]) := hD38
      refine lv_iadd hx hb dX0_readNumber_80 ?_
      obtain ⟨v7_39, ev7_39, hm40⟩ := nm_some hm36; clear hm36
      refine ct_topi ev7_39 ?_
      refine lv_istore (lv' := [(7, .int v7_39), (6, .int v6_25), (5, .int k0_11), (0, .ref (r0 0)), (1, .ref (r1 0)), (2, .int x2), (3, .int x3)]) hx hb dX0_readNumber_81 hl27 (by decide) rfl (fun ls41 hl41 => ?_); clear hl27
      refine lv_iload hx hb dX0_readNumber_83 (lv_at hl41 1 rfl) ?_
      refine lv_if_ne (tgt := 99) hx hb dX0_readNumber_85 (by decide) (fun hc42 => ?_) (fun hc42 => ?_)
      · have hm43 := bq_f hm40 hc42; clear hm40
        refine lv_iload hx hb dX0_readNumber_99 (lv_at hl41 0 rfl) ?_
        refine lv_bipush (v := 64) hx hb dX0_readNumber_101 (by decide) ?_
        refine lv_icmp_lt (tgt := 115) hx hb dX0_readNumber_103 (by decide) (fun hc44 => ?_) (fun hc44 => ?_)
        · have hm45 := bq_t hm43 hc44; clear hm43
          refine lv_aload_n hx hb dX0_readNumber_115 rfl (lv_at hl41 3 rfl) ?_
          refine va_get (D := D) (ci := 0) (v := .ref (r0 4)) (C := RX0) (T := TX0) (N := 12) hx hb hts hi_X0_readNumber_0 hown E.1 hP38 0 rfl rfl 3 (by decide) (hts _ (List.mem_of_getElem? (i := 6) rfl)) (fun _ h9 => h9) rfl dX0_readNumber_116 ?_
          refine lv_iload_n hx hb dX0_readNumber_119 rfl (lv_at hl41 6 rfl) ?_
          obtain ⟨hin46, hm46⟩ := gi_some hm45; clear hm45
          refine ct_aald hx hb E.1 hP38 1 rfl hin46 dX0_readNumber_120 ?_
          refine lv_iload hx hb dX0_readNumber_121 (lv_at hl41 0 rfl) ?_
          refine lv_iload hx hb dX0_readNumber_123 (lv_at hl41 1 rfl) ?_
          obtain ⟨hin47, hm47⟩ := gi_some hm46; clear hm46
          obtain ⟨f_grid_48, ef_grid_48, hm49⟩ := nm_some hm47; clear hm47
          refine ct_rst hx hb E.1 hP38 hD38 hS38 (vp_row hin46) hin47 ef_grid_48 dX0_readNumber_125 (fun H50 lc50 hP50 hD50 hS50 => ?_)
          clear hP38 hD38 hS38
          have hP50 : va_P D vwCl (wf [oB (r0 0) 0 [.ref (r0 1), .ref (r0 2), .ref (r0 3), .ref (r0 4), .ref (r0 5), .ref (r0 6), .int f_columns, .int f_rows, .int f_scale, .int f_toEnd, .int f_between, .int f_kept], aQ (r0 4) cQ r0, aI (r0 5) cI 36 f_places, oB (r1 0) 4 [.ref (r1 1), .int t_size, .int t_position_34, .int t_fault_35], aI (r1 1) cB 6000 t_bytes] [rowsW cI r0 f_grid_48]) H50 := hP50
          have hD50 : va_D A (wf [oB (r0 0) 0 [.ref (r0 1), .ref (r0 2), .ref (r0 3), .ref (r0 4), .ref (r0 5), .ref (r0 6), .int f_columns, .int f_rows, .int f_scale, .int f_toEnd, .int f_between, .int f_kept], aQ (r0 4) cQ r0, aI (r0 5) cI 36 f_places, oB (r1 0) 4 [.ref (r1 1), .int t_size, .int t_position_34, .int t_fault_35], aI (r1 1) cB 6000 t_bytes] [rowsW cI r0 f_grid_48]) := hD50
          refine lv_aload_n hx hb dX0_readNumber_126 rfl (lv_at hl41 3 rfl) ?_
          refine lv_aload_n hx hb dX0_readNumber_127 rfl (lv_at hl41 4 rfl) ?_
          refine lv_iload_n hx hb dX0_readNumber_128 rfl (lv_at hl41 6 rfl) ?_
          refine lv_iload_n hx hb dX0_readNumber_129 rfl (lv_at hl41 5 rfl) ?_
          refine lv_bipush (v := 30) hx hb dX0_readNumber_130 (by decide) ?_
          obtain ⟨k52, ek52, hm52⟩ := jn_some hm49; clear hm49
          have KJ52 : ∀ (k0_53 : Int32) (H54 : Heap) (lc54 : List Loc) (ls54 : Array Slot), k52 k0_53 = some o → va_P D vwCl (wf [oB (r0 0) 0 [.ref (r0 1), .ref (r0 2), .ref (r0 3), .ref (r0 4), .ref (r0 5), .ref (r0 6), .int f_columns, .int f_rows, .int f_scale, .int f_toEnd, .int f_between, .int f_kept], aQ (r0 4) cQ r0, aI (r0 5) cI 36 f_places, oB (r1 0) 4 [.ref (r1 1), .int t_size, .int t_position_34, .int t_fault_35], aI (r1 1) cB 6000 t_bytes] [rowsW cI r0 f_grid_48]) H54 → va_D A (wf [oB (r0 0) 0 [.ref (r0 1), .ref (r0 2), .ref (r0 3), .ref (r0 4), .ref (r0 5), .ref (r0 6), .int f_columns, .int f_rows, .int f_scale, .int f_toEnd, .int f_between, .int f_kept], aQ (r0 4) cQ r0, aI (r0 5) cI 36 f_places, oB (r1 0) 4 [.ref (r1 1), .int t_size, .int t_position_34, .int t_fault_35], aI (r1 1) cB 6000 t_bytes] [rowsW cI r0 f_grid_48]) → va_S A s.heap H54 lc54 → lv_has ls54 8 [] → W p l e rm_X0_readNumber s m args below meth c H54 lc54 0 0 QQ (F0 m 144 ls54 [.int k0_53, .int x3, .ref (r1 0), .ref (r0 0)]) := by
            intro k0_53 H54 lc54 ls54 hm55 hP54 hD54 hS54 hl54
            rw [ek52] at hm55
            obtain ⟨f_places_56, t_fault_57, hcl58, hm58⟩ := bd2_some hm55; clear hm55
            have sb59 := ctS.mk (pre := [oB (r0 0) 0 [.ref (r0 1), .ref (r0 2), .ref (r0 3), .ref (r0 4), .ref (r0 5), .ref (r0 6), .int f_columns, .int f_rows, .int f_scale, .int f_toEnd, .int f_between, .int f_kept], aQ (r0 4) cQ r0, aI (r0 5) cI 36 f_places, oB (r1 0) 4 [.ref (r1 1), .int t_size, .int t_position_34, .int t_fault_35], aI (r1 1) cB 6000 t_bytes]) (tl := [rowsW cI r0 f_grid_48]) [0, 2, 3] [1, 4] [] [0] rfl rfl rfl rfl
            refine ct_callv E sb59 hP54 hD54 hS54 (va_runV (As := [.ref (r1 0), .int x3, .int k0_53]) (rest := []) ⟨hx, hb, hml, hown, hts⟩ (c_X0_goTo l D cB cI cJ cQ N r0 r1 H54.size x3 k0_53 f_columns f_rows f_scale f_toEnd f_between f_kept f_places t_size t_position_34 t_fault_35 (f_places_56, t_fault_57) hcl58) (cwV 3 hts gX0_readNumber_X0_goTo rfl rfl rfl cdV_X0_goTo ⟨Nat.le_of_ble_eq_true rfl, Nat.le_of_ble_eq_true rfl⟩) (ct_preV (q0 := 0) (ci := 0) E sb59 hP54 hD54 hS54 rfl rfl) rfl rfl hl54.1 rfl (lv_room (Nat.le_of_ble_eq_true rfl)) dX0_readNumber_144 ⟨Nat.zero_le _, Nat.zero_le _⟩) (fun H60 lc60 hP60 hD60 hS60 => ?_); clear sb59 hcl58
            clear hP54 hD54 hS54
            have hP60 : va_P D vwCl (wf [aQ (r0 4) cQ r0, aI (r1 1) cB 6000 t_bytes, oB (r0 0) 0 [.ref (r0 1), .ref (r0 2), .ref (r0 3), .ref (r0 4), .ref (r0 5), .ref (r0 6), .int f_columns, .int f_rows, .int f_scale, .int f_toEnd, .int f_between, .int f_kept], aI (r0 5) cI 36 f_places_56, oB (r1 0) 4 [.ref (r1 1), .int t_size, .int t_position_34, .int t_fault_57]] [rowsW cI r0 f_grid_48]) H60 := hP60
            have hD60 : va_D A (wf [aQ (r0 4) cQ r0, aI (r1 1) cB 6000 t_bytes, oB (r0 0) 0 [.ref (r0 1), .ref (r0 2), .ref (r0 3), .ref (r0 4), .ref (r0 5), .ref (r0 6), .int f_columns, .int f_rows, .int f_scale, .int f_toEnd, .int f_between, .int f_kept], aI (r0 5) cI 36 f_places_56, oB (r1 0) 4 [.ref (r1 1), .int t_size, .int t_position_34, .int t_fault_57]] [rowsW cI r0 f_grid_48]) := hD60
            obtain ⟨hP61, hD61⟩ := ct_ord [2, 0, 3, 4, 1] [0] hP60 hD60 rfl rfl rfl rfl
            have hS61 := hS60
            have hP61 : va_P D vwCl (wf [oB (r0 0) 0 [.ref (r0 1), .ref (r0 2), .ref (r0 3), .ref (r0 4), .ref (r0 5), .ref (r0 6), .int f_columns, .int f_rows, .int f_scale, .int f_toEnd, .int f_between, .int f_kept], aQ (r0 4) cQ r0, aI (r0 5) cI 36 f_places_56, oB (r1 0) 4 [.ref (r1 1), .int t_size, .int t_position_34, .int t_fault_57], aI (r1 1) cB 6000 t_bytes] [rowsW cI r0 f_grid_48]) H60 := hP61
            have hD61 : va_D A (wf [oB (r0 0) 0 [.ref (r0 1), .ref (r0 2), .ref (r0 3), .ref (r0 4), .ref (r0 5), .ref (r0 6), .int f_columns, .int f_rows, .int f_scale, .int f_toEnd, .int f_between, .int f_kept], aQ (r0 4) cQ r0, aI (r0 5) cI 36 f_places_56, oB (r1 0) 4 [.ref (r1 1), .int t_size, .int t_position_34, .int t_fault_57], aI (r1 1) cB 6000 t_bytes] [rowsW cI r0 f_grid_48]) := hD61
            obtain rfl := Option.some.inj hm58
            rw [hQ]
            exact ct_vret hx hb hr hlk hP61 hD61 hS61 dX0_readNumber_147
          refine lv_icmp_lt (tgt := 140) hx hb dX0_readNumber_132 (by decide) (fun hc62 => ?_) (fun hc62 => ?_)
          · have hm63 := bq_t hm52 hc62; clear hm52
            refine lv_iload hx hb dX0_readNumber_140 (lv_at hl41 0 rfl) ?_
            refine lv_iconst (v := 1) hx hb dX0_readNumber_142 (by decide) ?_
            refine lv_iadd hx hb dX0_readNumber_143 ?_
            exact KJ52 (v7_39 + (1 : Int32)) _ _ _ hm63 hP50 hD50 hS50 (lv_sub hl41 [] rfl)
          · have hm64 := bq_f hm52 hc62; clear hm52
            refine lv_bipush (v := 64) hx hb dX0_readNumber_135 (by decide) ?_
            refine lv_goto (tgt := 144) hx hb dX0_readNumber_137 (by decide) ?_
            exact KJ52 (64 : Int32) _ _ _ hm64 hP50 hD50 hS50 (lv_sub hl41 [] rfl)
        · have hm65 := bq_f hm43 hc44; clear hm43
          refine lv_aload_n hx hb dX0_readNumber_106 rfl (lv_at hl41 4 rfl) ?_
          refine lv_bipush (v := 6) hx hb dX0_readNumber_107 (by decide) ?_
          obtain ⟨t_fault_66, hcl67, hm67⟩ := bd1_some hm65; clear hm65
          have sb68 := ctS.mk (pre := [oB (r0 0) 0 [.ref (r0 1), .ref (r0 2), .ref (r0 3), .ref (r0 4), .ref (r0 5), .ref (r0 6), .int f_columns, .int f_rows, .int f_scale, .int f_toEnd, .int f_between, .int f_kept], aQ (r0 4) cQ r0, aI (r0 5) cI 36 f_places, oB (r1 0) 4 [.ref (r1 1), .int t_size, .int t_position_34, .int t_fault_35], aI (r1 1) cB 6000 t_bytes]) (tl := [rowsW cI r0 f_grid]) [3] [0, 1, 2, 4] [] [0] rfl rfl rfl rfl
          refine ct_callv E sb68 hP38 hD38 hS38 (va_runV (As := [.int (6 : Int32)]) (rest := []) ⟨hx, hb, hml, hown, hts⟩ (c_X4_fail l D cB cI cJ cQ N r1 H38.size (6 : Int32) t_size t_position_34 t_fault_35 (t_fault_66) hcl67) (cwV 1 hts gX0_readNumber_X4_fail rfl rfl rfl cdV_X4_fail ⟨Nat.le_of_ble_eq_true rfl, Nat.le_of_ble_eq_true rfl⟩) (ct_preV (q0 := 3) (ci := 4) E sb68 hP38 hD38 hS38 rfl rfl) rfl rfl hl41.1 rfl (lv_room (Nat.le_of_ble_eq_true rfl)) dX0_readNumber_109 ⟨Nat.zero_le _, Nat.zero_le _⟩) (fun H69 lc69 hP69 hD69 hS69 => ?_); clear sb68 hcl67
          clear hP38 hD38 hS38
          have hP69 : va_P D vwCl (wf [oB (r0 0) 0 [.ref (r0 1), .ref (r0 2), .ref (r0 3), .ref (r0 4), .ref (r0 5), .ref (r0 6), .int f_columns, .int f_rows, .int f_scale, .int f_toEnd, .int f_between, .int f_kept], aQ (r0 4) cQ r0, aI (r0 5) cI 36 f_places, aI (r1 1) cB 6000 t_bytes, oB (r1 0) 4 [.ref (r1 1), .int t_size, .int t_position_34, .int t_fault_66]] [rowsW cI r0 f_grid]) H69 := hP69
          have hD69 : va_D A (wf [oB (r0 0) 0 [.ref (r0 1), .ref (r0 2), .ref (r0 3), .ref (r0 4), .ref (r0 5), .ref (r0 6), .int f_columns, .int f_rows, .int f_scale, .int f_toEnd, .int f_between, .int f_kept], aQ (r0 4) cQ r0, aI (r0 5) cI 36 f_places, aI (r1 1) cB 6000 t_bytes, oB (r1 0) 4 [.ref (r1 1), .int t_size, .int t_position_34, .int t_fault_66]] [rowsW cI r0 f_grid]) := hD69
          refine lv_goto (tgt := 147) hx hb dX0_readNumber_112 (by decide) ?_
          obtain ⟨hP70, hD70⟩ := ct_ord [0, 1, 2, 4, 3] [0] hP69 hD69 rfl rfl rfl rfl
          have hS70 := hS69
          have hP70 : va_P D vwCl (wf [oB (r0 0) 0 [.ref (r0 1), .ref (r0 2), .ref (r0 3), .ref (r0 4), .ref (r0 5), .ref (r0 6), .int f_columns, .int f_rows, .int f_scale, .int f_toEnd, .int f_between, .int f_kept], aQ (r0 4) cQ r0, aI (r0 5) cI 36 f_places, oB (r1 0) 4 [.ref (r1 1), .int t_size, .int t_position_34, .int t_fault_66], aI (r1 1) cB 6000 t_bytes] [rowsW cI r0 f_grid]) H69 := hP70
          have hD70 : va_D A (wf [oB (r0 0) 0 [.ref (r0 1), .ref (r0 2), .ref (r0 3), .ref (r0 4), .ref (r0 5), .ref (r0 6), .int f_columns, .int f_rows, .int f_scale, .int f_toEnd, .int f_between, .int f_kept], aQ (r0 4) cQ r0, aI (r0 5) cI 36 f_places, oB (r1 0) 4 [.ref (r1 1), .int t_size, .int t_position_34, .int t_fault_66], aI (r1 1) cB 6000 t_bytes] [rowsW cI r0 f_grid]) := hD70
          obtain rfl := Option.some.inj hm67
          rw [hQ]
          exact ct_vret hx hb hr hlk hP70 hD70 hS70 dX0_readNumber_147
      · have hm71 := bq_t hm40 hc42; clear hm40
        refine lv_aload_n hx hb dX0_readNumber_88 rfl (lv_at hl41 3 rfl) ?_
        refine lv_aload_n hx hb dX0_readNumber_89 rfl (lv_at hl41 4 rfl) ?_
        refine lv_iload_n hx hb dX0_readNumber_90 rfl (lv_at hl41 6 rfl) ?_
        refine lv_iload hx hb dX0_readNumber_91 (lv_at hl41 0 rfl) ?_
        obtain ⟨f_places_72, t_fault_73, hcl74, hm74⟩ := bd2_some hm71; clear hm71
        have sb75 := ctS.mk (pre := [oB (r0 0) 0 [.ref (r0 1), .ref (r0 2), .ref (r0 3), .ref (r0 4), .ref (r0 5), .ref (r0 6), .int f_columns, .int f_rows, .int f_scale, .int f_toEnd, .int f_between, .int f_kept], aQ (r0 4) cQ r0, aI (r0 5) cI 36 f_places, oB (r1 0) 4 [.ref (r1 1), .int t_size, .int t_position_34, .int t_fault_35], aI (r1 1) cB 6000 t_bytes]) (tl := [rowsW cI r0 f_grid]) [0, 2, 3] [1, 4] [] [0] rfl rfl rfl rfl
        refine ct_callv E sb75 hP38 hD38 hS38 (va_runV (As := [.ref (r1 0), .int x3, .int v7_39]) (rest := []) ⟨hx, hb, hml, hown, hts⟩ (c_X0_goTo l D cB cI cJ cQ N r0 r1 H38.size x3 v7_39 f_columns f_rows f_scale f_toEnd f_between f_kept f_places t_size t_position_34 t_fault_35 (f_places_72, t_fault_73) hcl74) (cwV 3 hts gX0_readNumber_X0_goTo rfl rfl rfl cdV_X0_goTo ⟨Nat.le_of_ble_eq_true rfl, Nat.le_of_ble_eq_true rfl⟩) (ct_preV (q0 := 0) (ci := 0) E sb75 hP38 hD38 hS38 rfl rfl) rfl rfl hl41.1 rfl (lv_room (Nat.le_of_ble_eq_true rfl)) dX0_readNumber_93 ⟨Nat.zero_le _, Nat.zero_le _⟩) (fun H76 lc76 hP76 hD76 hS76 => ?_); clear sb75 hcl74
        clear hP38 hD38 hS38
        have hP76 : va_P D vwCl (wf [aQ (r0 4) cQ r0, aI (r1 1) cB 6000 t_bytes, oB (r0 0) 0 [.ref (r0 1), .ref (r0 2), .ref (r0 3), .ref (r0 4), .ref (r0 5), .ref (r0 6), .int f_columns, .int f_rows, .int f_scale, .int f_toEnd, .int f_between, .int f_kept], aI (r0 5) cI 36 f_places_72, oB (r1 0) 4 [.ref (r1 1), .int t_size, .int t_position_34, .int t_fault_73]] [rowsW cI r0 f_grid]) H76 := hP76
        have hD76 : va_D A (wf [aQ (r0 4) cQ r0, aI (r1 1) cB 6000 t_bytes, oB (r0 0) 0 [.ref (r0 1), .ref (r0 2), .ref (r0 3), .ref (r0 4), .ref (r0 5), .ref (r0 6), .int f_columns, .int f_rows, .int f_scale, .int f_toEnd, .int f_between, .int f_kept], aI (r0 5) cI 36 f_places_72, oB (r1 0) 4 [.ref (r1 1), .int t_size, .int t_position_34, .int t_fault_73]] [rowsW cI r0 f_grid]) := hD76
        refine lv_goto (tgt := 147) hx hb dX0_readNumber_96 (by decide) ?_
        obtain ⟨hP77, hD77⟩ := ct_ord [2, 0, 3, 4, 1] [0] hP76 hD76 rfl rfl rfl rfl
        have hS77 := hS76
        have hP77 : va_P D vwCl (wf [oB (r0 0) 0 [.ref (r0 1), .ref (r0 2), .ref (r0 3), .ref (r0 4), .ref (r0 5), .ref (r0 6), .int f_columns, .int f_rows, .int f_scale, .int f_toEnd, .int f_between, .int f_kept], aQ (r0 4) cQ r0, aI (r0 5) cI 36 f_places_72, oB (r1 0) 4 [.ref (r1 1), .int t_size, .int t_position_34, .int t_fault_73], aI (r1 1) cB 6000 t_bytes] [rowsW cI r0 f_grid]) H76 := hP77
        have hD77 : va_D A (wf [oB (r0 0) 0 [.ref (r0 1), .ref (r0 2), .ref (r0 3), .ref (r0 4), .ref (r0 5), .ref (r0 6), .int f_columns, .int f_rows, .int f_scale, .int f_toEnd, .int f_between, .int f_kept], aQ (r0 4) cQ r0, aI (r0 5) cI 36 f_places_72, oB (r1 0) 4 [.ref (r1 1), .int t_size, .int t_position_34, .int t_fault_73], aI (r1 1) cB 6000 t_bytes] [rowsW cI r0 f_grid]) := hD77
        obtain rfl := Option.some.inj hm74
        rw [hQ]
        exact ct_vret hx hb hr hlk hP77 hD77 hS77 dX0_readNumber_147
    refine lv_if_eq (tgt := 36) hx hb dX0_readNumber_21 (by decide) (fun hc78 => ?_) (fun hc78 => ?_)
    · have hm79 := bq_t hm8 hc78; clear hm8
      refine lv_iconst (v := 1) hx hb dX0_readNumber_36 (by decide) ?_
      exact KJ8 t_position t_fault (1 : Int32) _ _ _ hm79 hP4 hD4 hS4 (lv_sub hl6 [1, 2, 3, 4] rfl)
    · have hm80 := bq_f hm8 hc78; clear hm8
      refine lv_aload_n hx hb dX0_readNumber_24 rfl (lv_at hl6 2 rfl) ?_
      obtain ⟨y_81, t_position_82, t_fault_83, hcl84, hm84⟩ := bd3_some hm80; clear hm80
      have sb85 := ctS.mk (pre := [oB (r0 0) 0 [.ref (r0 1), .ref (r0 2), .ref (r0 3), .ref (r0 4), .ref (r0 5), .ref (r0 6), .int f_columns, .int f_rows, .int f_scale, .int f_toEnd, .int f_between, .int f_kept], aQ (r0 4) cQ r0, aI (r0 5) cI 36 f_places, oB (r1 0) 4 [.ref (r1 1), .int t_size, .int t_position, .int t_fault], aI (r1 1) cB 6000 t_bytes]) (tl := [rowsW cI r0 f_grid]) [3, 4] [0, 1, 2] [] [0] rfl rfl rfl rfl
      refine ct_calli (r := y_81) E sb85 hP4 hD4 hS4 (va_runV (As := []) (rest := []) ⟨hx, hb, hml, hown, hts⟩ (c_X4_bit l D cB cI cJ cQ N r1 H4.size t_size t_position t_fault t_bytes (y_81, t_position_82, t_fault_83) hcl84) (cwV 0 hts gX0_readNumber_X4_bit rfl rfl rfl cdV_X4_bit ⟨Nat.le_of_ble_eq_true rfl, Nat.le_of_ble_eq_true rfl⟩) (ct_preV (q0 := 3) (ci := 4) E sb85 hP4 hD4 hS4 rfl rfl) rfl rfl hl6.1 rfl (lv_room (Nat.le_of_ble_eq_true rfl)) dX0_readNumber_25 ⟨Nat.zero_le _, Nat.zero_le _⟩) (fun H86 lc86 hP86 hD86 hS86 => ?_); clear sb85 hcl84
      clear hP4 hD4 hS4
      have hP86 : va_P D vwCl (wf [oB (r0 0) 0 [.ref (r0 1), .ref (r0 2), .ref (r0 3), .ref (r0 4), .ref (r0 5), .ref (r0 6), .int f_columns, .int f_rows, .int f_scale, .int f_toEnd, .int f_between, .int f_kept], aQ (r0 4) cQ r0, aI (r0 5) cI 36 f_places, oB (r1 0) 4 [.ref (r1 1), .int t_size, .int t_position_82, .int t_fault_83], aI (r1 1) cB 6000 t_bytes] [rowsW cI r0 f_grid]) H86 := hP86
      have hD86 : va_D A (wf [oB (r0 0) 0 [.ref (r0 1), .ref (r0 2), .ref (r0 3), .ref (r0 4), .ref (r0 5), .ref (r0 6), .int f_columns, .int f_rows, .int f_scale, .int f_toEnd, .int f_between, .int f_kept], aQ (r0 4) cQ r0, aI (r0 5) cI 36 f_places, oB (r1 0) 4 [.ref (r1 1), .int t_size, .int t_position_82, .int t_fault_83], aI (r1 1) cB 6000 t_bytes] [rowsW cI r0 f_grid]) := hD86
      refine lv_iconst (v := 1) hx hb dX0_readNumber_28 (by decide) ?_
      refine lv_icmp_ne (tgt := 36) hx hb dX0_readNumber_29 (by decide) (fun hc87 => ?_) (fun hc87 => ?_)
      · have hm88 := bq_f hm84 hc87; clear hm84
        refine lv_iconst (v := 1) hx hb dX0_readNumber_36 (by decide) ?_
        exact KJ8 t_position_82 t_fault_83 (1 : Int32) _ _ _ hm88 hP86 hD86 hS86 (lv_sub hl6 [1, 2, 3, 4] rfl)
      · have hm89 := bq_t hm84 hc87; clear hm84
        refine lv_iconst (v := -1) hx hb dX0_readNumber_32 (by decide) ?_
        refine lv_goto (tgt := 37) hx hb dX0_readNumber_33 (by decide) ?_
        exact KJ8 t_position_82 t_fault_83 (-1 : Int32) _ _ _ hm89 hP86 hD86 hS86 (lv_sub hl6 [1, 2, 3, 4] rfl)
  refine lv_icmp_lt (tgt := 16) hx hb dX0_readNumber_3 (by decide) (fun hc90 => ?_) (fun hc90 => ?_)
  · have hm91 := bq_t hm2 hc90; clear hm2
    refine lv_iconst (v := 0) hx hb dX0_readNumber_16 (by decide) ?_
    exact KJ2 (0 : Int32) _ _ _ hm91 hP0 hD0 hS0 (lv_sub hl0 [0, 1, 2, 3] rfl)
  · have hm92 := bq_f hm2 hc90; clear hm2
    refine lv_iload_n hx hb dX0_readNumber_6 rfl (lv_at hl0 2 rfl) ?_
    refine lv_bipush (v := 29) hx hb dX0_readNumber_7 (by decide) ?_
    refine lv_icmp_gt (tgt := 16) hx hb dX0_readNumber_9 (by decide) (fun hc93 => ?_) (fun hc93 => ?_)
    · have hm94 := bq_t hm92 hc93; clear hm92
      refine lv_iconst (v := 0) hx hb dX0_readNumber_16 (by decide) ?_
      exact KJ2 (0 : Int32) _ _ _ hm94 hP0 hD0 hS0 (lv_sub hl0 [0, 1, 2, 3] rfl)
    · have hm95 := bq_f hm92 hc93; clear hm92
      refine lv_iconst (v := 1) hx hb dX0_readNumber_12 (by decide) ?_
      refine lv_goto (tgt := 17) hx hb dX0_readNumber_13 (by decide) ?_
      exact KJ2 (1 : Int32) _ _ _ hm95 hP0 hD0 hS0 (lv_sub hl0 [0, 1, 2, 3] rfl)

def f_X0_goOn (x3 : Int32) (f_toEnd : Int32) (f_places : Nat → Int32) (f_grid : Nat → Nat → Int32) (t_size : Int32) (t_position : Int32) (t_fault : Int32) (t_bytes : Nat → Int32) (e_root : Int32) (e_branches : Nat → Int32) : Option (Int32 × (Nat → Int32) × (Nat → Nat → Int32) × Int32 × Int32) :=
  (if f_toEnd ≤ (0 : Int32) then
  (bd3 (f_X5_readToken e_root e_branches t_size t_position t_fault t_bytes) fun y_3 t_position_4 t_fault_5 =>
  (if (4 : Int32) < y_3 then
  (bd4 (f_X0_readNumber y_3 x3 f_places f_grid t_size t_position_4 t_fault_5 t_bytes) fun f_places_12 f_grid_13 t_position_14 t_fault_15 =>
  some (f_toEnd, f_places_12, f_grid_13, t_position_14, t_fault_15))
  else
  (gi y_3 5 <|
  gi y_3 5 <|
  bd3 (f_X4_number (sENDING_BITS y_3.toNatClampNeg) t_size t_position_4 t_fault_5 t_bytes) fun y_25 t_position_26 t_fault_27 =>
  nm (((sENDING y_3.toNatClampNeg) + y_25) : Int32) fun f_toEnd_31 =>
  gi x3 36 <|
  nm (upd f_places x3.toNatClampNeg (64 : Int32) : Nat → Int32) fun f_places_35 =>
  some (f_toEnd_31, f_places_35, f_grid, t_position_26, t_fault_27))))
  else
  (nm ((f_toEnd - (1 : Int32)) : Int32) fun f_toEnd_40 =>
  gi x3 36 <|
  nm (upd f_places x3.toNatClampNeg (64 : Int32) : Nat → Int32) fun f_places_44 =>
  some (f_toEnd_40, f_places_44, f_grid, t_position, t_fault)))

abbrev rm_X0_goOn : Room := { frames := 4, cells := 0, slots := 0, locals := 92 }

theorem cdS_X0_goOn : yX0_goOn.cls ≠ "java/lang/invoke/MethodHandle" ∧ yX0_goOn.cls ≠ "java/lang/invoke/VarHandle" ∧ (parseMethodDescriptor yX0_goOn.desc).map (fun d => d.parameters.length) = some 3 := by decide +kernel

theorem cdV_X0_goOn : yX0_goOn.cls = RX0 ∧ yX0_goOn.cls ≠ "java/lang/invoke/MethodHandle" ∧ yX0_goOn.cls ≠ "java/lang/invoke/VarHandle" ∧ (parseMethodDescriptor yX0_goOn.desc).map (fun d => d.parameters.length) = some 3 := ⟨rfl, cdS_X0_goOn⟩

theorem hi_X0_goOn_0 : ∀ w ∈ u_ws RX0 TX0 12, w ∈ wsX0_goOn := fun _ h => List.mem_cons_of_mem _ (List.mem_append_left _ (List.mem_append_left _ (List.mem_append_right _ h)))

set_option maxHeartbeats 40000000 in
set_option maxRecDepth 100000 in
theorem c_X0_goOn (l : Launch) (D : va_G) (cB cI cJ cQ : ClassId) (N : Nat) (r0 : Nat → Nat) (r1 : Nat → Nat) (r2 : Nat → Nat) (sz : Nat) (x3 : Int32) (f_columns : Int32) (f_rows : Int32) (f_scale : Int32) (f_toEnd : Int32) (f_between : Int32) (f_kept : Int32) (f_places : Nat → Int32) (t_size : Int32) (t_position : Int32) (t_fault : Int32) (t_bytes : Nat → Int32) (e_nodeCount : Int32) (e_tokenCount : Int32) (e_root : Int32) (e_branches : Nat → Int32) (f_grid : Nat → Nat → Int32) (o : Int32 × (Nat → Int32) × (Nat → Nat → Int32) × Int32 × Int32) (hm0 : f_X0_goOn x3 f_toEnd f_places f_grid t_size t_position t_fault t_bytes e_root e_branches = some o) : Met l yX0_goOn wsX0_goOn rm_X0_goOn (ctP D cB cI cJ cQ N sz [.ref (r0 0), .ref (r1 0), .ref (r2 0), .int x3] (wf [oB (r0 0) 0 [.ref (r0 1), .ref (r0 2), .ref (r0 3), .ref (r0 4), .ref (r0 5), .ref (r0 6), .int f_columns, .int f_rows, .int f_scale, .int f_toEnd, .int f_between, .int f_kept], aQ (r0 4) cQ r0, aI (r0 5) cI 36 f_places, oB (r1 0) 4 [.ref (r1 1), .int t_size, .int t_position, .int t_fault], aI (r1 1) cB 6000 t_bytes, oB (r2 0) 5 [.ref (r2 1), .int e_nodeCount, .int e_tokenCount, .int e_root], aI (r2 1) cI 88 e_branches] [rowsW cI r0 f_grid])) (ctQv D (wf [oB (r0 0) 0 [.ref (r0 1), .ref (r0 2), .ref (r0 3), .ref (r0 4), .ref (r0 5), .ref (r0 6), .int f_columns, .int f_rows, .int f_scale, .int (o.1), .int f_between, .int f_kept], aQ (r0 4) cQ r0, aI (r0 5) cI 36 (o.2.1), oB (r1 0) 4 [.ref (r1 1), .int t_size, .int (o.2.2.2.1), .int (o.2.2.2.2)], aI (r1 1) cB 6000 t_bytes, oB (r2 0) 5 [.ref (r2 1), .int e_nodeCount, .int e_tokenCount, .int e_root], aI (r2 1) cI 88 e_branches] [rowsW cI r0 (o.2.2.1)]) (va_A (wf [oB (r0 0) 0 [.ref (r0 1), .ref (r0 2), .ref (r0 3), .ref (r0 4), .ref (r0 5), .ref (r0 6), .int f_columns, .int f_rows, .int f_scale, .int f_toEnd, .int f_between, .int f_kept], aQ (r0 4) cQ r0, aI (r0 5) cI 36 f_places, oB (r1 0) 4 [.ref (r1 1), .int t_size, .int t_position, .int t_fault], aI (r1 1) cB 6000 t_bytes, oB (r2 0) 5 [.ref (r2 1), .int e_nodeCount, .int e_tokenCount, .int e_root], aI (r2 1) cI 88 e_branches] [rowsW cI r0 f_grid]) sz)) 0 0 (va_A (wf [oB (r0 0) 0 [.ref (r0 1), .ref (r0 2), .ref (r0 3), .ref (r0 4), .ref (r0 5), .ref (r0 6), .int f_columns, .int f_rows, .int f_scale, .int f_toEnd, .int f_between, .int f_kept], aQ (r0 4) cQ r0, aI (r0 5) cI 36 f_places, oB (r1 0) 4 [.ref (r1 1), .int t_size, .int t_position, .int t_fault], aI (r1 1) cB 6000 t_bytes, oB (r2 0) 5 [.ref (r2 1), .int e_nodeCount, .int e_tokenCount, .int e_root], aI (r2 1) cI 88 e_branches] [rowsW cI r0 f_grid]) sz) := by
  refine ct_of (cc := cX0_goOn) (maxL := 5) (ret := none) (own := RX0) (Qp := ctQv D (wf [oB (r0 0) 0 [.ref (r0 1), .ref (r0 2), .ref (r0 3), .ref (r0 4), .ref (r0 5), .ref (r0 6), .int f_columns, .int f_rows, .int f_scale, .int (o.1), .int f_between, .int f_kept], aQ (r0 4) cQ r0, aI (r0 5) cI 36 (o.2.1), oB (r1 0) 4 [.ref (r1 1), .int t_size, .int (o.2.2.2.1), .int (o.2.2.2.2)], aI (r1 1) cB 6000 t_bytes, oB (r2 0) 5 [.ref (r2 1), .int e_nodeCount, .int e_tokenCount, .int e_root], aI (r2 1) cI 88 e_branches] [rowsW cI r0 (o.2.2.1)])) (by decide) rfl rfl (Nat.le_of_ble_eq_true rfl) ?_
  intro p e s m args below meth c A hx hb hr hml hown hts hlk hnm hsz hAe E hP0 hD0 hS0 ls0 hl0
  subst hsz
  have hl0 : lv_has ls0 5 [(0, .ref (r0 0)), (1, .ref (r1 0)), (2, .ref (r2 0)), (3, .int x3)] := hl0
  obtain ⟨QQ, hQ⟩ : ∃ Q : State → Prop, Q = MQ below (ctQv D (wf [oB (r0 0) 0 [.ref (r0 1), .ref (r0 2), .ref (r0 3), .ref (r0 4), .ref (r0 5), .ref (r0 6), .int f_columns, .int f_rows, .int f_scale, .int (o.1), .int f_between, .int f_kept], aQ (r0 4) cQ r0, aI (r0 5) cI 36 (o.2.1), oB (r1 0) 4 [.ref (r1 1), .int t_size, .int (o.2.2.2.1), .int (o.2.2.2.2)], aI (r1 1) cB 6000 t_bytes, oB (r2 0) 5 [.ref (r2 1), .int e_nodeCount, .int e_tokenCount, .int e_root], aI (r2 1) cI 88 e_branches] [rowsW cI r0 (o.2.2.1)]) A) args s 0 0 A := ⟨_, rfl⟩
  rw [← hQ]
  unfold f_X0_goOn at hm0
  refine lv_aload_n hx hb dX0_goOn_0 rfl (lv_at hl0 0 rfl) ?_
  refine va_get (D := D) (ci := 0) (v := .int f_toEnd) (C := RX0) (T := TX0) (N := 12) hx hb hts hi_X0_goOn_0 hown E.1 hP0 0 rfl rfl 9 (by decide) (hts _ (List.mem_of_getElem? (i := 1) rfl)) (fun _ h9 => h9) rfl dX0_goOn_1 ?_
  refine lv_if_le (tgt := 26) hx hb dX0_goOn_4 (by decide) (fun hc1 => ?_) (fun hc1 => ?_)
  · have hm2 := bq_t hm0 hc1; clear hm0
    refine lv_aload_n hx hb dX0_goOn_26 rfl (lv_at hl0 2 rfl) ?_
    refine lv_aload_n hx hb dX0_goOn_27 rfl (lv_at hl0 1 rfl) ?_
    obtain ⟨y_3, t_position_4, t_fault_5, hcl6, hm6⟩ := bd3_some hm2; clear hm2
    have sb7 := ctS.mk (pre := [oB (r0 0) 0 [.ref (r0 1), .ref (r0 2), .ref (r0 3), .ref (r0 4), .ref (r0 5), .ref (r0 6), .int f_columns, .int f_rows, .int f_scale, .int f_toEnd, .int f_between, .int f_kept], aQ (r0 4) cQ r0, aI (r0 5) cI 36 f_places, oB (r1 0) 4 [.ref (r1 1), .int t_size, .int t_position, .int t_fault], aI (r1 1) cB 6000 t_bytes, oB (r2 0) 5 [.ref (r2 1), .int e_nodeCount, .int e_tokenCount, .int e_root], aI (r2 1) cI 88 e_branches]) (tl := [rowsW cI r0 f_grid]) [5, 6, 3, 4] [0, 1, 2] [] [0] rfl rfl rfl rfl
    refine ct_calli (r := y_3) E sb7 hP0 hD0 hS0 (va_runV (As := [.ref (r1 0)]) (rest := []) ⟨hx, hb, hml, hown, hts⟩ (c_X5_readToken l D cB cI cJ cQ N r2 r1 s.heap.size e_nodeCount e_tokenCount e_root e_branches t_size t_position t_fault t_bytes (y_3, t_position_4, t_fault_5) hcl6) (cwV 1 hts gX0_goOn_X5_readToken rfl rfl rfl cdV_X5_readToken ⟨Nat.le_of_ble_eq_true rfl, Nat.le_of_ble_eq_true rfl⟩) (ct_preV (q0 := 5) (ci := 5) E sb7 hP0 hD0 hS0 rfl rfl) rfl rfl hl0.1 rfl (lv_room (Nat.le_of_ble_eq_true rfl)) dX0_goOn_28 ⟨Nat.zero_le _, Nat.zero_le _⟩) (fun H8 lc8 hP8 hD8 hS8 => ?_); clear sb7 hcl6
    clear hP0 hD0 hS0
    have hP8 : va_P D vwCl (wf [oB (r0 0) 0 [.ref (r0 1), .ref (r0 2), .ref (r0 3), .ref (r0 4), .ref (r0 5), .ref (r0 6), .int f_columns, .int f_rows, .int f_scale, .int f_toEnd, .int f_between, .int f_kept], aQ (r0 4) cQ r0, aI (r0 5) cI 36 f_places, oB (r2 0) 5 [.ref (r2 1), .int e_nodeCount, .int e_tokenCount, .int e_root], aI (r2 1) cI 88 e_branches, oB (r1 0) 4 [.ref (r1 1), .int t_size, .int t_position_4, .int t_fault_5], aI (r1 1) cB 6000 t_bytes] [rowsW cI r0 f_grid]) H8 := hP8
    have hD8 : va_D A (wf [oB (r0 0) 0 [.ref (r0 1), .ref (r0 2), .ref (r0 3), .ref (r0 4), .ref (r0 5), .ref (r0 6), .int f_columns, .int f_rows, .int f_scale, .int f_toEnd, .int f_between, .int f_kept], aQ (r0 4) cQ r0, aI (r0 5) cI 36 f_places, oB (r2 0) 5 [.ref (r2 1), .int e_nodeCount, .int e_tokenCount, .int e_root], aI (r2 1) cI 88 e_branches, oB (r1 0) 4 [.ref (r1 1), .int t_size, .int t_position_4, .int t_fault_5], aI (r1 1) cB 6000 t_bytes] [rowsW cI r0 f_grid]) := hD8
    refine lv_istore (lv' := [(4, .int y_3), (0, .ref (r0 0)), (1, .ref (r1 0)), (2, .ref (r2 0)), (3, .int x3)]) hx hb dX0_goOn_31 hl0 (by decide) rfl (fun ls9 hl9 => ?_); clear hl0
    refine lv_iload hx hb dX0_goOn_33 (lv_at hl9 0 rfl) ?_
    refine lv_iconst (v := 4) hx hb dX0_goOn_35 (by decide) ?_
    refine lv_icmp_gt (tgt := 71) hx hb dX0_goOn_36 (by decide) (fun hc10 => ?_) (fun hc10 => ?_)
    · have hm11 := bq_t hm6 hc10; clear hm6
      refine lv_aload_n hx hb dX0_goOn_71 rfl (lv_at hl9 1 rfl) ?_
      refine lv_aload_n hx hb dX0_goOn_72 rfl (lv_at hl9 2 rfl) ?_
      refine lv_iload hx hb dX0_goOn_73 (lv_at hl9 0 rfl) ?_
      refine lv_iload_n hx hb dX0_goOn_75 rfl (lv_at hl9 4 rfl) ?_
      obtain ⟨f_places_12, f_grid_13, t_position_14, t_fault_15, hcl16, hm16⟩ := bd4_some hm11; clear hm11
      have sb17 := ctS.mk (pre := [oB (r0 0) 0 [.ref (r0 1), .ref (r0 2), .ref (r0 3), .ref (r0 4), .ref (r0 5), .ref (r0 6), .int f_columns, .int f_rows, .int f_scale, .int f_toEnd, .int f_between, .int f_kept], aQ (r0 4) cQ r0, aI (r0 5) cI 36 f_places, oB (r2 0) 5 [.ref (r2 1), .int e_nodeCount, .int e_tokenCount, .int e_root], aI (r2 1) cI 88 e_branches, oB (r1 0) 4 [.ref (r1 1), .int t_size, .int t_position_4, .int t_fault_5], aI (r1 1) cB 6000 t_bytes]) (tl := [rowsW cI r0 f_grid]) [0, 1, 2, 5, 6] [3, 4] [0] [] rfl rfl rfl rfl
      refine ct_callv E sb17 hP8 hD8 hS8 (va_runV (As := [.ref (r1 0), .int y_3, .int x3]) (rest := []) ⟨hx, hb, hml, hown, hts⟩ (c_X0_readNumber l D cB cI cJ cQ N r0 r1 H8.size y_3 x3 f_columns f_rows f_scale f_toEnd f_between f_kept f_places t_size t_position_4 t_fault_5 t_bytes f_grid (f_places_12, f_grid_13, t_position_14, t_fault_15) hcl16) (cwV 3 hts gX0_goOn_X0_readNumber rfl rfl rfl cdV_X0_readNumber ⟨Nat.le_of_ble_eq_true rfl, Nat.le_of_ble_eq_true rfl⟩) (ct_preV (q0 := 0) (ci := 0) E sb17 hP8 hD8 hS8 rfl rfl) rfl rfl hl9.1 rfl (lv_room (Nat.le_of_ble_eq_true rfl)) dX0_goOn_76 ⟨Nat.zero_le _, Nat.zero_le _⟩) (fun H18 lc18 hP18 hD18 hS18 => ?_); clear sb17 hcl16
      clear hP8 hD8 hS8
      have hP18 : va_P D vwCl (wf [oB (r2 0) 5 [.ref (r2 1), .int e_nodeCount, .int e_tokenCount, .int e_root], aI (r2 1) cI 88 e_branches, oB (r0 0) 0 [.ref (r0 1), .ref (r0 2), .ref (r0 3), .ref (r0 4), .ref (r0 5), .ref (r0 6), .int f_columns, .int f_rows, .int f_scale, .int f_toEnd, .int f_between, .int f_kept], aQ (r0 4) cQ r0, aI (r0 5) cI 36 f_places_12, oB (r1 0) 4 [.ref (r1 1), .int t_size, .int t_position_14, .int t_fault_15], aI (r1 1) cB 6000 t_bytes] [rowsW cI r0 f_grid_13]) H18 := hP18
      have hD18 : va_D A (wf [oB (r2 0) 5 [.ref (r2 1), .int e_nodeCount, .int e_tokenCount, .int e_root], aI (r2 1) cI 88 e_branches, oB (r0 0) 0 [.ref (r0 1), .ref (r0 2), .ref (r0 3), .ref (r0 4), .ref (r0 5), .ref (r0 6), .int f_columns, .int f_rows, .int f_scale, .int f_toEnd, .int f_between, .int f_kept], aQ (r0 4) cQ r0, aI (r0 5) cI 36 f_places_12, oB (r1 0) 4 [.ref (r1 1), .int t_size, .int t_position_14, .int t_fault_15], aI (r1 1) cB 6000 t_bytes] [rowsW cI r0 f_grid_13]) := hD18
      obtain ⟨hP19, hD19⟩ := ct_ord [2, 3, 4, 5, 6, 0, 1] [0] hP18 hD18 rfl rfl rfl rfl
      have hS19 := hS18
      have hP19 : va_P D vwCl (wf [oB (r0 0) 0 [.ref (r0 1), .ref (r0 2), .ref (r0 3), .ref (r0 4), .ref (r0 5), .ref (r0 6), .int f_columns, .int f_rows, .int f_scale, .int f_toEnd, .int f_between, .int f_kept], aQ (r0 4) cQ r0, aI (r0 5) cI 36 f_places_12, oB (r1 0) 4 [.ref (r1 1), .int t_size, .int t_position_14, .int t_fault_15], aI (r1 1) cB 6000 t_bytes, oB (r2 0) 5 [.ref (r2 1), .int e_nodeCount, .int e_tokenCount, .int e_root], aI (r2 1) cI 88 e_branches] [rowsW cI r0 f_grid_13]) H18 := hP19
      have hD19 : va_D A (wf [oB (r0 0) 0 [.ref (r0 1), .ref (r0 2), .ref (r0 3), .ref (r0 4), .ref (r0 5), .ref (r0 6), .int f_columns, .int f_rows, .int f_scale, .int f_toEnd, .int f_between, .int f_kept], aQ (r0 4) cQ r0, aI (r0 5) cI 36 f_places_12, oB (r1 0) 4 [.ref (r1 1), .int t_size, .int t_position_14, .int t_fault_15], aI (r1 1) cB 6000 t_bytes, oB (r2 0) 5 [.ref (r2 1), .int e_nodeCount, .int e_tokenCount, .int e_root], aI (r2 1) cI 88 e_branches] [rowsW cI r0 f_grid_13]) := hD19
      obtain rfl := Option.some.inj hm16
      rw [hQ]
      exact ct_vret hx hb hr hlk hP19 hD19 hS19 dX0_goOn_79
    · have hm20 := bq_f hm6 hc10; clear hm6
      refine lv_aload_n hx hb dX0_goOn_39 rfl (lv_at hl9 1 rfl) ?_
      obtain ⟨sa21, hz21, hn21, hl21_, hxx21⟩ := E.2.1.2.1
      refine va_gets hx hb (hz21.narrow E.2.2.2.1) hS8 hown (hts _ (List.mem_of_getElem? (i := 3) rfl)) (fun _ h9 => h9) dX0_goOn_40 ?_
      refine lv_iload hx hb dX0_goOn_43 (lv_at hl9 0 rfl) ?_
      obtain ⟨hin22, hm22⟩ := gi_some hm20; clear hm20
      refine va_sld hx hb hxx21 hl21_ (fun h => absurd (E.2.2.2.1 _ h) (Nat.not_le.mpr hn21)) hS8 hin22 dX0_goOn_45 ?_
      refine lv_aload_n hx hb dX0_goOn_46 rfl (lv_at hl9 2 rfl) ?_
      obtain ⟨sa23, hz23, hn23, hl23_, hxx23⟩ := E.2.1.2.2.1
      refine va_gets hx hb (hz23.narrow E.2.2.2.1) hS8 hown (hts _ (List.mem_of_getElem? (i := 4) rfl)) (fun _ h9 => h9) dX0_goOn_47 ?_
      refine lv_iload hx hb dX0_goOn_50 (lv_at hl9 0 rfl) ?_
      obtain ⟨hin24, hm24⟩ := gi_some hm22; clear hm22
      refine va_sld hx hb hxx23 hl23_ (fun h => absurd (E.2.2.2.1 _ h) (Nat.not_le.mpr hn23)) hS8 hin24 dX0_goOn_52 ?_
      obtain ⟨y_25, t_position_26, t_fault_27, hcl28, hm28⟩ := bd3_some hm24; clear hm24
      have sb29 := ctS.mk (pre := [oB (r0 0) 0 [.ref (r0 1), .ref (r0 2), .ref (r0 3), .ref (r0 4), .ref (r0 5), .ref (r0 6), .int f_columns, .int f_rows, .int f_scale, .int f_toEnd, .int f_between, .int f_kept], aQ (r0 4) cQ r0, aI (r0 5) cI 36 f_places, oB (r2 0) 5 [.ref (r2 1), .int e_nodeCount, .int e_tokenCount, .int e_root], aI (r2 1) cI 88 e_branches, oB (r1 0) 4 [.ref (r1 1), .int t_size, .int t_position_4, .int t_fault_5], aI (r1 1) cB 6000 t_bytes]) (tl := [rowsW cI r0 f_grid]) [5, 6] [0, 1, 2, 3, 4] [] [0] rfl rfl rfl rfl
      refine ct_calli (r := y_25) E sb29 hP8 hD8 hS8 (va_runV (As := [.int (sENDING_BITS y_3.toNatClampNeg)]) (rest := [.int (sENDING y_3.toNatClampNeg), .ref (r0 0)]) ⟨hx, hb, hml, hown, hts⟩ (c_X4_number l D cB cI cJ cQ N r1 H8.size (sENDING_BITS y_3.toNatClampNeg) t_size t_position_4 t_fault_5 t_bytes (y_25, t_position_26, t_fault_27) hcl28) (cwV 1 hts gX0_goOn_X4_number rfl rfl rfl cdV_X4_number ⟨Nat.le_of_ble_eq_true rfl, Nat.le_of_ble_eq_true rfl⟩) (ct_preV (q0 := 5) (ci := 4) E sb29 hP8 hD8 hS8 rfl rfl) rfl rfl hl9.1 rfl (lv_room (Nat.le_of_ble_eq_true rfl)) dX0_goOn_53 ⟨Nat.zero_le _, Nat.zero_le _⟩) (fun H30 lc30 hP30 hD30 hS30 => ?_); clear sb29 hcl28
      clear hP8 hD8 hS8
      have hP30 : va_P D vwCl (wf [oB (r0 0) 0 [.ref (r0 1), .ref (r0 2), .ref (r0 3), .ref (r0 4), .ref (r0 5), .ref (r0 6), .int f_columns, .int f_rows, .int f_scale, .int f_toEnd, .int f_between, .int f_kept], aQ (r0 4) cQ r0, aI (r0 5) cI 36 f_places, oB (r2 0) 5 [.ref (r2 1), .int e_nodeCount, .int e_tokenCount, .int e_root], aI (r2 1) cI 88 e_branches, oB (r1 0) 4 [.ref (r1 1), .int t_size, .int t_position_26, .int t_fault_27], aI (r1 1) cB 6000 t_bytes] [rowsW cI r0 f_grid]) H30 := hP30
      have hD30 : va_D A (wf [oB (r0 0) 0 [.ref (r0 1), .ref (r0 2), .ref (r0 3), .ref (r0 4), .ref (r0 5), .ref (r0 6), .int f_columns, .int f_rows, .int f_scale, .int f_toEnd, .int f_between, .int f_kept], aQ (r0 4) cQ r0, aI (r0 5) cI 36 f_places, oB (r2 0) 5 [.ref (r2 1), .int e_nodeCount, .int e_tokenCount, .int e_root], aI (r2 1) cI 88 e_branches, oB (r1 0) 4 [.ref (r1 1), .int t_size, .int t_position_26, .int t_fault_27], aI (r1 1) cB 6000 t_bytes] [rowsW cI r0 f_grid]) := hD30
      refine lv_iadd hx hb dX0_goOn_56 ?_
      obtain ⟨f_toEnd_31, ef_toEnd_31, hm32⟩ := nm_some hm28; clear hm28
      refine ct_topi ef_toEnd_31 ?_
      refine ct_put (D := D) (ci := 0) (v := .int f_toEnd_31) (ty := .int) (C := RX0) (T := TX0) (N := 12) (ws' := (wf [oB (r0 0) 0 [.ref (r0 1), .ref (r0 2), .ref (r0 3), .ref (r0 4), .ref (r0 5), .ref (r0 6), .int f_columns, .int f_rows, .int f_scale, .int f_toEnd_31, .int f_between, .int f_kept], aQ (r0 4) cQ r0, aI (r0 5) cI 36 f_places, oB (r2 0) 5 [.ref (r2 1), .int e_nodeCount, .int e_tokenCount, .int e_root], aI (r2 1) cI 88 e_branches, oB (r1 0) 4 [.ref (r1 1), .int t_size, .int t_position_26, .int t_fault_27], aI (r1 1) cB 6000 t_bytes] [rowsW cI r0 f_grid])) hx hb hts hi_X0_goOn_0 tyX0 tyX0_ok nmX0 hown E.1 hP30 hD30 hS30 0 rfl rfl 9 (by decide) (hts _ (List.mem_of_getElem? (i := 1) rfl)) (fun _ h9 => h9) rfl (by decide +kernel) rfl rfl (Nat.le_of_ble_eq_true rfl) rfl dX0_goOn_57 (fun H33 lc33 hP33 hD33 hS33 => ?_)
      clear hP30 hD30 hS30
      refine lv_aload_n hx hb dX0_goOn_60 rfl (lv_at hl9 1 rfl) ?_
      refine va_get (D := D) (ci := 0) (v := .ref (r0 5)) (C := RX0) (T := TX0) (N := 12) hx hb hts hi_X0_goOn_0 hown E.1 hP33 0 rfl rfl 4 (by decide) (hts _ (List.mem_of_getElem? (i := 2) rfl)) (fun _ h9 => h9) rfl dX0_goOn_61 ?_
      refine lv_iload_n hx hb dX0_goOn_64 rfl (lv_at hl9 4 rfl) ?_
      refine lv_bipush (v := 64) hx hb dX0_goOn_65 (by decide) ?_
      obtain ⟨hin34, hm34⟩ := gi_some hm32; clear hm32
      obtain ⟨f_places_35, ef_places_35, hm36⟩ := nm_some hm34; clear hm34
      refine ct_iast (g := f_places_35) (ws' := (wf [oB (r0 0) 0 [.ref (r0 1), .ref (r0 2), .ref (r0 3), .ref (r0 4), .ref (r0 5), .ref (r0 6), .int f_columns, .int f_rows, .int f_scale, .int f_toEnd_31, .int f_between, .int f_kept], aQ (r0 4) cQ r0, aI (r0 5) cI 36 f_places_35, oB (r2 0) 5 [.ref (r2 1), .int e_nodeCount, .int e_tokenCount, .int e_root], aI (r2 1) cI 88 e_branches, oB (r1 0) 4 [.ref (r1 1), .int t_size, .int t_position_26, .int t_fault_27], aI (r1 1) cB 6000 t_bytes] [rowsW cI r0 f_grid])) hx hb E.1 hP33 hD33 hS33 2 0 rfl rfl hin34 ef_places_35 rfl dX0_goOn_67 (fun H37 lc37 hP37 hD37 hS37 => ?_)
      clear hP33 hD33 hS33
      refine lv_goto (tgt := 79) hx hb dX0_goOn_68 (by decide) ?_
      obtain ⟨hP38, hD38⟩ := ct_ord [0, 1, 2, 5, 6, 3, 4] [0] hP37 hD37 rfl rfl rfl rfl
      have hS38 := hS37
      have hP38 : va_P D vwCl (wf [oB (r0 0) 0 [.ref (r0 1), .ref (r0 2), .ref (r0 3), .ref (r0 4), .ref (r0 5), .ref (r0 6), .int f_columns, .int f_rows, .int f_scale, .int f_toEnd_31, .int f_between, .int f_kept], aQ (r0 4) cQ r0, aI (r0 5) cI 36 f_places_35, oB (r1 0) 4 [.ref (r1 1), .int t_size, .int t_position_26, .int t_fault_27], aI (r1 1) cB 6000 t_bytes, oB (r2 0) 5 [.ref (r2 1), .int e_nodeCount, .int e_tokenCount, .int e_root], aI (r2 1) cI 88 e_branches] [rowsW cI r0 f_grid]) H37 := hP38
      have hD38 : va_D A (wf [oB (r0 0) 0 [.ref (r0 1), .ref (r0 2), .ref (r0 3), .ref (r0 4), .ref (r0 5), .ref (r0 6), .int f_columns, .int f_rows, .int f_scale, .int f_toEnd_31, .int f_between, .int f_kept], aQ (r0 4) cQ r0, aI (r0 5) cI 36 f_places_35, oB (r1 0) 4 [.ref (r1 1), .int t_size, .int t_position_26, .int t_fault_27], aI (r1 1) cB 6000 t_bytes, oB (r2 0) 5 [.ref (r2 1), .int e_nodeCount, .int e_tokenCount, .int e_root], aI (r2 1) cI 88 e_branches] [rowsW cI r0 f_grid]) := hD38
      obtain rfl := Option.some.inj hm36
      rw [hQ]
      exact ct_vret hx hb hr hlk hP38 hD38 hS38 dX0_goOn_79
  · have hm39 := bq_f hm0 hc1; clear hm0
    refine lv_aload_n hx hb dX0_goOn_7 rfl (lv_at hl0 0 rfl) ?_
    refine lv_dup hx hb dX0_goOn_8 rfl ?_
    refine va_get (D := D) (ci := 0) (v := .int f_toEnd) (C := RX0) (T := TX0) (N := 12) hx hb hts hi_X0_goOn_0 hown E.1 hP0 0 rfl rfl 9 (by decide) (hts _ (List.mem_of_getElem? (i := 1) rfl)) (fun _ h9 => h9) rfl dX0_goOn_9 ?_
    refine lv_iconst (v := 1) hx hb dX0_goOn_12 (by decide) ?_
    refine lv_isub hx hb dX0_goOn_13 ?_
    obtain ⟨f_toEnd_40, ef_toEnd_40, hm41⟩ := nm_some hm39; clear hm39
    refine ct_topi ef_toEnd_40 ?_
    refine ct_put (D := D) (ci := 0) (v := .int f_toEnd_40) (ty := .int) (C := RX0) (T := TX0) (N := 12) (ws' := (wf [oB (r0 0) 0 [.ref (r0 1), .ref (r0 2), .ref (r0 3), .ref (r0 4), .ref (r0 5), .ref (r0 6), .int f_columns, .int f_rows, .int f_scale, .int f_toEnd_40, .int f_between, .int f_kept], aQ (r0 4) cQ r0, aI (r0 5) cI 36 f_places, oB (r1 0) 4 [.ref (r1 1), .int t_size, .int t_position, .int t_fault], aI (r1 1) cB 6000 t_bytes, oB (r2 0) 5 [.ref (r2 1), .int e_nodeCount, .int e_tokenCount, .int e_root], aI (r2 1) cI 88 e_branches] [rowsW cI r0 f_grid])) hx hb hts hi_X0_goOn_0 tyX0 tyX0_ok nmX0 hown E.1 hP0 hD0 hS0 0 rfl rfl 9 (by decide) (hts _ (List.mem_of_getElem? (i := 1) rfl)) (fun _ h9 => h9) rfl (by decide +kernel) rfl rfl (Nat.le_of_ble_eq_true rfl) rfl dX0_goOn_14 (fun H42 lc42 hP42 hD42 hS42 => ?_)
    clear hP0 hD0 hS0
    refine lv_aload_n hx hb dX0_goOn_17 rfl (lv_at hl0 0 rfl) ?_
    refine va_get (D := D) (ci := 0) (v := .ref (r0 5)) (C := RX0) (T := TX0) (N := 12) hx hb hts hi_X0_goOn_0 hown E.1 hP42 0 rfl rfl 4 (by decide) (hts _ (List.mem_of_getElem? (i := 2) rfl)) (fun _ h9 => h9) rfl dX0_goOn_18 ?_
    refine lv_iload_n hx hb dX0_goOn_21 rfl (lv_at hl0 3 rfl) ?_
    refine lv_bipush (v := 64) hx hb dX0_goOn_22 (by decide) ?_
    obtain ⟨hin43, hm43⟩ := gi_some hm41; clear hm41
    obtain ⟨f_places_44, ef_places_44, hm45⟩ := nm_some hm43; clear hm43
    refine ct_iast (g := f_places_44) (ws' := (wf [oB (r0 0) 0 [.ref (r0 1), .ref (r0 2), .ref (r0 3), .ref (r0 4), .ref (r0 5), .ref (r0 6), .int f_columns, .int f_rows, .int f_scale, .int f_toEnd_40, .int f_between, .int f_kept], aQ (r0 4) cQ r0, aI (r0 5) cI 36 f_places_44, oB (r1 0) 4 [.ref (r1 1), .int t_size, .int t_position, .int t_fault], aI (r1 1) cB 6000 t_bytes, oB (r2 0) 5 [.ref (r2 1), .int e_nodeCount, .int e_tokenCount, .int e_root], aI (r2 1) cI 88 e_branches] [rowsW cI r0 f_grid])) hx hb E.1 hP42 hD42 hS42 2 0 rfl rfl hin43 ef_places_44 rfl dX0_goOn_24 (fun H46 lc46 hP46 hD46 hS46 => ?_)
    clear hP42 hD42 hS42
    obtain rfl := Option.some.inj hm45
    rw [hQ]
    exact ct_vret hx hb hr hlk hP46 hD46 hS46 dX0_goOn_25

def f_X0_readTokens_L13 (f_modes : Nat → Int32) (v3_1 : Int32) : Nat → (Nat → Int32) → Int32 → Option ((Nat → Int32))
  | 0, _, _ => none
  | n + 1, f_places_6, v4_7 =>
  (if v3_1 ≤ v4_7 then
  (some (f_places_6))
  else
  (bd1 (f_X0_isCoded v4_7 f_modes) fun y_14 =>
  jn (fun (k19 : Int32 → Option ((Nat → Int32))) => (if y_14 = (0 : Int32) then
  (k19 (64 : Int32))
  else
  (k19 (0 : Int32)))) fun k0_20 =>
  gi v4_7 36 <|
  nm (upd f_places_6 v4_7.toNatClampNeg k0_20 : Nat → Int32) fun f_places_24 =>
  nm (v4_7 + (1 : Int32) : Int32) fun v4_27 =>
  f_X0_readTokens_L13 f_modes v3_1 n f_places_24 v4_27))

def f_X0_readTokens_L80 (t_size : Int32) (t_bytes : Nat → Int32) (h_h1_root : Int32) (h_h1_branches : Nat → Int32) (h_order : Nat → Int32) (v3_1 : Int32) (v4_45 : Int32) : Nat → Int32 → (Nat → Int32) → (Nat → Nat → Int32) → Int32 → Int32 → Int32 → Option (Int32 × (Nat → Int32) × (Nat → Nat → Int32) × Int32 × Int32)
  | 0, _, _, _, _, _, _ => none
  | n + 1, f_toEnd_67, f_places_68, f_grid_69, t_position_70, t_fault_71, v6_72 =>
  (if v3_1 ≤ v6_72 then
  (some (f_toEnd_67, f_places_68, f_grid_69, t_position_70, t_fault_71))
  else
  (bd1 (f_X1_ordered v6_72 h_order) fun y_79 =>
  gi y_79 36 <|
  jn (fun (k86 : Int32 → (Nat → Int32) → (Nat → Nat → Int32) → Int32 → Int32 → Option (Int32 × (Nat → Int32) × (Nat → Nat → Int32) × Int32 × Int32)) => (if (f_places_68 y_79.toNatClampNeg) = v4_45 then
  (bd5 (f_X0_goOn y_79 f_toEnd_67 f_places_68 f_grid_69 t_size t_position_70 t_fault_71 t_bytes h_h1_root h_h1_branches) fun f_toEnd_101 f_places_102 f_grid_103 t_position_104 t_fault_105 =>
  k86 f_toEnd_101 f_places_102 f_grid_103 t_position_104 t_fault_105)
  else
  (k86 f_toEnd_67 f_places_68 f_grid_69 t_position_70 t_fault_71))) fun f_toEnd_87 f_places_88 f_grid_89 t_position_90 t_fault_91 =>
  nm (v6_72 + (1 : Int32) : Int32) fun v6_94 =>
  f_X0_readTokens_L80 t_size t_bytes h_h1_root h_h1_branches h_order v3_1 v4_45 n f_toEnd_87 f_places_88 f_grid_89 t_position_90 t_fault_91 v6_94))

def f_X0_readTokens_L80_126 (t_size : Int32) (t_bytes : Nat → Int32) (h_h2_root : Int32) (h_h2_branches : Nat → Int32) (h_order : Nat → Int32) (v3_1 : Int32) (v4_45 : Int32) : Nat → Int32 → (Nat → Int32) → (Nat → Nat → Int32) → Int32 → Int32 → Int32 → Option (Int32 × (Nat → Int32) × (Nat → Nat → Int32) × Int32 × Int32)
  | 0, _, _, _, _, _, _ => none
  | n + 1, f_toEnd_127, f_places_128, f_grid_129, t_position_130, t_fault_131, v6_132 =>
  (if v3_1 ≤ v6_132 then
  (some (f_toEnd_127, f_places_128, f_grid_129, t_position_130, t_fault_131))
  else
  (bd1 (f_X1_ordered v6_132 h_order) fun y_139 =>
  gi y_139 36 <|
  jn (fun (k146 : Int32 → (Nat → Int32) → (Nat → Nat → Int32) → Int32 → Int32 → Option (Int32 × (Nat → Int32) × (Nat → Nat → Int32) × Int32 × Int32)) => (if (f_places_128 y_139.toNatClampNeg) = v4_45 then
  (bd5 (f_X0_goOn y_139 f_toEnd_127 f_places_128 f_grid_129 t_size t_position_130 t_fault_131 t_bytes h_h2_root h_h2_branches) fun f_toEnd_161 f_places_162 f_grid_163 t_position_164 t_fault_165 =>
  k146 f_toEnd_161 f_places_162 f_grid_163 t_position_164 t_fault_165)
  else
  (k146 f_toEnd_127 f_places_128 f_grid_129 t_position_130 t_fault_131))) fun f_toEnd_147 f_places_148 f_grid_149 t_position_150 t_fault_151 =>
  nm (v6_132 + (1 : Int32) : Int32) fun v6_154 =>
  f_X0_readTokens_L80_126 t_size t_bytes h_h2_root h_h2_branches h_order v3_1 v4_45 n f_toEnd_147 f_places_148 f_grid_149 t_position_150 t_fault_151 v6_154))

def f_X0_readTokens_L55 (t_size : Int32) (t_bytes : Nat → Int32) (h_h1_root : Int32) (h_h1_branches : Nat → Int32) (h_h2_root : Int32) (h_h2_branches : Nat → Int32) (h_order : Nat → Int32) (v3_1 : Int32) : Nat → Int32 → (Nat → Int32) → (Nat → Nat → Int32) → Int32 → Int32 → Int32 → Option (Int32 × (Nat → Int32) × (Nat → Nat → Int32) × Int32 × Int32)
  | 0, _, _, _, _, _, _ => none
  | n + 1, f_toEnd_40, f_places_41, f_grid_42, t_position_43, t_fault_44, v4_45 =>
  (if (64 : Int32) ≤ v4_45 then
  (some (f_toEnd_40, f_places_41, f_grid_42, t_position_43, t_fault_44))
  else
  (bd1 (f_X4_isSound t_fault_44) fun y_52 =>
  (if y_52 = (0 : Int32) then
  (some (f_toEnd_40, f_places_41, f_grid_42, t_position_43, t_fault_44))
  else
  ((if v4_45 = (0 : Int32) then
  (bd5 (f_X0_readTokens_L80 t_size t_bytes h_h1_root h_h1_branches h_order v3_1 v4_45 4000 f_toEnd_40 f_places_41 f_grid_42 t_position_43 t_fault_44 (0 : Int32)) fun f_toEnd_110 f_places_111 f_grid_112 t_position_113 t_fault_114 =>
  nm (v4_45 + (1 : Int32) : Int32) fun v4_117 =>
  f_X0_readTokens_L55 t_size t_bytes h_h1_root h_h1_branches h_h2_root h_h2_branches h_order v3_1 n f_toEnd_110 f_places_111 f_grid_112 t_position_113 t_fault_114 v4_117)
  else
  (bd5 (f_X0_readTokens_L80_126 t_size t_bytes h_h2_root h_h2_branches h_order v3_1 v4_45 4000 f_toEnd_40 f_places_41 f_grid_42 t_position_43 t_fault_44 (0 : Int32)) fun f_toEnd_170 f_places_171 f_grid_172 t_position_173 t_fault_174 =>
  nm (v4_45 + (1 : Int32) : Int32) fun v4_177 =>
  f_X0_readTokens_L55 t_size t_bytes h_h1_root h_h1_branches h_h2_root h_h2_branches h_order v3_1 n f_toEnd_170 f_places_171 f_grid_172 t_position_173 t_fault_174 v4_177))))))

def f_X0_readTokens (f_columns : Int32) (f_rows : Int32) (f_toEnd : Int32) (f_modes : Nat → Int32) (f_places : Nat → Int32) (f_grid : Nat → Nat → Int32) (t_size : Int32) (t_position : Int32) (t_fault : Int32) (t_bytes : Nat → Int32) (h_h1_root : Int32) (h_h1_branches : Nat → Int32) (h_h2_root : Int32) (h_h2_branches : Nat → Int32) (h_order : Nat → Int32) : Option (Int32 × (Nat → Int32) × (Nat → Nat → Int32) × Int32 × Int32) :=
  nm ((f_columns * f_rows) : Int32) fun v3_1 =>
  bd1 (f_X0_readTokens_L13 f_modes v3_1 4000 f_places (0 : Int32)) fun f_places_34 =>
  bd5 (f_X0_readTokens_L55 t_size t_bytes h_h1_root h_h1_branches h_h2_root h_h2_branches h_order v3_1 4000 (0 : Int32) f_places_34 f_grid t_position t_fault (0 : Int32)) fun f_toEnd_181 f_places_182 f_grid_183 t_position_184 t_fault_185 =>
  some (f_toEnd_181, f_places_182, f_grid_183, t_position_184, t_fault_185)

abbrev rm_X0_readTokens : Room := { frames := 5, cells := 0, slots := 0, locals := 116 }

theorem cdS_X0_readTokens : yX0_readTokens.cls ≠ "java/lang/invoke/MethodHandle" ∧ yX0_readTokens.cls ≠ "java/lang/invoke/VarHandle" ∧ (parseMethodDescriptor yX0_readTokens.desc).map (fun d => d.parameters.length) = some 2 := by decide +kernel

theorem cdV_X0_readTokens : yX0_readTokens.cls = RX0 ∧ yX0_readTokens.cls ≠ "java/lang/invoke/MethodHandle" ∧ yX0_readTokens.cls ≠ "java/lang/invoke/VarHandle" ∧ (parseMethodDescriptor yX0_readTokens.desc).map (fun d => d.parameters.length) = some 2 := ⟨rfl, cdS_X0_readTokens⟩

theorem hi_X0_readTokens_0 : ∀ w ∈ u_ws RX0 TX0 12, w ∈ wsX0_readTokens := fun _ h => List.mem_cons_of_mem _ (List.mem_append_left _ (List.mem_append_left _ (List.mem_append_left _ (List.mem_append_right _ h))))

set_option maxHeartbeats 40000000 in
set_option maxRecDepth 100000 in
theorem c_X0_readTokens (l : Launch) (D : va_G) (cB cI cJ cQ : ClassId) (N : Nat) (r0 : Nat → Nat) (r1 : Nat → Nat) (r2 : Nat → Nat) (sz : Nat) (f_columns : Int32) (f_rows : Int32) (f_scale : Int32) (f_toEnd : Int32) (f_between : Int32) (f_kept : Int32) (f_modes : Nat → Int32) (f_places : Nat → Int32) (t_size : Int32) (t_position : Int32) (t_fault : Int32) (t_bytes : Nat → Int32) (h_columns : Int32) (h_rows : Int32) (h_limit : Int32) (h_h1_nodeCount : Int32) (h_h1_tokenCount : Int32) (h_h1_root : Int32) (h_h1_branches : Nat → Int32) (h_h2_nodeCount : Int32) (h_h2_tokenCount : Int32) (h_h2_root : Int32) (h_h2_branches : Nat → Int32) (h_order : Nat → Int32) (f_grid : Nat → Nat → Int32) (o : Int32 × (Nat → Int32) × (Nat → Nat → Int32) × Int32 × Int32) (hm0 : f_X0_readTokens f_columns f_rows f_toEnd f_modes f_places f_grid t_size t_position t_fault t_bytes h_h1_root h_h1_branches h_h2_root h_h2_branches h_order = some o) : Met l yX0_readTokens wsX0_readTokens rm_X0_readTokens (ctP D cB cI cJ cQ N sz [.ref (r0 0), .ref (r1 0), .ref (r2 0)] (wf [oB (r0 0) 0 [.ref (r0 1), .ref (r0 2), .ref (r0 3), .ref (r0 4), .ref (r0 5), .ref (r0 6), .int f_columns, .int f_rows, .int f_scale, .int f_toEnd, .int f_between, .int f_kept], aI (r0 1) cI 36 f_modes, aQ (r0 4) cQ r0, aI (r0 5) cI 36 f_places, oB (r1 0) 4 [.ref (r1 1), .int t_size, .int t_position, .int t_fault], aI (r1 1) cB 6000 t_bytes, oB (r2 0) 1 [.ref (r2 1), .ref (r2 2), .ref (r2 3), .ref (r2 5), .ref (r2 7), .int h_columns, .int h_rows, .int h_limit], oB (r2 3) 5 [.ref (r2 4), .int h_h1_nodeCount, .int h_h1_tokenCount, .int h_h1_root], aI (r2 4) cI 88 h_h1_branches, oB (r2 5) 5 [.ref (r2 6), .int h_h2_nodeCount, .int h_h2_tokenCount, .int h_h2_root], aI (r2 6) cI 88 h_h2_branches, aI (r2 7) cI 36 h_order] [rowsW cI r0 f_grid])) (ctQv D (wf [oB (r0 0) 0 [.ref (r0 1), .ref (r0 2), .ref (r0 3), .ref (r0 4), .ref (r0 5), .ref (r0 6), .int f_columns, .int f_rows, .int f_scale, .int (o.1), .int f_between, .int f_kept], aI (r0 1) cI 36 f_modes, aQ (r0 4) cQ r0, aI (r0 5) cI 36 (o.2.1), oB (r1 0) 4 [.ref (r1 1), .int t_size, .int (o.2.2.2.1), .int (o.2.2.2.2)], aI (r1 1) cB 6000 t_bytes, oB (r2 0) 1 [.ref (r2 1), .ref (r2 2), .ref (r2 3), .ref (r2 5), .ref (r2 7), .int h_columns, .int h_rows, .int h_limit], oB (r2 3) 5 [.ref (r2 4), .int h_h1_nodeCount, .int h_h1_tokenCount, .int h_h1_root], aI (r2 4) cI 88 h_h1_branches, oB (r2 5) 5 [.ref (r2 6), .int h_h2_nodeCount, .int h_h2_tokenCount, .int h_h2_root], aI (r2 6) cI 88 h_h2_branches, aI (r2 7) cI 36 h_order] [rowsW cI r0 (o.2.2.1)]) (va_A (wf [oB (r0 0) 0 [.ref (r0 1), .ref (r0 2), .ref (r0 3), .ref (r0 4), .ref (r0 5), .ref (r0 6), .int f_columns, .int f_rows, .int f_scale, .int f_toEnd, .int f_between, .int f_kept], aI (r0 1) cI 36 f_modes, aQ (r0 4) cQ r0, aI (r0 5) cI 36 f_places, oB (r1 0) 4 [.ref (r1 1), .int t_size, .int t_position, .int t_fault], aI (r1 1) cB 6000 t_bytes, oB (r2 0) 1 [.ref (r2 1), .ref (r2 2), .ref (r2 3), .ref (r2 5), .ref (r2 7), .int h_columns, .int h_rows, .int h_limit], oB (r2 3) 5 [.ref (r2 4), .int h_h1_nodeCount, .int h_h1_tokenCount, .int h_h1_root], aI (r2 4) cI 88 h_h1_branches, oB (r2 5) 5 [.ref (r2 6), .int h_h2_nodeCount, .int h_h2_tokenCount, .int h_h2_root], aI (r2 6) cI 88 h_h2_branches, aI (r2 7) cI 36 h_order] [rowsW cI r0 f_grid]) sz)) 0 0 (va_A (wf [oB (r0 0) 0 [.ref (r0 1), .ref (r0 2), .ref (r0 3), .ref (r0 4), .ref (r0 5), .ref (r0 6), .int f_columns, .int f_rows, .int f_scale, .int f_toEnd, .int f_between, .int f_kept], aI (r0 1) cI 36 f_modes, aQ (r0 4) cQ r0, aI (r0 5) cI 36 f_places, oB (r1 0) 4 [.ref (r1 1), .int t_size, .int t_position, .int t_fault], aI (r1 1) cB 6000 t_bytes, oB (r2 0) 1 [.ref (r2 1), .ref (r2 2), .ref (r2 3), .ref (r2 5), .ref (r2 7), .int h_columns, .int h_rows, .int h_limit], oB (r2 3) 5 [.ref (r2 4), .int h_h1_nodeCount, .int h_h1_tokenCount, .int h_h1_root], aI (r2 4) cI 88 h_h1_branches, oB (r2 5) 5 [.ref (r2 6), .int h_h2_nodeCount, .int h_h2_tokenCount, .int h_h2_root], aI (r2 6) cI 88 h_h2_branches, aI (r2 7) cI 36 h_order] [rowsW cI r0 f_grid]) sz) := by
  refine ct_of (cc := cX0_readTokens) (maxL := 8) (ret := none) (own := RX0) (Qp := ctQv D (wf [oB (r0 0) 0 [.ref (r0 1), .ref (r0 2), .ref (r0 3), .ref (r0 4), .ref (r0 5), .ref (r0 6), .int f_columns, .int f_rows, .int f_scale, .int (o.1), .int f_between, .int f_kept], aI (r0 1) cI 36 f_modes, aQ (r0 4) cQ r0, aI (r0 5) cI 36 (o.2.1), oB (r1 0) 4 [.ref (r1 1), .int t_size, .int (o.2.2.2.1), .int (o.2.2.2.2)], aI (r1 1) cB 6000 t_bytes, oB (r2 0) 1 [.ref (r2 1), .ref (r2 2), .ref (r2 3), .ref (r2 5), .ref (r2 7), .int h_columns, .int h_rows, .int h_limit], oB (r2 3) 5 [.ref (r2 4), .int h_h1_nodeCount, .int h_h1_tokenCount, .int h_h1_root], aI (r2 4) cI 88 h_h1_branches, oB (r2 5) 5 [.ref (r2 6), .int h_h2_nodeCount, .int h_h2_tokenCount, .int h_h2_root], aI (r2 6) cI 88 h_h2_branches, aI (r2 7) cI 36 h_order] [rowsW cI r0 (o.2.2.1)])) (by decide) rfl rfl (Nat.le_of_ble_eq_true rfl) ?_
  intro p e s m args below meth c A hx hb hr hml hown hts hlk hnm hsz hAe E hP0 hD0 hS0 ls0 hl0
  subst hsz
  have hl0 : lv_has ls0 8 [(0, .ref (r0 0)), (1, .ref (r1 0)), (2, .ref (r2 0))] := hl0
  obtain ⟨QQ, hQ⟩ : ∃ Q : State → Prop, Q = MQ below (ctQv D (wf [oB (r0 0) 0 [.ref (r0 1), .ref (r0 2), .ref (r0 3), .ref (r0 4), .ref (r0 5), .ref (r0 6), .int f_columns, .int f_rows, .int f_scale, .int (o.1), .int f_between, .int f_kept], aI (r0 1) cI 36 f_modes, aQ (r0 4) cQ r0, aI (r0 5) cI 36 (o.2.1), oB (r1 0) 4 [.ref (r1 1), .int t_size, .int (o.2.2.2.1), .int (o.2.2.2.2)], aI (r1 1) cB 6000 t_bytes, oB (r2 0) 1 [.ref (r2 1), .ref (r2 2), .ref (r2 3), .ref (r2 5), .ref (r2 7), .int h_columns, .int h_rows, .int h_limit], oB (r2 3) 5 [.ref (r2 4), .int h_h1_nodeCount, .int h_h1_tokenCount, .int h_h1_root], aI (r2 4) cI 88 h_h1_branches, oB (r2 5) 5 [.ref (r2 6), .int h_h2_nodeCount, .int h_h2_tokenCount, .int h_h2_root], aI (r2 6) cI 88 h_h2_branches, aI (r2 7) cI 36 h_order] [rowsW cI r0 (o.2.2.1)]) A) args s 0 0 A := ⟨_, rfl⟩
  rw [← hQ]
  unfold f_X0_readTokens at hm0
  refine lv_aload_n hx hb dX0_readTokens_0 rfl (lv_at hl0 0 rfl) ?_
  refine va_get (D := D) (ci := 0) (v := .int f_columns) (C := RX0) (T := TX0) (N := 12) hx hb hts hi_X0_readTokens_0 hown E.1 hP0 0 rfl rfl 6 (by decide) (hts _ (List.mem_of_getElem? (i := 1) rfl)) (fun _ h9 => h9) rfl dX0_readTokens_1 ?_
  refine lv_aload_n hx hb dX0_readTokens_4 rfl (lv_at hl0 0 rfl) ?_
  refine va_get (D := D) (ci := 0) (v := .int f_rows) (C := RX0) (T := TX0) (N := 12) hx hb hts hi_X0_readTokens_0 hown E.1 hP0 0 rfl rfl 7 (by decide) (hts _ (List.mem_of_getElem? (i := 2) rfl)) (fun _ h9 => h9) rfl dX0_readTokens_5 ?_
  refine lv_imul hx hb dX0_readTokens_8 ?_
  obtain ⟨v3_1, ev3_1, hm2⟩ := nm_some hm0; clear hm0
  refine ct_topi ev3_1 ?_
  refine lv_istore_n (lv' := [(3, .int v3_1), (0, .ref (r0 0)), (1, .ref (r1 0)), (2, .ref (r2 0))]) hx hb dX0_readTokens_9 rfl hl0 (by decide) rfl (fun ls3 hl3 => ?_); clear hl0
  refine lv_iconst (v := 0) hx hb dX0_readTokens_10 (by decide) ?_
  refine lv_istore (lv' := [(4, .int (0 : Int32)), (3, .int v3_1), (0, .ref (r0 0)), (1, .ref (r1 0)), (2, .ref (r2 0))]) hx hb dX0_readTokens_11 hl3 (by decide) rfl (fun ls4 hl4 => ?_); clear hl3
  obtain ⟨f_places_34, hlp5, hm35⟩ := bd1_some hm2; clear hm2
  have LP5 : ∀ (n : Nat) (f_places_6 : Nat → Int32) (v4_7 : Int32) (z5 : (Nat → Int32)) (H8 : Heap) (lc8 : List Loc) (ls8 : Array Slot), f_X0_readTokens_L13 f_modes v3_1 n f_places_6 v4_7 = some z5 → va_P D vwCl (wf [oB (r0 0) 0 [.ref (r0 1), .ref (r0 2), .ref (r0 3), .ref (r0 4), .ref (r0 5), .ref (r0 6), .int f_columns, .int f_rows, .int f_scale, .int f_toEnd, .int f_between, .int f_kept], aI (r0 1) cI 36 f_modes, aQ (r0 4) cQ r0, aI (r0 5) cI 36 f_places_6, oB (r1 0) 4 [.ref (r1 1), .int t_size, .int t_position, .int t_fault], aI (r1 1) cB 6000 t_bytes, oB (r2 0) 1 [.ref (r2 1), .ref (r2 2), .ref (r2 3), .ref (r2 5), .ref (r2 7), .int h_columns, .int h_rows, .int h_limit], oB (r2 3) 5 [.ref (r2 4), .int h_h1_nodeCount, .int h_h1_tokenCount, .int h_h1_root], aI (r2 4) cI 88 h_h1_branches, oB (r2 5) 5 [.ref (r2 6), .int h_h2_nodeCount, .int h_h2_tokenCount, .int h_h2_root], aI (r2 6) cI 88 h_h2_branches, aI (r2 7) cI 36 h_order] [rowsW cI r0 f_grid]) H8 → va_D A (wf [oB (r0 0) 0 [.ref (r0 1), .ref (r0 2), .ref (r0 3), .ref (r0 4), .ref (r0 5), .ref (r0 6), .int f_columns, .int f_rows, .int f_scale, .int f_toEnd, .int f_between, .int f_kept], aI (r0 1) cI 36 f_modes, aQ (r0 4) cQ r0, aI (r0 5) cI 36 f_places_6, oB (r1 0) 4 [.ref (r1 1), .int t_size, .int t_position, .int t_fault], aI (r1 1) cB 6000 t_bytes, oB (r2 0) 1 [.ref (r2 1), .ref (r2 2), .ref (r2 3), .ref (r2 5), .ref (r2 7), .int h_columns, .int h_rows, .int h_limit], oB (r2 3) 5 [.ref (r2 4), .int h_h1_nodeCount, .int h_h1_tokenCount, .int h_h1_root], aI (r2 4) cI 88 h_h1_branches, oB (r2 5) 5 [.ref (r2 6), .int h_h2_nodeCount, .int h_h2_tokenCount, .int h_h2_root], aI (r2 6) cI 88 h_h2_branches, aI (r2 7) cI 36 h_order] [rowsW cI r0 f_grid]) → va_S A s.heap H8 lc8 → lv_has ls8 8 [(0, .ref (r0 0)), (1, .ref (r1 0)), (2, .ref (r2 0)), (3, .int v3_1), (4, .int v4_7)] → (∀ (H : Heap) (lc : List Loc) (ls : Array Slot), va_P D vwCl (wf [oB (r0 0) 0 [.ref (r0 1), .ref (r0 2), .ref (r0 3), .ref (r0 4), .ref (r0 5), .ref (r0 6), .int f_columns, .int f_rows, .int f_scale, .int f_toEnd, .int f_between, .int f_kept], aI (r0 1) cI 36 f_modes, aQ (r0 4) cQ r0, aI (r0 5) cI 36 z5, oB (r1 0) 4 [.ref (r1 1), .int t_size, .int t_position, .int t_fault], aI (r1 1) cB 6000 t_bytes, oB (r2 0) 1 [.ref (r2 1), .ref (r2 2), .ref (r2 3), .ref (r2 5), .ref (r2 7), .int h_columns, .int h_rows, .int h_limit], oB (r2 3) 5 [.ref (r2 4), .int h_h1_nodeCount, .int h_h1_tokenCount, .int h_h1_root], aI (r2 4) cI 88 h_h1_branches, oB (r2 5) 5 [.ref (r2 6), .int h_h2_nodeCount, .int h_h2_tokenCount, .int h_h2_root], aI (r2 6) cI 88 h_h2_branches, aI (r2 7) cI 36 h_order] [rowsW cI r0 f_grid]) H → va_D A (wf [oB (r0 0) 0 [.ref (r0 1), .ref (r0 2), .ref (r0 3), .ref (r0 4), .ref (r0 5), .ref (r0 6), .int f_columns, .int f_rows, .int f_scale, .int f_toEnd, .int f_between, .int f_kept], aI (r0 1) cI 36 f_modes, aQ (r0 4) cQ r0, aI (r0 5) cI 36 z5, oB (r1 0) 4 [.ref (r1 1), .int t_size, .int t_position, .int t_fault], aI (r1 1) cB 6000 t_bytes, oB (r2 0) 1 [.ref (r2 1), .ref (r2 2), .ref (r2 3), .ref (r2 5), .ref (r2 7), .int h_columns, .int h_rows, .int h_limit], oB (r2 3) 5 [.ref (r2 4), .int h_h1_nodeCount, .int h_h1_tokenCount, .int h_h1_root], aI (r2 4) cI 88 h_h1_branches, oB (r2 5) 5 [.ref (r2 6), .int h_h2_nodeCount, .int h_h2_tokenCount, .int h_h2_root], aI (r2 6) cI 88 h_h2_branches, aI (r2 7) cI 36 h_order] [rowsW cI r0 f_grid]) → va_S A s.heap H lc → lv_has ls 8 [(0, .ref (r0 0)), (1, .ref (r1 0)), (2, .ref (r2 0)), (3, .int v3_1)] → W p l e rm_X0_readTokens s m args below meth c H lc 0 0 QQ (F0 m 47 ls [])) → W p l e rm_X0_readTokens s m args below meth c H8 lc8 0 0 QQ (F0 m 13 ls8 []) := by
    intro n
    induction n with
    | zero =>
      intro f_places_6 v4_7 z5 H8 lc8 ls8 hm10; simp [f_X0_readTokens_L13] at hm10
    | succ n ih =>
      intro f_places_6 v4_7 z5 H8 lc8 ls8 hm10 hP8 hD8 hS8 hl8 kx
      rw [f_X0_readTokens_L13] at hm10
      refine lv_iload hx hb dX0_readTokens_13 (lv_at hl8 4 rfl) ?_
      refine lv_iload_n hx hb dX0_readTokens_15 rfl (lv_at hl8 3 rfl) ?_
      refine lv_icmp_ge (tgt := 47) hx hb dX0_readTokens_16 (by decide) (fun hc11 => ?_) (fun hc11 => ?_)
      · have hm12 := bq_t hm10 hc11; clear hm10
        obtain rfl := Option.some.inj hm12
        exact kx _ _ _ hP8 hD8 hS8 (lv_sub hl8 [0, 1, 2, 3] rfl)
      · have hm13 := bq_f hm10 hc11; clear hm10
        refine lv_aload_n hx hb dX0_readTokens_19 rfl (lv_at hl8 0 rfl) ?_
        refine va_get (D := D) (ci := 0) (v := .ref (r0 5)) (C := RX0) (T := TX0) (N := 12) hx hb hts hi_X0_readTokens_0 hown E.1 hP8 0 rfl rfl 4 (by decide) (hts _ (List.mem_of_getElem? (i := 3) rfl)) (fun _ h9 => h9) rfl dX0_readTokens_20 ?_
        refine lv_iload hx hb dX0_readTokens_23 (lv_at hl8 4 rfl) ?_
        refine lv_aload_n hx hb dX0_readTokens_25 rfl (lv_at hl8 0 rfl) ?_
        refine lv_iload hx hb dX0_readTokens_26 (lv_at hl8 4 rfl) ?_
        obtain ⟨y_14, hcl15, hm15⟩ := bd1_some hm13; clear hm13
        have sb16 := ctS.mk (pre := [oB (r0 0) 0 [.ref (r0 1), .ref (r0 2), .ref (r0 3), .ref (r0 4), .ref (r0 5), .ref (r0 6), .int f_columns, .int f_rows, .int f_scale, .int f_toEnd, .int f_between, .int f_kept], aI (r0 1) cI 36 f_modes, aQ (r0 4) cQ r0, aI (r0 5) cI 36 f_places_6, oB (r1 0) 4 [.ref (r1 1), .int t_size, .int t_position, .int t_fault], aI (r1 1) cB 6000 t_bytes, oB (r2 0) 1 [.ref (r2 1), .ref (r2 2), .ref (r2 3), .ref (r2 5), .ref (r2 7), .int h_columns, .int h_rows, .int h_limit], oB (r2 3) 5 [.ref (r2 4), .int h_h1_nodeCount, .int h_h1_tokenCount, .int h_h1_root], aI (r2 4) cI 88 h_h1_branches, oB (r2 5) 5 [.ref (r2 6), .int h_h2_nodeCount, .int h_h2_tokenCount, .int h_h2_root], aI (r2 6) cI 88 h_h2_branches, aI (r2 7) cI 36 h_order]) (tl := [rowsW cI r0 f_grid]) [0, 1] [2, 3, 4, 5, 6, 7, 8, 9, 10, 11] [] [0] rfl rfl rfl rfl
        refine ct_calli (r := y_14) E sb16 hP8 hD8 hS8 (va_runV (As := [.int v4_7]) (rest := [.int v4_7, .ref (r0 5)]) ⟨hx, hb, hml, hown, hts⟩ (c_X0_isCoded l D cB cI cJ cQ N r0 H8.size v4_7 f_columns f_rows f_scale f_toEnd f_between f_kept f_modes (y_14) hcl15) (cwV 1 hts gX0_readTokens_X0_isCoded rfl rfl rfl cdV_X0_isCoded ⟨Nat.le_of_ble_eq_true rfl, Nat.le_of_ble_eq_true rfl⟩) (ct_preV (q0 := 0) (ci := 0) E sb16 hP8 hD8 hS8 rfl rfl) rfl rfl hl8.1 rfl (lv_room (Nat.le_of_ble_eq_true rfl)) dX0_readTokens_28 ⟨Nat.zero_le _, Nat.zero_le _⟩) (fun H17 lc17 hP17 hD17 hS17 => ?_); clear sb16 hcl15
        clear hP8 hD8 hS8
        have hP17 : va_P D vwCl (wf [aQ (r0 4) cQ r0, aI (r0 5) cI 36 f_places_6, oB (r1 0) 4 [.ref (r1 1), .int t_size, .int t_position, .int t_fault], aI (r1 1) cB 6000 t_bytes, oB (r2 0) 1 [.ref (r2 1), .ref (r2 2), .ref (r2 3), .ref (r2 5), .ref (r2 7), .int h_columns, .int h_rows, .int h_limit], oB (r2 3) 5 [.ref (r2 4), .int h_h1_nodeCount, .int h_h1_tokenCount, .int h_h1_root], aI (r2 4) cI 88 h_h1_branches, oB (r2 5) 5 [.ref (r2 6), .int h_h2_nodeCount, .int h_h2_tokenCount, .int h_h2_root], aI (r2 6) cI 88 h_h2_branches, aI (r2 7) cI 36 h_order, oB (r0 0) 0 [.ref (r0 1), .ref (r0 2), .ref (r0 3), .ref (r0 4), .ref (r0 5), .ref (r0 6), .int f_columns, .int f_rows, .int f_scale, .int f_toEnd, .int f_between, .int f_kept], aI (r0 1) cI 36 f_modes] [rowsW cI r0 f_grid]) H17 := hP17
        have hD17 : va_D A (wf [aQ (r0 4) cQ r0, aI (r0 5) cI 36 f_places_6, oB (r1 0) 4 [.ref (r1 1), .int t_size, .int t_position, .int t_fault], aI (r1 1) cB 6000 t_bytes, oB (r2 0) 1 [.ref (r2 1), .ref (r2 2), .ref (r2 3), .ref (r2 5), .ref (r2 7), .int h_columns, .int h_rows, .int h_limit], oB (r2 3) 5 [.ref (r2 4), .int h_h1_nodeCount, .int h_h1_tokenCount, .int h_h1_root], aI (r2 4) cI 88 h_h1_branches, oB (r2 5) 5 [.ref (r2 6), .int h_h2_nodeCount, .int h_h2_tokenCount, .int h_h2_root], aI (r2 6) cI 88 h_h2_branches, aI (r2 7) cI 36 h_order, oB (r0 0) 0 [.ref (r0 1), .ref (r0 2), .ref (r0 3), .ref (r0 4), .ref (r0 5), .ref (r0 6), .int f_columns, .int f_rows, .int f_scale, .int f_toEnd, .int f_between, .int f_kept], aI (r0 1) cI 36 f_modes] [rowsW cI r0 f_grid]) := hD17
        obtain ⟨k19, ek19, hm19⟩ := jn_some hm15; clear hm15
        have KJ19 : ∀ (k0_20 : Int32) (H21 : Heap) (lc21 : List Loc) (ls21 : Array Slot), k19 k0_20 = some z5 → va_P D vwCl (wf [aQ (r0 4) cQ r0, aI (r0 5) cI 36 f_places_6, oB (r1 0) 4 [.ref (r1 1), .int t_size, .int t_position, .int t_fault], aI (r1 1) cB 6000 t_bytes, oB (r2 0) 1 [.ref (r2 1), .ref (r2 2), .ref (r2 3), .ref (r2 5), .ref (r2 7), .int h_columns, .int h_rows, .int h_limit], oB (r2 3) 5 [.ref (r2 4), .int h_h1_nodeCount, .int h_h1_tokenCount, .int h_h1_root], aI (r2 4) cI 88 h_h1_branches, oB (r2 5) 5 [.ref (r2 6), .int h_h2_nodeCount, .int h_h2_tokenCount, .int h_h2_root], aI (r2 6) cI 88 h_h2_branches, aI (r2 7) cI 36 h_order, oB (r0 0) 0 [.ref (r0 1), .ref (r0 2), .ref (r0 3), .ref (r0 4), .ref (r0 5), .ref (r0 6), .int f_columns, .int f_rows, .int f_scale, .int f_toEnd, .int f_between, .int f_kept], aI (r0 1) cI 36 f_modes] [rowsW cI r0 f_grid]) H21 → va_D A (wf [aQ (r0 4) cQ r0, aI (r0 5) cI 36 f_places_6, oB (r1 0) 4 [.ref (r1 1), .int t_size, .int t_position, .int t_fault], aI (r1 1) cB 6000 t_bytes, oB (r2 0) 1 [.ref (r2 1), .ref (r2 2), .ref (r2 3), .ref (r2 5), .ref (r2 7), .int h_columns, .int h_rows, .int h_limit], oB (r2 3) 5 [.ref (r2 4), .int h_h1_nodeCount, .int h_h1_tokenCount, .int h_h1_root], aI (r2 4) cI 88 h_h1_branches, oB (r2 5) 5 [.ref (r2 6), .int h_h2_nodeCount, .int h_h2_tokenCount, .int h_h2_root], aI (r2 6) cI 88 h_h2_branches, aI (r2 7) cI 36 h_order, oB (r0 0) 0 [.ref (r0 1), .ref (r0 2), .ref (r0 3), .ref (r0 4), .ref (r0 5), .ref (r0 6), .int f_columns, .int f_rows, .int f_scale, .int f_toEnd, .int f_between, .int f_kept], aI (r0 1) cI 36 f_modes] [rowsW cI r0 f_grid]) → va_S A s.heap H21 lc21 → lv_has ls21 8 [(0, .ref (r0 0)), (1, .ref (r1 0)), (2, .ref (r2 0)), (3, .int v3_1), (4, .int v4_7)] → W p l e rm_X0_readTokens s m args below meth c H21 lc21 0 0 QQ (F0 m 40 ls21 [.int k0_20, .int v4_7, .ref (r0 5)]) := by
          intro k0_20 H21 lc21 ls21 hm22 hP21 hD21 hS21 hl21
          rw [ek19] at hm22
          obtain ⟨hin23, hm23⟩ := gi_some hm22; clear hm22
          obtain ⟨f_places_24, ef_places_24, hm25⟩ := nm_some hm23; clear hm23
          refine ct_iast (g := f_places_24) (ws' := (wf [aQ (r0 4) cQ r0, aI (r0 5) cI 36 f_places_24, oB (r1 0) 4 [.ref (r1 1), .int t_size, .int t_position, .int t_fault], aI (r1 1) cB 6000 t_bytes, oB (r2 0) 1 [.ref (r2 1), .ref (r2 2), .ref (r2 3), .ref (r2 5), .ref (r2 7), .int h_columns, .int h_rows, .int h_limit], oB (r2 3) 5 [.ref (r2 4), .int h_h1_nodeCount, .int h_h1_tokenCount, .int h_h1_root], aI (r2 4) cI 88 h_h1_branches, oB (r2 5) 5 [.ref (r2 6), .int h_h2_nodeCount, .int h_h2_tokenCount, .int h_h2_root], aI (r2 6) cI 88 h_h2_branches, aI (r2 7) cI 36 h_order, oB (r0 0) 0 [.ref (r0 1), .ref (r0 2), .ref (r0 3), .ref (r0 4), .ref (r0 5), .ref (r0 6), .int f_columns, .int f_rows, .int f_scale, .int f_toEnd, .int f_between, .int f_kept], aI (r0 1) cI 36 f_modes] [rowsW cI r0 f_grid])) hx hb E.1 hP21 hD21 hS21 1 0 rfl rfl hin23 ef_places_24 rfl dX0_readTokens_40 (fun H26 lc26 hP26 hD26 hS26 => ?_)
          clear hP21 hD21 hS21
          obtain ⟨v4_27, ev4_27, hm28⟩ := nm_some hm25; clear hm25
          refine lv_iinc (v := v4_27) (lv' := [(4, .int v4_27), (0, .ref (r0 0)), (1, .ref (r1 0)), (2, .ref (r2 0)), (3, .int v3_1)]) hx hb dX0_readTokens_41 hl21 (k := 4) rfl (by rw [ev4_27]; rfl) (by decide) rfl (fun ls29 hl29 => ?_); clear hl21
          refine lv_goto (tgt := 13) hx hb dX0_readTokens_44 (by decide) ?_
          obtain ⟨hP30, hD30⟩ := ct_ord [10, 11, 0, 1, 2, 3, 4, 5, 6, 7, 8, 9] [0] hP26 hD26 rfl rfl rfl rfl
          have hS30 := hS26
          have hP30 : va_P D vwCl (wf [oB (r0 0) 0 [.ref (r0 1), .ref (r0 2), .ref (r0 3), .ref (r0 4), .ref (r0 5), .ref (r0 6), .int f_columns, .int f_rows, .int f_scale, .int f_toEnd, .int f_between, .int f_kept], aI (r0 1) cI 36 f_modes, aQ (r0 4) cQ r0, aI (r0 5) cI 36 f_places_24, oB (r1 0) 4 [.ref (r1 1), .int t_size, .int t_position, .int t_fault], aI (r1 1) cB 6000 t_bytes, oB (r2 0) 1 [.ref (r2 1), .ref (r2 2), .ref (r2 3), .ref (r2 5), .ref (r2 7), .int h_columns, .int h_rows, .int h_limit], oB (r2 3) 5 [.ref (r2 4), .int h_h1_nodeCount, .int h_h1_tokenCount, .int h_h1_root], aI (r2 4) cI 88 h_h1_branches, oB (r2 5) 5 [.ref (r2 6), .int h_h2_nodeCount, .int h_h2_tokenCount, .int h_h2_root], aI (r2 6) cI 88 h_h2_branches, aI (r2 7) cI 36 h_order] [rowsW cI r0 f_grid]) H26 := hP30
          have hD30 : va_D A (wf [oB (r0 0) 0 [.ref (r0 1), .ref (r0 2), .ref (r0 3), .ref (r0 4), .ref (r0 5), .ref (r0 6), .int f_columns, .int f_rows, .int f_scale, .int f_toEnd, .int f_between, .int f_kept], aI (r0 1) cI 36 f_modes, aQ (r0 4) cQ r0, aI (r0 5) cI 36 f_places_24, oB (r1 0) 4 [.ref (r1 1), .int t_size, .int t_position, .int t_fault], aI (r1 1) cB 6000 t_bytes, oB (r2 0) 1 [.ref (r2 1), .ref (r2 2), .ref (r2 3), .ref (r2 5), .ref (r2 7), .int h_columns, .int h_rows, .int h_limit], oB (r2 3) 5 [.ref (r2 4), .int h_h1_nodeCount, .int h_h1_tokenCount, .int h_h1_root], aI (r2 4) cI 88 h_h1_branches, oB (r2 5) 5 [.ref (r2 6), .int h_h2_nodeCount, .int h_h2_tokenCount, .int h_h2_root], aI (r2 6) cI 88 h_h2_branches, aI (r2 7) cI 36 h_order] [rowsW cI r0 f_grid]) := hD30
          exact ih f_places_24 v4_27 _ _ _ _ hm28 hP30 hD30 hS30 (lv_sub hl29 [1, 2, 3, 4, 0] rfl) kx
        refine lv_if_eq (tgt := 38) hx hb dX0_readTokens_31 (by decide) (fun hc31 => ?_) (fun hc31 => ?_)
        · have hm32 := bq_t hm19 hc31; clear hm19
          refine lv_bipush (v := 64) hx hb dX0_readTokens_38 (by decide) ?_
          exact KJ19 (64 : Int32) _ _ _ hm32 hP17 hD17 hS17 (lv_sub hl8 [0, 1, 2, 3, 4] rfl)
        · have hm33 := bq_f hm19 hc31; clear hm19
          refine lv_iconst (v := 0) hx hb dX0_readTokens_34 (by decide) ?_
          refine lv_goto (tgt := 40) hx hb dX0_readTokens_35 (by decide) ?_
          exact KJ19 (0 : Int32) _ _ _ hm33 hP17 hD17 hS17 (lv_sub hl8 [0, 1, 2, 3, 4] rfl)
  refine LP5 4000 f_places (0 : Int32) (f_places_34) _ _ _ hlp5 hP0 hD0 hS0 (lv_sub hl4 [2, 3, 4, 1, 0] rfl) (fun H36 lc36 ls36 hP36 hD36 hS36 hl36 => ?_); clear LP5 hlp5
  clear hP0 hD0 hS0
  have hl36 : lv_has ls36 8 [(0, .ref (r0 0)), (1, .ref (r1 0)), (2, .ref (r2 0)), (3, .int v3_1)] := hl36
  have hP36 : va_P D vwCl (wf [oB (r0 0) 0 [.ref (r0 1), .ref (r0 2), .ref (r0 3), .ref (r0 4), .ref (r0 5), .ref (r0 6), .int f_columns, .int f_rows, .int f_scale, .int f_toEnd, .int f_between, .int f_kept], aI (r0 1) cI 36 f_modes, aQ (r0 4) cQ r0, aI (r0 5) cI 36 f_places_34, oB (r1 0) 4 [.ref (r1 1), .int t_size, .int t_position, .int t_fault], aI (r1 1) cB 6000 t_bytes, oB (r2 0) 1 [.ref (r2 1), .ref (r2 2), .ref (r2 3), .ref (r2 5), .ref (r2 7), .int h_columns, .int h_rows, .int h_limit], oB (r2 3) 5 [.ref (r2 4), .int h_h1_nodeCount, .int h_h1_tokenCount, .int h_h1_root], aI (r2 4) cI 88 h_h1_branches, oB (r2 5) 5 [.ref (r2 6), .int h_h2_nodeCount, .int h_h2_tokenCount, .int h_h2_root], aI (r2 6) cI 88 h_h2_branches, aI (r2 7) cI 36 h_order] [rowsW cI r0 f_grid]) H36 := hP36
  have hD36 : va_D A (wf [oB (r0 0) 0 [.ref (r0 1), .ref (r0 2), .ref (r0 3), .ref (r0 4), .ref (r0 5), .ref (r0 6), .int f_columns, .int f_rows, .int f_scale, .int f_toEnd, .int f_between, .int f_kept], aI (r0 1) cI 36 f_modes, aQ (r0 4) cQ r0, aI (r0 5) cI 36 f_places_34, oB (r1 0) 4 [.ref (r1 1), .int t_size, .int t_position, .int t_fault], aI (r1 1) cB 6000 t_bytes, oB (r2 0) 1 [.ref (r2 1), .ref (r2 2), .ref (r2 3), .ref (r2 5), .ref (r2 7), .int h_columns, .int h_rows, .int h_limit], oB (r2 3) 5 [.ref (r2 4), .int h_h1_nodeCount, .int h_h1_tokenCount, .int h_h1_root], aI (r2 4) cI 88 h_h1_branches, oB (r2 5) 5 [.ref (r2 6), .int h_h2_nodeCount, .int h_h2_tokenCount, .int h_h2_root], aI (r2 6) cI 88 h_h2_branches, aI (r2 7) cI 36 h_order] [rowsW cI r0 f_grid]) := hD36
  refine lv_aload_n hx hb dX0_readTokens_47 rfl (lv_at hl36 0 rfl) ?_
  refine lv_iconst (v := 0) hx hb dX0_readTokens_48 (by decide) ?_
  refine ct_put (D := D) (ci := 0) (v := .int (0 : Int32)) (ty := .int) (C := RX0) (T := TX0) (N := 12) (ws' := (wf [oB (r0 0) 0 [.ref (r0 1), .ref (r0 2), .ref (r0 3), .ref (r0 4), .ref (r0 5), .ref (r0 6), .int f_columns, .int f_rows, .int f_scale, .int (0 : Int32), .int f_between, .int f_kept], aI (r0 1) cI 36 f_modes, aQ (r0 4) cQ r0, aI (r0 5) cI 36 f_places_34, oB (r1 0) 4 [.ref (r1 1), .int t_size, .int t_position, .int t_fault], aI (r1 1) cB 6000 t_bytes, oB (r2 0) 1 [.ref (r2 1), .ref (r2 2), .ref (r2 3), .ref (r2 5), .ref (r2 7), .int h_columns, .int h_rows, .int h_limit], oB (r2 3) 5 [.ref (r2 4), .int h_h1_nodeCount, .int h_h1_tokenCount, .int h_h1_root], aI (r2 4) cI 88 h_h1_branches, oB (r2 5) 5 [.ref (r2 6), .int h_h2_nodeCount, .int h_h2_tokenCount, .int h_h2_root], aI (r2 6) cI 88 h_h2_branches, aI (r2 7) cI 36 h_order] [rowsW cI r0 f_grid])) hx hb hts hi_X0_readTokens_0 tyX0 tyX0_ok nmX0 hown E.1 hP36 hD36 hS36 0 rfl rfl 9 (by decide) (hts _ (List.mem_of_getElem? (i := 4) rfl)) (fun _ h9 => h9) rfl (by decide +kernel) rfl rfl (Nat.le_of_ble_eq_true rfl) rfl dX0_readTokens_49 (fun H37 lc37 hP37 hD37 hS37 => ?_)
  clear hP36 hD36 hS36
  refine lv_iconst (v := 0) hx hb dX0_readTokens_52 (by decide) ?_
  refine lv_istore (lv' := [(4, .int (0 : Int32)), (0, .ref (r0 0)), (1, .ref (r1 0)), (2, .ref (r2 0)), (3, .int v3_1)]) hx hb dX0_readTokens_53 hl36 (by decide) rfl (fun ls38 hl38 => ?_); clear hl36
  obtain ⟨f_toEnd_181, f_places_182, f_grid_183, t_position_184, t_fault_185, hlp39, hm186⟩ := bd5_some hm35; clear hm35
  have LP39 : ∀ (n : Nat) (f_toEnd_40 : Int32) (f_places_41 : Nat → Int32) (f_grid_42 : Nat → Nat → Int32) (t_position_43 : Int32) (t_fault_44 : Int32) (v4_45 : Int32) (z39 : Int32 × (Nat → Int32) × (Nat → Nat → Int32) × Int32 × Int32) (H46 : Heap) (lc46 : List Loc) (ls46 : Array Slot), f_X0_readTokens_L55 t_size t_bytes h_h1_root h_h1_branches h_h2_root h_h2_branches h_order v3_1 n f_toEnd_40 f_places_41 f_grid_42 t_position_43 t_fault_44 v4_45 = some z39 → va_P D vwCl (wf [oB (r0 0) 0 [.ref (r0 1), .ref (r0 2), .ref (r0 3), .ref (r0 4), .ref (r0 5), .ref (r0 6), .int f_columns, .int f_rows, .int f_scale, .int f_toEnd_40, .int f_between, .int f_kept], aI (r0 1) cI 36 f_modes, aQ (r0 4) cQ r0, aI (r0 5) cI 36 f_places_41, oB (r1 0) 4 [.ref (r1 1), .int t_size, .int t_position_43, .int t_fault_44], aI (r1 1) cB 6000 t_bytes, oB (r2 0) 1 [.ref (r2 1), .ref (r2 2), .ref (r2 3), .ref (r2 5), .ref (r2 7), .int h_columns, .int h_rows, .int h_limit], oB (r2 3) 5 [.ref (r2 4), .int h_h1_nodeCount, .int h_h1_tokenCount, .int h_h1_root], aI (r2 4) cI 88 h_h1_branches, oB (r2 5) 5 [.ref (r2 6), .int h_h2_nodeCount, .int h_h2_tokenCount, .int h_h2_root], aI (r2 6) cI 88 h_h2_branches, aI (r2 7) cI 36 h_order] [rowsW cI r0 f_grid_42]) H46 → va_D A (wf [oB (r0 0) 0 [.ref (r0 1), .ref (r0 2), .ref (r0 3), .ref (r0 4), .ref (r0 5), .ref (r0 6), .int f_columns, .int f_rows, .int f_scale, .int f_toEnd_40, .int f_between, .int f_kept], aI (r0 1) cI 36 f_modes, aQ (r0 4) cQ r0, aI (r0 5) cI 36 f_places_41, oB (r1 0) 4 [.ref (r1 1), .int t_size, .int t_position_43, .int t_fault_44], aI (r1 1) cB 6000 t_bytes, oB (r2 0) 1 [.ref (r2 1), .ref (r2 2), .ref (r2 3), .ref (r2 5), .ref (r2 7), .int h_columns, .int h_rows, .int h_limit], oB (r2 3) 5 [.ref (r2 4), .int h_h1_nodeCount, .int h_h1_tokenCount, .int h_h1_root], aI (r2 4) cI 88 h_h1_branches, oB (r2 5) 5 [.ref (r2 6), .int h_h2_nodeCount, .int h_h2_tokenCount, .int h_h2_root], aI (r2 6) cI 88 h_h2_branches, aI (r2 7) cI 36 h_order] [rowsW cI r0 f_grid_42]) → va_S A s.heap H46 lc46 → lv_has ls46 8 [(0, .ref (r0 0)), (1, .ref (r1 0)), (2, .ref (r2 0)), (3, .int v3_1), (4, .int v4_45)] → (∀ (H : Heap) (lc : List Loc) (ls : Array Slot), va_P D vwCl (wf [oB (r0 0) 0 [.ref (r0 1), .ref (r0 2), .ref (r0 3), .ref (r0 4), .ref (r0 5), .ref (r0 6), .int f_columns, .int f_rows, .int f_scale, .int (z39.1), .int f_between, .int f_kept], aI (r0 1) cI 36 f_modes, aQ (r0 4) cQ r0, aI (r0 5) cI 36 (z39.2.1), oB (r1 0) 4 [.ref (r1 1), .int t_size, .int (z39.2.2.2.1), .int (z39.2.2.2.2)], aI (r1 1) cB 6000 t_bytes, oB (r2 0) 1 [.ref (r2 1), .ref (r2 2), .ref (r2 3), .ref (r2 5), .ref (r2 7), .int h_columns, .int h_rows, .int h_limit], oB (r2 3) 5 [.ref (r2 4), .int h_h1_nodeCount, .int h_h1_tokenCount, .int h_h1_root], aI (r2 4) cI 88 h_h1_branches, oB (r2 5) 5 [.ref (r2 6), .int h_h2_nodeCount, .int h_h2_tokenCount, .int h_h2_root], aI (r2 6) cI 88 h_h2_branches, aI (r2 7) cI 36 h_order] [rowsW cI r0 (z39.2.2.1)]) H → va_D A (wf [oB (r0 0) 0 [.ref (r0 1), .ref (r0 2), .ref (r0 3), .ref (r0 4), .ref (r0 5), .ref (r0 6), .int f_columns, .int f_rows, .int f_scale, .int (z39.1), .int f_between, .int f_kept], aI (r0 1) cI 36 f_modes, aQ (r0 4) cQ r0, aI (r0 5) cI 36 (z39.2.1), oB (r1 0) 4 [.ref (r1 1), .int t_size, .int (z39.2.2.2.1), .int (z39.2.2.2.2)], aI (r1 1) cB 6000 t_bytes, oB (r2 0) 1 [.ref (r2 1), .ref (r2 2), .ref (r2 3), .ref (r2 5), .ref (r2 7), .int h_columns, .int h_rows, .int h_limit], oB (r2 3) 5 [.ref (r2 4), .int h_h1_nodeCount, .int h_h1_tokenCount, .int h_h1_root], aI (r2 4) cI 88 h_h1_branches, oB (r2 5) 5 [.ref (r2 6), .int h_h2_nodeCount, .int h_h2_tokenCount, .int h_h2_root], aI (r2 6) cI 88 h_h2_branches, aI (r2 7) cI 36 h_order] [rowsW cI r0 (z39.2.2.1)]) → va_S A s.heap H lc → lv_has ls 8 [] → W p l e rm_X0_readTokens s m args below meth c H lc 0 0 QQ (F0 m 127 ls [])) → W p l e rm_X0_readTokens s m args below meth c H46 lc46 0 0 QQ (F0 m 55 ls46 []) := by
    intro n
    induction n with
    | zero =>
      intro f_toEnd_40 f_places_41 f_grid_42 t_position_43 t_fault_44 v4_45 z39 H46 lc46 ls46 hm48; simp [f_X0_readTokens_L55] at hm48
    | succ n ih =>
      intro f_toEnd_40 f_places_41 f_grid_42 t_position_43 t_fault_44 v4_45 z39 H46 lc46 ls46 hm48 hP46 hD46 hS46 hl46 kx
      rw [f_X0_readTokens_L55] at hm48
      refine lv_iload hx hb dX0_readTokens_55 (lv_at hl46 4 rfl) ?_
      refine lv_bipush (v := 64) hx hb dX0_readTokens_57 (by decide) ?_
      refine lv_icmp_ge (tgt := 127) hx hb dX0_readTokens_59 (by decide) (fun hc49 => ?_) (fun hc49 => ?_)
      · have hm50 := bq_t hm48 hc49; clear hm48
        obtain rfl := Option.some.inj hm50
        exact kx _ _ _ hP46 hD46 hS46 (lv_sub hl46 [] rfl)
      · have hm51 := bq_f hm48 hc49; clear hm48
        refine lv_aload_n hx hb dX0_readTokens_62 rfl (lv_at hl46 1 rfl) ?_
        obtain ⟨y_52, hcl53, hm53⟩ := bd1_some hm51; clear hm51
        have sb54 := ctS.mk (pre := [oB (r0 0) 0 [.ref (r0 1), .ref (r0 2), .ref (r0 3), .ref (r0 4), .ref (r0 5), .ref (r0 6), .int f_columns, .int f_rows, .int f_scale, .int f_toEnd_40, .int f_between, .int f_kept], aI (r0 1) cI 36 f_modes, aQ (r0 4) cQ r0, aI (r0 5) cI 36 f_places_41, oB (r1 0) 4 [.ref (r1 1), .int t_size, .int t_position_43, .int t_fault_44], aI (r1 1) cB 6000 t_bytes, oB (r2 0) 1 [.ref (r2 1), .ref (r2 2), .ref (r2 3), .ref (r2 5), .ref (r2 7), .int h_columns, .int h_rows, .int h_limit], oB (r2 3) 5 [.ref (r2 4), .int h_h1_nodeCount, .int h_h1_tokenCount, .int h_h1_root], aI (r2 4) cI 88 h_h1_branches, oB (r2 5) 5 [.ref (r2 6), .int h_h2_nodeCount, .int h_h2_tokenCount, .int h_h2_root], aI (r2 6) cI 88 h_h2_branches, aI (r2 7) cI 36 h_order]) (tl := [rowsW cI r0 f_grid_42]) [4] [0, 1, 2, 3, 5, 6, 7, 8, 9, 10, 11] [] [0] rfl rfl rfl rfl
        refine ct_calli (r := y_52) E sb54 hP46 hD46 hS46 (va_runV (As := []) (rest := []) ⟨hx, hb, hml, hown, hts⟩ (c_X4_isSound l D cB cI cJ cQ N r1 H46.size t_size t_position_43 t_fault_44 (y_52) hcl53) (cwV 0 hts gX0_readTokens_X4_isSound rfl rfl rfl cdV_X4_isSound ⟨Nat.le_of_ble_eq_true rfl, Nat.le_of_ble_eq_true rfl⟩) (ct_preV (q0 := 4) (ci := 4) E sb54 hP46 hD46 hS46 rfl rfl) rfl rfl hl46.1 rfl (lv_room (Nat.le_of_ble_eq_true rfl)) dX0_readTokens_63 ⟨Nat.zero_le _, Nat.zero_le _⟩) (fun H55 lc55 hP55 hD55 hS55 => ?_); clear sb54 hcl53
        clear hP46 hD46 hS46
        have hP55 : va_P D vwCl (wf [oB (r0 0) 0 [.ref (r0 1), .ref (r0 2), .ref (r0 3), .ref (r0 4), .ref (r0 5), .ref (r0 6), .int f_columns, .int f_rows, .int f_scale, .int f_toEnd_40, .int f_between, .int f_kept], aI (r0 1) cI 36 f_modes, aQ (r0 4) cQ r0, aI (r0 5) cI 36 f_places_41, aI (r1 1) cB 6000 t_bytes, oB (r2 0) 1 [.ref (r2 1), .ref (r2 2), .ref (r2 3), .ref (r2 5), .ref (r2 7), .int h_columns, .int h_rows, .int h_limit], oB (r2 3) 5 [.ref (r2 4), .int h_h1_nodeCount, .int h_h1_tokenCount, .int h_h1_root], aI (r2 4) cI 88 h_h1_branches, oB (r2 5) 5 [.ref (r2 6), .int h_h2_nodeCount, .int h_h2_tokenCount, .int h_h2_root], aI (r2 6) cI 88 h_h2_branches, aI (r2 7) cI 36 h_order, oB (r1 0) 4 [.ref (r1 1), .int t_size, .int t_position_43, .int t_fault_44]] [rowsW cI r0 f_grid_42]) H55 := hP55
        have hD55 : va_D A (wf [oB (r0 0) 0 [.ref (r0 1), .ref (r0 2), .ref (r0 3), .ref (r0 4), .ref (r0 5), .ref (r0 6), .int f_columns, .int f_rows, .int f_scale, .int f_toEnd_40, .int f_between, .int f_kept], aI (r0 1) cI 36 f_modes, aQ (r0 4) cQ r0, aI (r0 5) cI 36 f_places_41, aI (r1 1) cB 6000 t_bytes, oB (r2 0) 1 [.ref (r2 1), .ref (r2 2), .ref (r2 3), .ref (r2 5), .ref (r2 7), .int h_columns, .int h_rows, .int h_limit], oB (r2 3) 5 [.ref (r2 4), .int h_h1_nodeCount, .int h_h1_tokenCount, .int h_h1_root], aI (r2 4) cI 88 h_h1_branches, oB (r2 5) 5 [.ref (r2 6), .int h_h2_nodeCount, .int h_h2_tokenCount, .int h_h2_root], aI (r2 6) cI 88 h_h2_branches, aI (r2 7) cI 36 h_order, oB (r1 0) 4 [.ref (r1 1), .int t_size, .int t_position_43, .int t_fault_44]] [rowsW cI r0 f_grid_42]) := hD55
        refine lv_if_eq (tgt := 127) hx hb dX0_readTokens_66 (by decide) (fun hc56 => ?_) (fun hc56 => ?_)
        · have hm57 := bq_t hm53 hc56; clear hm53
          obtain ⟨hP58, hD58⟩ := ct_ord [0, 1, 2, 3, 11, 4, 5, 6, 7, 8, 9, 10] [0] hP55 hD55 rfl rfl rfl rfl
          have hS58 := hS55
          have hP58 : va_P D vwCl (wf [oB (r0 0) 0 [.ref (r0 1), .ref (r0 2), .ref (r0 3), .ref (r0 4), .ref (r0 5), .ref (r0 6), .int f_columns, .int f_rows, .int f_scale, .int f_toEnd_40, .int f_between, .int f_kept], aI (r0 1) cI 36 f_modes, aQ (r0 4) cQ r0, aI (r0 5) cI 36 f_places_41, oB (r1 0) 4 [.ref (r1 1), .int t_size, .int t_position_43, .int t_fault_44], aI (r1 1) cB 6000 t_bytes, oB (r2 0) 1 [.ref (r2 1), .ref (r2 2), .ref (r2 3), .ref (r2 5), .ref (r2 7), .int h_columns, .int h_rows, .int h_limit], oB (r2 3) 5 [.ref (r2 4), .int h_h1_nodeCount, .int h_h1_tokenCount, .int h_h1_root], aI (r2 4) cI 88 h_h1_branches, oB (r2 5) 5 [.ref (r2 6), .int h_h2_nodeCount, .int h_h2_tokenCount, .int h_h2_root], aI (r2 6) cI 88 h_h2_branches, aI (r2 7) cI 36 h_order] [rowsW cI r0 f_grid_42]) H55 := hP58
          have hD58 : va_D A (wf [oB (r0 0) 0 [.ref (r0 1), .ref (r0 2), .ref (r0 3), .ref (r0 4), .ref (r0 5), .ref (r0 6), .int f_columns, .int f_rows, .int f_scale, .int f_toEnd_40, .int f_between, .int f_kept], aI (r0 1) cI 36 f_modes, aQ (r0 4) cQ r0, aI (r0 5) cI 36 f_places_41, oB (r1 0) 4 [.ref (r1 1), .int t_size, .int t_position_43, .int t_fault_44], aI (r1 1) cB 6000 t_bytes, oB (r2 0) 1 [.ref (r2 1), .ref (r2 2), .ref (r2 3), .ref (r2 5), .ref (r2 7), .int h_columns, .int h_rows, .int h_limit], oB (r2 3) 5 [.ref (r2 4), .int h_h1_nodeCount, .int h_h1_tokenCount, .int h_h1_root], aI (r2 4) cI 88 h_h1_branches, oB (r2 5) 5 [.ref (r2 6), .int h_h2_nodeCount, .int h_h2_tokenCount, .int h_h2_root], aI (r2 6) cI 88 h_h2_branches, aI (r2 7) cI 36 h_order] [rowsW cI r0 f_grid_42]) := hD58
          obtain rfl := Option.some.inj hm57
          exact kx _ _ _ hP58 hD58 hS58 (lv_sub hl46 [] rfl)
        · have hm59 := bq_f hm53 hc56; clear hm53
          refine lv_aload_n hx hb dX0_readTokens_69 rfl (lv_at hl46 2 rfl) ?_
          refine lv_iload hx hb dX0_readTokens_70 (lv_at hl46 4 rfl) ?_
          by_cases hc60 : v4_45 = (0 : Int32)
          · have hm61 := bq_t hm59 hc60; clear hm59
            have sb62 := ctS.mk (pre := [oB (r0 0) 0 [.ref (r0 1), .ref (r0 2), .ref (r0 3), .ref (r0 4), .ref (r0 5), .ref (r0 6), .int f_columns, .int f_rows, .int f_scale, .int f_toEnd_40, .int f_between, .int f_kept], aI (r0 1) cI 36 f_modes, aQ (r0 4) cQ r0, aI (r0 5) cI 36 f_places_41, aI (r1 1) cB 6000 t_bytes, oB (r2 0) 1 [.ref (r2 1), .ref (r2 2), .ref (r2 3), .ref (r2 5), .ref (r2 7), .int h_columns, .int h_rows, .int h_limit], oB (r2 3) 5 [.ref (r2 4), .int h_h1_nodeCount, .int h_h1_tokenCount, .int h_h1_root], aI (r2 4) cI 88 h_h1_branches, oB (r2 5) 5 [.ref (r2 6), .int h_h2_nodeCount, .int h_h2_tokenCount, .int h_h2_root], aI (r2 6) cI 88 h_h2_branches, aI (r2 7) cI 36 h_order, oB (r1 0) 4 [.ref (r1 1), .int t_size, .int t_position_43, .int t_fault_44]]) (tl := [rowsW cI r0 f_grid_42]) [5] [0, 1, 2, 3, 4, 6, 7, 8, 9, 10, 11] [] [0] rfl rfl rfl rfl
            refine ct_callr (ra := r2 3) E sb62 hP55 hD55 hS55 (va_runV (As := [.int v4_45]) (rest := []) ⟨hx, hb, hml, hown, hts⟩ (c_X1_treeFor_t l D cB cI cJ cQ N r2 H55.size v4_45 h_columns h_rows h_limit hc60) (cwV 1 hts gX0_readTokens_X1_treeFor rfl rfl rfl cdV_X1_treeFor ⟨Nat.le_of_ble_eq_true rfl, Nat.le_of_ble_eq_true rfl⟩) (ct_preV (q0 := 5) (ci := 1) E sb62 hP55 hD55 hS55 rfl rfl) rfl rfl hl46.1 rfl (lv_room (Nat.le_of_ble_eq_true rfl)) dX0_readTokens_72 ⟨Nat.zero_le _, Nat.zero_le _⟩) (fun H63 lc63 hP63 hD63 hS63 => ?_); clear sb62
            clear hP55 hD55 hS55
            have hP63 : va_P D vwCl (wf [oB (r0 0) 0 [.ref (r0 1), .ref (r0 2), .ref (r0 3), .ref (r0 4), .ref (r0 5), .ref (r0 6), .int f_columns, .int f_rows, .int f_scale, .int f_toEnd_40, .int f_between, .int f_kept], aI (r0 1) cI 36 f_modes, aQ (r0 4) cQ r0, aI (r0 5) cI 36 f_places_41, aI (r1 1) cB 6000 t_bytes, oB (r2 3) 5 [.ref (r2 4), .int h_h1_nodeCount, .int h_h1_tokenCount, .int h_h1_root], aI (r2 4) cI 88 h_h1_branches, oB (r2 5) 5 [.ref (r2 6), .int h_h2_nodeCount, .int h_h2_tokenCount, .int h_h2_root], aI (r2 6) cI 88 h_h2_branches, aI (r2 7) cI 36 h_order, oB (r1 0) 4 [.ref (r1 1), .int t_size, .int t_position_43, .int t_fault_44], oB (r2 0) 1 [.ref (r2 1), .ref (r2 2), .ref (r2 3), .ref (r2 5), .ref (r2 7), .int h_columns, .int h_rows, .int h_limit]] [rowsW cI r0 f_grid_42]) H63 := hP63
            have hD63 : va_D A (wf [oB (r0 0) 0 [.ref (r0 1), .ref (r0 2), .ref (r0 3), .ref (r0 4), .ref (r0 5), .ref (r0 6), .int f_columns, .int f_rows, .int f_scale, .int f_toEnd_40, .int f_between, .int f_kept], aI (r0 1) cI 36 f_modes, aQ (r0 4) cQ r0, aI (r0 5) cI 36 f_places_41, aI (r1 1) cB 6000 t_bytes, oB (r2 3) 5 [.ref (r2 4), .int h_h1_nodeCount, .int h_h1_tokenCount, .int h_h1_root], aI (r2 4) cI 88 h_h1_branches, oB (r2 5) 5 [.ref (r2 6), .int h_h2_nodeCount, .int h_h2_tokenCount, .int h_h2_root], aI (r2 6) cI 88 h_h2_branches, aI (r2 7) cI 36 h_order, oB (r1 0) 4 [.ref (r1 1), .int t_size, .int t_position_43, .int t_fault_44], oB (r2 0) 1 [.ref (r2 1), .ref (r2 2), .ref (r2 3), .ref (r2 5), .ref (r2 7), .int h_columns, .int h_rows, .int h_limit]] [rowsW cI r0 f_grid_42]) := hD63
            refine lv_astore (lv' := [(5, .ref (r2 3)), (0, .ref (r0 0)), (1, .ref (r1 0)), (2, .ref (r2 0)), (3, .int v3_1), (4, .int v4_45)]) hx hb dX0_readTokens_75 hl46 (by decide) rfl (fun ls64 hl64 => ?_); clear hl46
            refine lv_iconst (v := 0) hx hb dX0_readTokens_77 (by decide) ?_
            refine lv_istore (lv' := [(6, .int (0 : Int32)), (5, .ref (r2 3)), (0, .ref (r0 0)), (1, .ref (r1 0)), (2, .ref (r2 0)), (3, .int v3_1), (4, .int v4_45)]) hx hb dX0_readTokens_78 hl64 (by decide) rfl (fun ls65 hl65 => ?_); clear hl64
            obtain ⟨f_toEnd_110, f_places_111, f_grid_112, t_position_113, t_fault_114, hlp66, hm115⟩ := bd5_some hm61; clear hm61
            have LP66 : ∀ (n : Nat) (f_toEnd_67 : Int32) (f_places_68 : Nat → Int32) (f_grid_69 : Nat → Nat → Int32) (t_position_70 : Int32) (t_fault_71 : Int32) (v6_72 : Int32) (z66 : Int32 × (Nat → Int32) × (Nat → Nat → Int32) × Int32 × Int32) (H73 : Heap) (lc73 : List Loc) (ls73 : Array Slot), f_X0_readTokens_L80 t_size t_bytes h_h1_root h_h1_branches h_order v3_1 v4_45 n f_toEnd_67 f_places_68 f_grid_69 t_position_70 t_fault_71 v6_72 = some z66 → va_P D vwCl (wf [oB (r0 0) 0 [.ref (r0 1), .ref (r0 2), .ref (r0 3), .ref (r0 4), .ref (r0 5), .ref (r0 6), .int f_columns, .int f_rows, .int f_scale, .int f_toEnd_67, .int f_between, .int f_kept], aI (r0 1) cI 36 f_modes, aQ (r0 4) cQ r0, aI (r0 5) cI 36 f_places_68, aI (r1 1) cB 6000 t_bytes, oB (r2 3) 5 [.ref (r2 4), .int h_h1_nodeCount, .int h_h1_tokenCount, .int h_h1_root], aI (r2 4) cI 88 h_h1_branches, oB (r2 5) 5 [.ref (r2 6), .int h_h2_nodeCount, .int h_h2_tokenCount, .int h_h2_root], aI (r2 6) cI 88 h_h2_branches, aI (r2 7) cI 36 h_order, oB (r1 0) 4 [.ref (r1 1), .int t_size, .int t_position_70, .int t_fault_71], oB (r2 0) 1 [.ref (r2 1), .ref (r2 2), .ref (r2 3), .ref (r2 5), .ref (r2 7), .int h_columns, .int h_rows, .int h_limit]] [rowsW cI r0 f_grid_69]) H73 → va_D A (wf [oB (r0 0) 0 [.ref (r0 1), .ref (r0 2), .ref (r0 3), .ref (r0 4), .ref (r0 5), .ref (r0 6), .int f_columns, .int f_rows, .int f_scale, .int f_toEnd_67, .int f_between, .int f_kept], aI (r0 1) cI 36 f_modes, aQ (r0 4) cQ r0, aI (r0 5) cI 36 f_places_68, aI (r1 1) cB 6000 t_bytes, oB (r2 3) 5 [.ref (r2 4), .int h_h1_nodeCount, .int h_h1_tokenCount, .int h_h1_root], aI (r2 4) cI 88 h_h1_branches, oB (r2 5) 5 [.ref (r2 6), .int h_h2_nodeCount, .int h_h2_tokenCount, .int h_h2_root], aI (r2 6) cI 88 h_h2_branches, aI (r2 7) cI 36 h_order, oB (r1 0) 4 [.ref (r1 1), .int t_size, .int t_position_70, .int t_fault_71], oB (r2 0) 1 [.ref (r2 1), .ref (r2 2), .ref (r2 3), .ref (r2 5), .ref (r2 7), .int h_columns, .int h_rows, .int h_limit]] [rowsW cI r0 f_grid_69]) → va_S A s.heap H73 lc73 → lv_has ls73 8 [(0, .ref (r0 0)), (1, .ref (r1 0)), (2, .ref (r2 0)), (3, .int v3_1), (4, .int v4_45), (5, .ref (r2 3)), (6, .int v6_72)] → (∀ (H : Heap) (lc : List Loc) (ls : Array Slot), va_P D vwCl (wf [oB (r0 0) 0 [.ref (r0 1), .ref (r0 2), .ref (r0 3), .ref (r0 4), .ref (r0 5), .ref (r0 6), .int f_columns, .int f_rows, .int f_scale, .int (z66.1), .int f_between, .int f_kept], aI (r0 1) cI 36 f_modes, aQ (r0 4) cQ r0, aI (r0 5) cI 36 (z66.2.1), aI (r1 1) cB 6000 t_bytes, oB (r2 3) 5 [.ref (r2 4), .int h_h1_nodeCount, .int h_h1_tokenCount, .int h_h1_root], aI (r2 4) cI 88 h_h1_branches, oB (r2 5) 5 [.ref (r2 6), .int h_h2_nodeCount, .int h_h2_tokenCount, .int h_h2_root], aI (r2 6) cI 88 h_h2_branches, aI (r2 7) cI 36 h_order, oB (r1 0) 4 [.ref (r1 1), .int t_size, .int (z66.2.2.2.1), .int (z66.2.2.2.2)], oB (r2 0) 1 [.ref (r2 1), .ref (r2 2), .ref (r2 3), .ref (r2 5), .ref (r2 7), .int h_columns, .int h_rows, .int h_limit]] [rowsW cI r0 (z66.2.2.1)]) H → va_D A (wf [oB (r0 0) 0 [.ref (r0 1), .ref (r0 2), .ref (r0 3), .ref (r0 4), .ref (r0 5), .ref (r0 6), .int f_columns, .int f_rows, .int f_scale, .int (z66.1), .int f_between, .int f_kept], aI (r0 1) cI 36 f_modes, aQ (r0 4) cQ r0, aI (r0 5) cI 36 (z66.2.1), aI (r1 1) cB 6000 t_bytes, oB (r2 3) 5 [.ref (r2 4), .int h_h1_nodeCount, .int h_h1_tokenCount, .int h_h1_root], aI (r2 4) cI 88 h_h1_branches, oB (r2 5) 5 [.ref (r2 6), .int h_h2_nodeCount, .int h_h2_tokenCount, .int h_h2_root], aI (r2 6) cI 88 h_h2_branches, aI (r2 7) cI 36 h_order, oB (r1 0) 4 [.ref (r1 1), .int t_size, .int (z66.2.2.2.1), .int (z66.2.2.2.2)], oB (r2 0) 1 [.ref (r2 1), .ref (r2 2), .ref (r2 3), .ref (r2 5), .ref (r2 7), .int h_columns, .int h_rows, .int h_limit]] [rowsW cI r0 (z66.2.2.1)]) → va_S A s.heap H lc → lv_has ls 8 [(0, .ref (r0 0)), (1, .ref (r1 0)), (2, .ref (r2 0)), (3, .int v3_1), (4, .int v4_45)] → W p l e rm_X0_readTokens s m args below meth c H lc 0 0 QQ (F0 m 121 ls [])) → W p l e rm_X0_readTokens s m args below meth c H73 lc73 0 0 QQ (F0 m 80 ls73 []) := by
              intro n
              induction n with
              | zero =>
                intro f_toEnd_67 f_places_68 f_grid_69 t_position_70 t_fault_71 v6_72 z66 H73 lc73 ls73 hm75; simp [f_X0_readTokens_L80] at hm75
              | succ n ih =>
                intro f_toEnd_67 f_places_68 f_grid_69 t_position_70 t_fault_71 v6_72 z66 H73 lc73 ls73 hm75 hP73 hD73 hS73 hl73 kx
                rw [f_X0_readTokens_L80] at hm75
                refine lv_iload hx hb dX0_readTokens_80 (lv_at hl73 6 rfl) ?_
                refine lv_iload_n hx hb dX0_readTokens_82 rfl (lv_at hl73 3 rfl) ?_
                refine lv_icmp_ge (tgt := 121) hx hb dX0_readTokens_83 (by decide) (fun hc76 => ?_) (fun hc76 => ?_)
                · have hm77 := bq_t hm75 hc76; clear hm75
                  obtain rfl := Option.some.inj hm77
                  exact kx _ _ _ hP73 hD73 hS73 (lv_sub hl73 [0, 1, 2, 3, 4] rfl)
                · have hm78 := bq_f hm75 hc76; clear hm75
                  refine lv_aload_n hx hb dX0_readTokens_86 rfl (lv_at hl73 2 rfl) ?_
                  refine lv_iload hx hb dX0_readTokens_87 (lv_at hl73 6 rfl) ?_
                  obtain ⟨y_79, hcl80, hm80⟩ := bd1_some hm78; clear hm78
                  have sb81 := ctS.mk (pre := [oB (r0 0) 0 [.ref (r0 1), .ref (r0 2), .ref (r0 3), .ref (r0 4), .ref (r0 5), .ref (r0 6), .int f_columns, .int f_rows, .int f_scale, .int f_toEnd_67, .int f_between, .int f_kept], aI (r0 1) cI 36 f_modes, aQ (r0 4) cQ r0, aI (r0 5) cI 36 f_places_68, aI (r1 1) cB 6000 t_bytes, oB (r2 3) 5 [.ref (r2 4), .int h_h1_nodeCount, .int h_h1_tokenCount, .int h_h1_root], aI (r2 4) cI 88 h_h1_branches, oB (r2 5) 5 [.ref (r2 6), .int h_h2_nodeCount, .int h_h2_tokenCount, .int h_h2_root], aI (r2 6) cI 88 h_h2_branches, aI (r2 7) cI 36 h_order, oB (r1 0) 4 [.ref (r1 1), .int t_size, .int t_position_70, .int t_fault_71], oB (r2 0) 1 [.ref (r2 1), .ref (r2 2), .ref (r2 3), .ref (r2 5), .ref (r2 7), .int h_columns, .int h_rows, .int h_limit]]) (tl := [rowsW cI r0 f_grid_69]) [11, 9] [0, 1, 2, 3, 4, 5, 6, 7, 8, 10] [] [0] rfl rfl rfl rfl
                  refine ct_calli (r := y_79) E sb81 hP73 hD73 hS73 (va_runV (As := [.int v6_72]) (rest := []) ⟨hx, hb, hml, hown, hts⟩ (c_X1_ordered l D cB cI cJ cQ N r2 H73.size v6_72 h_columns h_rows h_limit h_order (y_79) hcl80) (cwV 1 hts gX0_readTokens_X1_ordered rfl rfl rfl cdV_X1_ordered ⟨Nat.le_of_ble_eq_true rfl, Nat.le_of_ble_eq_true rfl⟩) (ct_preV (q0 := 11) (ci := 1) E sb81 hP73 hD73 hS73 rfl rfl) rfl rfl hl73.1 rfl (lv_room (Nat.le_of_ble_eq_true rfl)) dX0_readTokens_89 ⟨Nat.zero_le _, Nat.zero_le _⟩) (fun H82 lc82 hP82 hD82 hS82 => ?_); clear sb81 hcl80
                  clear hP73 hD73 hS73
                  have hP82 : va_P D vwCl (wf [oB (r0 0) 0 [.ref (r0 1), .ref (r0 2), .ref (r0 3), .ref (r0 4), .ref (r0 5), .ref (r0 6), .int f_columns, .int f_rows, .int f_scale, .int f_toEnd_67, .int f_between, .int f_kept], aI (r0 1) cI 36 f_modes, aQ (r0 4) cQ r0, aI (r0 5) cI 36 f_places_68, aI (r1 1) cB 6000 t_bytes, oB (r2 3) 5 [.ref (r2 4), .int h_h1_nodeCount, .int h_h1_tokenCount, .int h_h1_root], aI (r2 4) cI 88 h_h1_branches, oB (r2 5) 5 [.ref (r2 6), .int h_h2_nodeCount, .int h_h2_tokenCount, .int h_h2_root], aI (r2 6) cI 88 h_h2_branches, oB (r1 0) 4 [.ref (r1 1), .int t_size, .int t_position_70, .int t_fault_71], oB (r2 0) 1 [.ref (r2 1), .ref (r2 2), .ref (r2 3), .ref (r2 5), .ref (r2 7), .int h_columns, .int h_rows, .int h_limit], aI (r2 7) cI 36 h_order] [rowsW cI r0 f_grid_69]) H82 := hP82
                  have hD82 : va_D A (wf [oB (r0 0) 0 [.ref (r0 1), .ref (r0 2), .ref (r0 3), .ref (r0 4), .ref (r0 5), .ref (r0 6), .int f_columns, .int f_rows, .int f_scale, .int f_toEnd_67, .int f_between, .int f_kept], aI (r0 1) cI 36 f_modes, aQ (r0 4) cQ r0, aI (r0 5) cI 36 f_places_68, aI (r1 1) cB 6000 t_bytes, oB (r2 3) 5 [.ref (r2 4), .int h_h1_nodeCount, .int h_h1_tokenCount, .int h_h1_root], aI (r2 4) cI 88 h_h1_branches, oB (r2 5) 5 [.ref (r2 6), .int h_h2_nodeCount, .int h_h2_tokenCount, .int h_h2_root], aI (r2 6) cI 88 h_h2_branches, oB (r1 0) 4 [.ref (r1 1), .int t_size, .int t_position_70, .int t_fault_71], oB (r2 0) 1 [.ref (r2 1), .ref (r2 2), .ref (r2 3), .ref (r2 5), .ref (r2 7), .int h_columns, .int h_rows, .int h_limit], aI (r2 7) cI 36 h_order] [rowsW cI r0 f_grid_69]) := hD82
                  refine lv_istore (lv' := [(7, .int y_79), (0, .ref (r0 0)), (1, .ref (r1 0)), (2, .ref (r2 0)), (3, .int v3_1), (4, .int v4_45), (5, .ref (r2 3)), (6, .int v6_72)]) hx hb dX0_readTokens_92 hl73 (by decide) rfl (fun ls83 hl83 => ?_); clear hl73
                  refine lv_aload_n hx hb dX0_readTokens_94 rfl (lv_at hl83 1 rfl) ?_
                  refine va_get (D := D) (ci := 0) (v := .ref (r0 5)) (C := RX0) (T := TX0) (N := 12) hx hb hts hi_X0_readTokens_0 hown E.1 hP82 0 rfl rfl 4 (by decide) (hts _ (List.mem_of_getElem? (i := 3) rfl)) (fun _ h9 => h9) rfl dX0_readTokens_95 ?_
                  refine lv_iload hx hb dX0_readTokens_98 (lv_at hl83 0 rfl) ?_
                  obtain ⟨hin84, hm84⟩ := gi_some hm80; clear hm80
                  refine va_iald hx hb E.1 hP82 3 0 rfl rfl hin84 dX0_readTokens_100 ?_
                  refine lv_iload hx hb dX0_readTokens_101 (lv_at hl83 5 rfl) ?_
                  obtain ⟨k86, ek86, hm86⟩ := jn_some hm84; clear hm84
                  have KJ86 : ∀ (f_toEnd_87 : Int32) (f_places_88 : Nat → Int32) (f_grid_89 : Nat → Nat → Int32) (t_position_90 : Int32) (t_fault_91 : Int32) (H92 : Heap) (lc92 : List Loc) (ls92 : Array Slot), k86 f_toEnd_87 f_places_88 f_grid_89 t_position_90 t_fault_91 = some z66 → va_P D vwCl (wf [oB (r0 0) 0 [.ref (r0 1), .ref (r0 2), .ref (r0 3), .ref (r0 4), .ref (r0 5), .ref (r0 6), .int f_columns, .int f_rows, .int f_scale, .int f_toEnd_87, .int f_between, .int f_kept], aI (r0 1) cI 36 f_modes, aQ (r0 4) cQ r0, aI (r0 5) cI 36 f_places_88, aI (r1 1) cB 6000 t_bytes, oB (r2 3) 5 [.ref (r2 4), .int h_h1_nodeCount, .int h_h1_tokenCount, .int h_h1_root], aI (r2 4) cI 88 h_h1_branches, oB (r2 5) 5 [.ref (r2 6), .int h_h2_nodeCount, .int h_h2_tokenCount, .int h_h2_root], aI (r2 6) cI 88 h_h2_branches, oB (r1 0) 4 [.ref (r1 1), .int t_size, .int t_position_90, .int t_fault_91], oB (r2 0) 1 [.ref (r2 1), .ref (r2 2), .ref (r2 3), .ref (r2 5), .ref (r2 7), .int h_columns, .int h_rows, .int h_limit], aI (r2 7) cI 36 h_order] [rowsW cI r0 f_grid_89]) H92 → va_D A (wf [oB (r0 0) 0 [.ref (r0 1), .ref (r0 2), .ref (r0 3), .ref (r0 4), .ref (r0 5), .ref (r0 6), .int f_columns, .int f_rows, .int f_scale, .int f_toEnd_87, .int f_between, .int f_kept], aI (r0 1) cI 36 f_modes, aQ (r0 4) cQ r0, aI (r0 5) cI 36 f_places_88, aI (r1 1) cB 6000 t_bytes, oB (r2 3) 5 [.ref (r2 4), .int h_h1_nodeCount, .int h_h1_tokenCount, .int h_h1_root], aI (r2 4) cI 88 h_h1_branches, oB (r2 5) 5 [.ref (r2 6), .int h_h2_nodeCount, .int h_h2_tokenCount, .int h_h2_root], aI (r2 6) cI 88 h_h2_branches, oB (r1 0) 4 [.ref (r1 1), .int t_size, .int t_position_90, .int t_fault_91], oB (r2 0) 1 [.ref (r2 1), .ref (r2 2), .ref (r2 3), .ref (r2 5), .ref (r2 7), .int h_columns, .int h_rows, .int h_limit], aI (r2 7) cI 36 h_order] [rowsW cI r0 f_grid_89]) → va_S A s.heap H92 lc92 → lv_has ls92 8 [(0, .ref (r0 0)), (1, .ref (r1 0)), (2, .ref (r2 0)), (3, .int v3_1), (4, .int v4_45), (5, .ref (r2 3)), (6, .int v6_72)] → W p l e rm_X0_readTokens s m args below meth c H92 lc92 0 0 QQ (F0 m 115 ls92 []) := by
                    intro f_toEnd_87 f_places_88 f_grid_89 t_position_90 t_fault_91 H92 lc92 ls92 hm93 hP92 hD92 hS92 hl92
                    rw [ek86] at hm93
                    obtain ⟨v6_94, ev6_94, hm95⟩ := nm_some hm93; clear hm93
                    refine lv_iinc (v := v6_94) (lv' := [(6, .int v6_94), (0, .ref (r0 0)), (1, .ref (r1 0)), (2, .ref (r2 0)), (3, .int v3_1), (4, .int v4_45), (5, .ref (r2 3))]) hx hb dX0_readTokens_115 hl92 (k := 6) rfl (by rw [ev6_94]; rfl) (by decide) rfl (fun ls96 hl96 => ?_); clear hl92
                    refine lv_goto (tgt := 80) hx hb dX0_readTokens_118 (by decide) ?_
                    obtain ⟨hP97, hD97⟩ := ct_ord [0, 1, 2, 3, 4, 5, 6, 7, 8, 11, 9, 10] [0] hP92 hD92 rfl rfl rfl rfl
                    have hS97 := hS92
                    have hP97 : va_P D vwCl (wf [oB (r0 0) 0 [.ref (r0 1), .ref (r0 2), .ref (r0 3), .ref (r0 4), .ref (r0 5), .ref (r0 6), .int f_columns, .int f_rows, .int f_scale, .int f_toEnd_87, .int f_between, .int f_kept], aI (r0 1) cI 36 f_modes, aQ (r0 4) cQ r0, aI (r0 5) cI 36 f_places_88, aI (r1 1) cB 6000 t_bytes, oB (r2 3) 5 [.ref (r2 4), .int h_h1_nodeCount, .int h_h1_tokenCount, .int h_h1_root], aI (r2 4) cI 88 h_h1_branches, oB (r2 5) 5 [.ref (r2 6), .int h_h2_nodeCount, .int h_h2_tokenCount, .int h_h2_root], aI (r2 6) cI 88 h_h2_branches, aI (r2 7) cI 36 h_order, oB (r1 0) 4 [.ref (r1 1), .int t_size, .int t_position_90, .int t_fault_91], oB (r2 0) 1 [.ref (r2 1), .ref (r2 2), .ref (r2 3), .ref (r2 5), .ref (r2 7), .int h_columns, .int h_rows, .int h_limit]] [rowsW cI r0 f_grid_89]) H92 := hP97
                    have hD97 : va_D A (wf [oB (r0 0) 0 [.ref (r0 1), .ref (r0 2), .ref (r0 3), .ref (r0 4), .ref (r0 5), .ref (r0 6), .int f_columns, .int f_rows, .int f_scale, .int f_toEnd_87, .int f_between, .int f_kept], aI (r0 1) cI 36 f_modes, aQ (r0 4) cQ r0, aI (r0 5) cI 36 f_places_88, aI (r1 1) cB 6000 t_bytes, oB (r2 3) 5 [.ref (r2 4), .int h_h1_nodeCount, .int h_h1_tokenCount, .int h_h1_root], aI (r2 4) cI 88 h_h1_branches, oB (r2 5) 5 [.ref (r2 6), .int h_h2_nodeCount, .int h_h2_tokenCount, .int h_h2_root], aI (r2 6) cI 88 h_h2_branches, aI (r2 7) cI 36 h_order, oB (r1 0) 4 [.ref (r1 1), .int t_size, .int t_position_90, .int t_fault_91], oB (r2 0) 1 [.ref (r2 1), .ref (r2 2), .ref (r2 3), .ref (r2 5), .ref (r2 7), .int h_columns, .int h_rows, .int h_limit]] [rowsW cI r0 f_grid_89]) := hD97
                    exact ih f_toEnd_87 f_places_88 f_grid_89 t_position_90 t_fault_91 v6_94 _ _ _ _ hm95 hP97 hD97 hS97 (lv_sub hl96 [1, 2, 3, 4, 5, 6, 0] rfl) kx
                  refine lv_icmp_ne (tgt := 115) hx hb dX0_readTokens_103 (by decide) (fun hc98 => ?_) (fun hc98 => ?_)
                  · have hm99 := bq_f hm86 hc98; clear hm86
                    exact KJ86 f_toEnd_67 f_places_68 f_grid_69 t_position_70 t_fault_71 _ _ _ hm99 hP82 hD82 hS82 (lv_sub hl83 [1, 2, 3, 4, 5, 6, 7] rfl)
                  · have hm100 := bq_t hm86 hc98; clear hm86
                    refine lv_aload_n hx hb dX0_readTokens_106 rfl (lv_at hl83 1 rfl) ?_
                    refine lv_aload_n hx hb dX0_readTokens_107 rfl (lv_at hl83 2 rfl) ?_
                    refine lv_aload hx hb dX0_readTokens_108 (lv_at hl83 6 rfl) ?_
                    refine lv_iload hx hb dX0_readTokens_110 (lv_at hl83 0 rfl) ?_
                    obtain ⟨f_toEnd_101, f_places_102, f_grid_103, t_position_104, t_fault_105, hcl106, hm106⟩ := bd5_some hm100; clear hm100
                    have sb107 := ctS.mk (pre := [oB (r0 0) 0 [.ref (r0 1), .ref (r0 2), .ref (r0 3), .ref (r0 4), .ref (r0 5), .ref (r0 6), .int f_columns, .int f_rows, .int f_scale, .int f_toEnd_67, .int f_between, .int f_kept], aI (r0 1) cI 36 f_modes, aQ (r0 4) cQ r0, aI (r0 5) cI 36 f_places_68, aI (r1 1) cB 6000 t_bytes, oB (r2 3) 5 [.ref (r2 4), .int h_h1_nodeCount, .int h_h1_tokenCount, .int h_h1_root], aI (r2 4) cI 88 h_h1_branches, oB (r2 5) 5 [.ref (r2 6), .int h_h2_nodeCount, .int h_h2_tokenCount, .int h_h2_root], aI (r2 6) cI 88 h_h2_branches, oB (r1 0) 4 [.ref (r1 1), .int t_size, .int t_position_70, .int t_fault_71], oB (r2 0) 1 [.ref (r2 1), .ref (r2 2), .ref (r2 3), .ref (r2 5), .ref (r2 7), .int h_columns, .int h_rows, .int h_limit], aI (r2 7) cI 36 h_order]) (tl := [rowsW cI r0 f_grid_69]) [0, 2, 3, 9, 4, 5, 6] [1, 7, 8, 10, 11] [0] [] rfl rfl rfl rfl
                    refine ct_callv E sb107 hP82 hD82 hS82 (va_runV (As := [.ref (r1 0), .ref (r2 3), .int y_79]) (rest := []) ⟨hx, hb, hml, hown, hts⟩ (c_X0_goOn l D cB cI cJ cQ N r0 r1 (fun k => r2 (3 + k)) H82.size y_79 f_columns f_rows f_scale f_toEnd_67 f_between f_kept f_places_68 t_size t_position_70 t_fault_71 t_bytes h_h1_nodeCount h_h1_tokenCount h_h1_root h_h1_branches f_grid_69 (f_toEnd_101, f_places_102, f_grid_103, t_position_104, t_fault_105) hcl106) (cwV 3 hts gX0_readTokens_X0_goOn rfl rfl rfl cdV_X0_goOn ⟨Nat.le_of_ble_eq_true rfl, Nat.le_of_ble_eq_true rfl⟩) (ct_preV (q0 := 0) (ci := 0) E sb107 hP82 hD82 hS82 rfl rfl) rfl rfl hl83.1 rfl (lv_room (Nat.le_of_ble_eq_true rfl)) dX0_readTokens_112 ⟨Nat.zero_le _, Nat.zero_le _⟩) (fun H108 lc108 hP108 hD108 hS108 => ?_); clear sb107 hcl106
                    clear hP82 hD82 hS82
                    have hP108 : va_P D vwCl (wf [aI (r0 1) cI 36 f_modes, oB (r2 5) 5 [.ref (r2 6), .int h_h2_nodeCount, .int h_h2_tokenCount, .int h_h2_root], aI (r2 6) cI 88 h_h2_branches, oB (r2 0) 1 [.ref (r2 1), .ref (r2 2), .ref (r2 3), .ref (r2 5), .ref (r2 7), .int h_columns, .int h_rows, .int h_limit], aI (r2 7) cI 36 h_order, oB (r0 0) 0 [.ref (r0 1), .ref (r0 2), .ref (r0 3), .ref (r0 4), .ref (r0 5), .ref (r0 6), .int f_columns, .int f_rows, .int f_scale, .int f_toEnd_101, .int f_between, .int f_kept], aQ (r0 4) cQ r0, aI (r0 5) cI 36 f_places_102, oB (r1 0) 4 [.ref (r1 1), .int t_size, .int t_position_104, .int t_fault_105], aI (r1 1) cB 6000 t_bytes, oB (r2 3) 5 [.ref (r2 4), .int h_h1_nodeCount, .int h_h1_tokenCount, .int h_h1_root], aI (r2 4) cI 88 h_h1_branches] [rowsW cI r0 f_grid_103]) H108 := hP108
                    have hD108 : va_D A (wf [aI (r0 1) cI 36 f_modes, oB (r2 5) 5 [.ref (r2 6), .int h_h2_nodeCount, .int h_h2_tokenCount, .int h_h2_root], aI (r2 6) cI 88 h_h2_branches, oB (r2 0) 1 [.ref (r2 1), .ref (r2 2), .ref (r2 3), .ref (r2 5), .ref (r2 7), .int h_columns, .int h_rows, .int h_limit], aI (r2 7) cI 36 h_order, oB (r0 0) 0 [.ref (r0 1), .ref (r0 2), .ref (r0 3), .ref (r0 4), .ref (r0 5), .ref (r0 6), .int f_columns, .int f_rows, .int f_scale, .int f_toEnd_101, .int f_between, .int f_kept], aQ (r0 4) cQ r0, aI (r0 5) cI 36 f_places_102, oB (r1 0) 4 [.ref (r1 1), .int t_size, .int t_position_104, .int t_fault_105], aI (r1 1) cB 6000 t_bytes, oB (r2 3) 5 [.ref (r2 4), .int h_h1_nodeCount, .int h_h1_tokenCount, .int h_h1_root], aI (r2 4) cI 88 h_h1_branches] [rowsW cI r0 f_grid_103]) := hD108
                    obtain ⟨hP109, hD109⟩ := ct_ord [5, 0, 6, 7, 9, 10, 11, 1, 2, 8, 3, 4] [0] hP108 hD108 rfl rfl rfl rfl
                    have hS109 := hS108
                    have hP109 : va_P D vwCl (wf [oB (r0 0) 0 [.ref (r0 1), .ref (r0 2), .ref (r0 3), .ref (r0 4), .ref (r0 5), .ref (r0 6), .int f_columns, .int f_rows, .int f_scale, .int f_toEnd_101, .int f_between, .int f_kept], aI (r0 1) cI 36 f_modes, aQ (r0 4) cQ r0, aI (r0 5) cI 36 f_places_102, aI (r1 1) cB 6000 t_bytes, oB (r2 3) 5 [.ref (r2 4), .int h_h1_nodeCount, .int h_h1_tokenCount, .int h_h1_root], aI (r2 4) cI 88 h_h1_branches, oB (r2 5) 5 [.ref (r2 6), .int h_h2_nodeCount, .int h_h2_tokenCount, .int h_h2_root], aI (r2 6) cI 88 h_h2_branches, oB (r1 0) 4 [.ref (r1 1), .int t_size, .int t_position_104, .int t_fault_105], oB (r2 0) 1 [.ref (r2 1), .ref (r2 2), .ref (r2 3), .ref (r2 5), .ref (r2 7), .int h_columns, .int h_rows, .int h_limit], aI (r2 7) cI 36 h_order] [rowsW cI r0 f_grid_103]) H108 := hP109
                    have hD109 : va_D A (wf [oB (r0 0) 0 [.ref (r0 1), .ref (r0 2), .ref (r0 3), .ref (r0 4), .ref (r0 5), .ref (r0 6), .int f_columns, .int f_rows, .int f_scale, .int f_toEnd_101, .int f_between, .int f_kept], aI (r0 1) cI 36 f_modes, aQ (r0 4) cQ r0, aI (r0 5) cI 36 f_places_102, aI (r1 1) cB 6000 t_bytes, oB (r2 3) 5 [.ref (r2 4), .int h_h1_nodeCount, .int h_h1_tokenCount, .int h_h1_root], aI (r2 4) cI 88 h_h1_branches, oB (r2 5) 5 [.ref (r2 6), .int h_h2_nodeCount, .int h_h2_tokenCount, .int h_h2_root], aI (r2 6) cI 88 h_h2_branches, oB (r1 0) 4 [.ref (r1 1), .int t_size, .int t_position_104, .int t_fault_105], oB (r2 0) 1 [.ref (r2 1), .ref (r2 2), .ref (r2 3), .ref (r2 5), .ref (r2 7), .int h_columns, .int h_rows, .int h_limit], aI (r2 7) cI 36 h_order] [rowsW cI r0 f_grid_103]) := hD109
                    exact KJ86 f_toEnd_101 f_places_102 f_grid_103 t_position_104 t_fault_105 _ _ _ hm106 hP109 hD109 hS109 (lv_sub hl83 [1, 2, 3, 4, 5, 6, 7] rfl)
            refine LP66 4000 f_toEnd_40 f_places_41 f_grid_42 t_position_43 t_fault_44 (0 : Int32) (f_toEnd_110, f_places_111, f_grid_112, t_position_113, t_fault_114) _ _ _ hlp66 hP63 hD63 hS63 (lv_sub hl65 [2, 3, 4, 5, 6, 1, 0] rfl) (fun H116 lc116 ls116 hP116 hD116 hS116 hl116 => ?_); clear LP66 hlp66
            clear hP63 hD63 hS63
            have hl116 : lv_has ls116 8 [(0, .ref (r0 0)), (1, .ref (r1 0)), (2, .ref (r2 0)), (3, .int v3_1), (4, .int v4_45)] := hl116
            have hP116 : va_P D vwCl (wf [oB (r0 0) 0 [.ref (r0 1), .ref (r0 2), .ref (r0 3), .ref (r0 4), .ref (r0 5), .ref (r0 6), .int f_columns, .int f_rows, .int f_scale, .int f_toEnd_110, .int f_between, .int f_kept], aI (r0 1) cI 36 f_modes, aQ (r0 4) cQ r0, aI (r0 5) cI 36 f_places_111, aI (r1 1) cB 6000 t_bytes, oB (r2 3) 5 [.ref (r2 4), .int h_h1_nodeCount, .int h_h1_tokenCount, .int h_h1_root], aI (r2 4) cI 88 h_h1_branches, oB (r2 5) 5 [.ref (r2 6), .int h_h2_nodeCount, .int h_h2_tokenCount, .int h_h2_root], aI (r2 6) cI 88 h_h2_branches, aI (r2 7) cI 36 h_order, oB (r1 0) 4 [.ref (r1 1), .int t_size, .int t_position_113, .int t_fault_114], oB (r2 0) 1 [.ref (r2 1), .ref (r2 2), .ref (r2 3), .ref (r2 5), .ref (r2 7), .int h_columns, .int h_rows, .int h_limit]] [rowsW cI r0 f_grid_112]) H116 := hP116
            have hD116 : va_D A (wf [oB (r0 0) 0 [.ref (r0 1), .ref (r0 2), .ref (r0 3), .ref (r0 4), .ref (r0 5), .ref (r0 6), .int f_columns, .int f_rows, .int f_scale, .int f_toEnd_110, .int f_between, .int f_kept], aI (r0 1) cI 36 f_modes, aQ (r0 4) cQ r0, aI (r0 5) cI 36 f_places_111, aI (r1 1) cB 6000 t_bytes, oB (r2 3) 5 [.ref (r2 4), .int h_h1_nodeCount, .int h_h1_tokenCount, .int h_h1_root], aI (r2 4) cI 88 h_h1_branches, oB (r2 5) 5 [.ref (r2 6), .int h_h2_nodeCount, .int h_h2_tokenCount, .int h_h2_root], aI (r2 6) cI 88 h_h2_branches, aI (r2 7) cI 36 h_order, oB (r1 0) 4 [.ref (r1 1), .int t_size, .int t_position_113, .int t_fault_114], oB (r2 0) 1 [.ref (r2 1), .ref (r2 2), .ref (r2 3), .ref (r2 5), .ref (r2 7), .int h_columns, .int h_rows, .int h_limit]] [rowsW cI r0 f_grid_112]) := hD116
            obtain ⟨v4_117, ev4_117, hm118⟩ := nm_some hm115; clear hm115
            refine lv_iinc (v := v4_117) (lv' := [(4, .int v4_117), (0, .ref (r0 0)), (1, .ref (r1 0)), (2, .ref (r2 0)), (3, .int v3_1)]) hx hb dX0_readTokens_121 hl116 (k := 4) rfl (by rw [ev4_117]; rfl) (by decide) rfl (fun ls119 hl119 => ?_); clear hl116
            refine lv_goto (tgt := 55) hx hb dX0_readTokens_124 (by decide) ?_
            obtain ⟨hP120, hD120⟩ := ct_ord [0, 1, 2, 3, 10, 4, 11, 5, 6, 7, 8, 9] [0] hP116 hD116 rfl rfl rfl rfl
            have hS120 := hS116
            have hP120 : va_P D vwCl (wf [oB (r0 0) 0 [.ref (r0 1), .ref (r0 2), .ref (r0 3), .ref (r0 4), .ref (r0 5), .ref (r0 6), .int f_columns, .int f_rows, .int f_scale, .int f_toEnd_110, .int f_between, .int f_kept], aI (r0 1) cI 36 f_modes, aQ (r0 4) cQ r0, aI (r0 5) cI 36 f_places_111, oB (r1 0) 4 [.ref (r1 1), .int t_size, .int t_position_113, .int t_fault_114], aI (r1 1) cB 6000 t_bytes, oB (r2 0) 1 [.ref (r2 1), .ref (r2 2), .ref (r2 3), .ref (r2 5), .ref (r2 7), .int h_columns, .int h_rows, .int h_limit], oB (r2 3) 5 [.ref (r2 4), .int h_h1_nodeCount, .int h_h1_tokenCount, .int h_h1_root], aI (r2 4) cI 88 h_h1_branches, oB (r2 5) 5 [.ref (r2 6), .int h_h2_nodeCount, .int h_h2_tokenCount, .int h_h2_root], aI (r2 6) cI 88 h_h2_branches, aI (r2 7) cI 36 h_order] [rowsW cI r0 f_grid_112]) H116 := hP120
            have hD120 : va_D A (wf [oB (r0 0) 0 [.ref (r0 1), .ref (r0 2), .ref (r0 3), .ref (r0 4), .ref (r0 5), .ref (r0 6), .int f_columns, .int f_rows, .int f_scale, .int f_toEnd_110, .int f_between, .int f_kept], aI (r0 1) cI 36 f_modes, aQ (r0 4) cQ r0, aI (r0 5) cI 36 f_places_111, oB (r1 0) 4 [.ref (r1 1), .int t_size, .int t_position_113, .int t_fault_114], aI (r1 1) cB 6000 t_bytes, oB (r2 0) 1 [.ref (r2 1), .ref (r2 2), .ref (r2 3), .ref (r2 5), .ref (r2 7), .int h_columns, .int h_rows, .int h_limit], oB (r2 3) 5 [.ref (r2 4), .int h_h1_nodeCount, .int h_h1_tokenCount, .int h_h1_root], aI (r2 4) cI 88 h_h1_branches, oB (r2 5) 5 [.ref (r2 6), .int h_h2_nodeCount, .int h_h2_tokenCount, .int h_h2_root], aI (r2 6) cI 88 h_h2_branches, aI (r2 7) cI 36 h_order] [rowsW cI r0 f_grid_112]) := hD120
            exact ih f_toEnd_110 f_places_111 f_grid_112 t_position_113 t_fault_114 v4_117 _ _ _ _ hm118 hP120 hD120 hS120 (lv_sub hl119 [1, 2, 3, 4, 0] rfl) kx
          · have hm121 := bq_f hm59 hc60; clear hm59
            have sb122 := ctS.mk (pre := [oB (r0 0) 0 [.ref (r0 1), .ref (r0 2), .ref (r0 3), .ref (r0 4), .ref (r0 5), .ref (r0 6), .int f_columns, .int f_rows, .int f_scale, .int f_toEnd_40, .int f_between, .int f_kept], aI (r0 1) cI 36 f_modes, aQ (r0 4) cQ r0, aI (r0 5) cI 36 f_places_41, aI (r1 1) cB 6000 t_bytes, oB (r2 0) 1 [.ref (r2 1), .ref (r2 2), .ref (r2 3), .ref (r2 5), .ref (r2 7), .int h_columns, .int h_rows, .int h_limit], oB (r2 3) 5 [.ref (r2 4), .int h_h1_nodeCount, .int h_h1_tokenCount, .int h_h1_root], aI (r2 4) cI 88 h_h1_branches, oB (r2 5) 5 [.ref (r2 6), .int h_h2_nodeCount, .int h_h2_tokenCount, .int h_h2_root], aI (r2 6) cI 88 h_h2_branches, aI (r2 7) cI 36 h_order, oB (r1 0) 4 [.ref (r1 1), .int t_size, .int t_position_43, .int t_fault_44]]) (tl := [rowsW cI r0 f_grid_42]) [5] [0, 1, 2, 3, 4, 6, 7, 8, 9, 10, 11] [] [0] rfl rfl rfl rfl
            refine ct_callr (ra := r2 5) E sb122 hP55 hD55 hS55 (va_runV (As := [.int v4_45]) (rest := []) ⟨hx, hb, hml, hown, hts⟩ (c_X1_treeFor_f l D cB cI cJ cQ N r2 H55.size v4_45 h_columns h_rows h_limit hc60) (cwV 1 hts gX0_readTokens_X1_treeFor rfl rfl rfl cdV_X1_treeFor ⟨Nat.le_of_ble_eq_true rfl, Nat.le_of_ble_eq_true rfl⟩) (ct_preV (q0 := 5) (ci := 1) E sb122 hP55 hD55 hS55 rfl rfl) rfl rfl hl46.1 rfl (lv_room (Nat.le_of_ble_eq_true rfl)) dX0_readTokens_72 ⟨Nat.zero_le _, Nat.zero_le _⟩) (fun H123 lc123 hP123 hD123 hS123 => ?_); clear sb122
            clear hP55 hD55 hS55
            have hP123 : va_P D vwCl (wf [oB (r0 0) 0 [.ref (r0 1), .ref (r0 2), .ref (r0 3), .ref (r0 4), .ref (r0 5), .ref (r0 6), .int f_columns, .int f_rows, .int f_scale, .int f_toEnd_40, .int f_between, .int f_kept], aI (r0 1) cI 36 f_modes, aQ (r0 4) cQ r0, aI (r0 5) cI 36 f_places_41, aI (r1 1) cB 6000 t_bytes, oB (r2 3) 5 [.ref (r2 4), .int h_h1_nodeCount, .int h_h1_tokenCount, .int h_h1_root], aI (r2 4) cI 88 h_h1_branches, oB (r2 5) 5 [.ref (r2 6), .int h_h2_nodeCount, .int h_h2_tokenCount, .int h_h2_root], aI (r2 6) cI 88 h_h2_branches, aI (r2 7) cI 36 h_order, oB (r1 0) 4 [.ref (r1 1), .int t_size, .int t_position_43, .int t_fault_44], oB (r2 0) 1 [.ref (r2 1), .ref (r2 2), .ref (r2 3), .ref (r2 5), .ref (r2 7), .int h_columns, .int h_rows, .int h_limit]] [rowsW cI r0 f_grid_42]) H123 := hP123
            have hD123 : va_D A (wf [oB (r0 0) 0 [.ref (r0 1), .ref (r0 2), .ref (r0 3), .ref (r0 4), .ref (r0 5), .ref (r0 6), .int f_columns, .int f_rows, .int f_scale, .int f_toEnd_40, .int f_between, .int f_kept], aI (r0 1) cI 36 f_modes, aQ (r0 4) cQ r0, aI (r0 5) cI 36 f_places_41, aI (r1 1) cB 6000 t_bytes, oB (r2 3) 5 [.ref (r2 4), .int h_h1_nodeCount, .int h_h1_tokenCount, .int h_h1_root], aI (r2 4) cI 88 h_h1_branches, oB (r2 5) 5 [.ref (r2 6), .int h_h2_nodeCount, .int h_h2_tokenCount, .int h_h2_root], aI (r2 6) cI 88 h_h2_branches, aI (r2 7) cI 36 h_order, oB (r1 0) 4 [.ref (r1 1), .int t_size, .int t_position_43, .int t_fault_44], oB (r2 0) 1 [.ref (r2 1), .ref (r2 2), .ref (r2 3), .ref (r2 5), .ref (r2 7), .int h_columns, .int h_rows, .int h_limit]] [rowsW cI r0 f_grid_42]) := hD123
            refine lv_astore (lv' := [(5, .ref (r2 5)), (0, .ref (r0 0)), (1, .ref (r1 0)), (2, .ref (r2 0)), (3, .int v3_1), (4, .int v4_45)]) hx hb dX0_readTokens_75 hl46 (by decide) rfl (fun ls124 hl124 => ?_); clear hl46
            refine lv_iconst (v := 0) hx hb dX0_readTokens_77 (by decide) ?_
            refine lv_istore (lv' := [(6, .int (0 : Int32)), (5, .ref (r2 5)), (0, .ref (r0 0)), (1, .ref (r1 0)), (2, .ref (r2 0)), (3, .int v3_1), (4, .int v4_45)]) hx hb dX0_readTokens_78 hl124 (by decide) rfl (fun ls125 hl125 => ?_); clear hl124
            obtain ⟨f_toEnd_170, f_places_171, f_grid_172, t_position_173, t_fault_174, hlp126, hm175⟩ := bd5_some hm121; clear hm121
            have LP126 : ∀ (n : Nat) (f_toEnd_127 : Int32) (f_places_128 : Nat → Int32) (f_grid_129 : Nat → Nat → Int32) (t_position_130 : Int32) (t_fault_131 : Int32) (v6_132 : Int32) (z126 : Int32 × (Nat → Int32) × (Nat → Nat → Int32) × Int32 × Int32) (H133 : Heap) (lc133 : List Loc) (ls133 : Array Slot), f_X0_readTokens_L80_126 t_size t_bytes h_h2_root h_h2_branches h_order v3_1 v4_45 n f_toEnd_127 f_places_128 f_grid_129 t_position_130 t_fault_131 v6_132 = some z126 → va_P D vwCl (wf [oB (r0 0) 0 [.ref (r0 1), .ref (r0 2), .ref (r0 3), .ref (r0 4), .ref (r0 5), .ref (r0 6), .int f_columns, .int f_rows, .int f_scale, .int f_toEnd_127, .int f_between, .int f_kept], aI (r0 1) cI 36 f_modes, aQ (r0 4) cQ r0, aI (r0 5) cI 36 f_places_128, aI (r1 1) cB 6000 t_bytes, oB (r2 3) 5 [.ref (r2 4), .int h_h1_nodeCount, .int h_h1_tokenCount, .int h_h1_root], aI (r2 4) cI 88 h_h1_branches, oB (r2 5) 5 [.ref (r2 6), .int h_h2_nodeCount, .int h_h2_tokenCount, .int h_h2_root], aI (r2 6) cI 88 h_h2_branches, aI (r2 7) cI 36 h_order, oB (r1 0) 4 [.ref (r1 1), .int t_size, .int t_position_130, .int t_fault_131], oB (r2 0) 1 [.ref (r2 1), .ref (r2 2), .ref (r2 3), .ref (r2 5), .ref (r2 7), .int h_columns, .int h_rows, .int h_limit]] [rowsW cI r0 f_grid_129]) H133 → va_D A (wf [oB (r0 0) 0 [.ref (r0 1), .ref (r0 2), .ref (r0 3), .ref (r0 4), .ref (r0 5), .ref (r0 6), .int f_columns, .int f_rows, .int f_scale, .int f_toEnd_127, .int f_between, .int f_kept], aI (r0 1) cI 36 f_modes, aQ (r0 4) cQ r0, aI (r0 5) cI 36 f_places_128, aI (r1 1) cB 6000 t_bytes, oB (r2 3) 5 [.ref (r2 4), .int h_h1_nodeCount, .int h_h1_tokenCount, .int h_h1_root], aI (r2 4) cI 88 h_h1_branches, oB (r2 5) 5 [.ref (r2 6), .int h_h2_nodeCount, .int h_h2_tokenCount, .int h_h2_root], aI (r2 6) cI 88 h_h2_branches, aI (r2 7) cI 36 h_order, oB (r1 0) 4 [.ref (r1 1), .int t_size, .int t_position_130, .int t_fault_131], oB (r2 0) 1 [.ref (r2 1), .ref (r2 2), .ref (r2 3), .ref (r2 5), .ref (r2 7), .int h_columns, .int h_rows, .int h_limit]] [rowsW cI r0 f_grid_129]) → va_S A s.heap H133 lc133 → lv_has ls133 8 [(0, .ref (r0 0)), (1, .ref (r1 0)), (2, .ref (r2 0)), (3, .int v3_1), (4, .int v4_45), (5, .ref (r2 5)), (6, .int v6_132)] → (∀ (H : Heap) (lc : List Loc) (ls : Array Slot), va_P D vwCl (wf [oB (r0 0) 0 [.ref (r0 1), .ref (r0 2), .ref (r0 3), .ref (r0 4), .ref (r0 5), .ref (r0 6), .int f_columns, .int f_rows, .int f_scale, .int (z126.1), .int f_between, .int f_kept], aI (r0 1) cI 36 f_modes, aQ (r0 4) cQ r0, aI (r0 5) cI 36 (z126.2.1), aI (r1 1) cB 6000 t_bytes, oB (r2 3) 5 [.ref (r2 4), .int h_h1_nodeCount, .int h_h1_tokenCount, .int h_h1_root], aI (r2 4) cI 88 h_h1_branches, oB (r2 5) 5 [.ref (r2 6), .int h_h2_nodeCount, .int h_h2_tokenCount, .int h_h2_root], aI (r2 6) cI 88 h_h2_branches, aI (r2 7) cI 36 h_order, oB (r1 0) 4 [.ref (r1 1), .int t_size, .int (z126.2.2.2.1), .int (z126.2.2.2.2)], oB (r2 0) 1 [.ref (r2 1), .ref (r2 2), .ref (r2 3), .ref (r2 5), .ref (r2 7), .int h_columns, .int h_rows, .int h_limit]] [rowsW cI r0 (z126.2.2.1)]) H → va_D A (wf [oB (r0 0) 0 [.ref (r0 1), .ref (r0 2), .ref (r0 3), .ref (r0 4), .ref (r0 5), .ref (r0 6), .int f_columns, .int f_rows, .int f_scale, .int (z126.1), .int f_between, .int f_kept], aI (r0 1) cI 36 f_modes, aQ (r0 4) cQ r0, aI (r0 5) cI 36 (z126.2.1), aI (r1 1) cB 6000 t_bytes, oB (r2 3) 5 [.ref (r2 4), .int h_h1_nodeCount, .int h_h1_tokenCount, .int h_h1_root], aI (r2 4) cI 88 h_h1_branches, oB (r2 5) 5 [.ref (r2 6), .int h_h2_nodeCount, .int h_h2_tokenCount, .int h_h2_root], aI (r2 6) cI 88 h_h2_branches, aI (r2 7) cI 36 h_order, oB (r1 0) 4 [.ref (r1 1), .int t_size, .int (z126.2.2.2.1), .int (z126.2.2.2.2)], oB (r2 0) 1 [.ref (r2 1), .ref (r2 2), .ref (r2 3), .ref (r2 5), .ref (r2 7), .int h_columns, .int h_rows, .int h_limit]] [rowsW cI r0 (z126.2.2.1)]) → va_S A s.heap H lc → lv_has ls 8 [(0, .ref (r0 0)), (1, .ref (r1 0)), (2, .ref (r2 0)), (3, .int v3_1), (4, .int v4_45)] → W p l e rm_X0_readTokens s m args below meth c H lc 0 0 QQ (F0 m 121 ls [])) → W p l e rm_X0_readTokens s m args below meth c H133 lc133 0 0 QQ (F0 m 80 ls133 []) := by
              intro n
              induction n with
              | zero =>
                intro f_toEnd_127 f_places_128 f_grid_129 t_position_130 t_fault_131 v6_132 z126 H133 lc133 ls133 hm135; simp [f_X0_readTokens_L80_126] at hm135
              | succ n ih =>
                intro f_toEnd_127 f_places_128 f_grid_129 t_position_130 t_fault_131 v6_132 z126 H133 lc133 ls133 hm135 hP133 hD133 hS133 hl133 kx
                rw [f_X0_readTokens_L80_126] at hm135
                refine lv_iload hx hb dX0_readTokens_80 (lv_at hl133 6 rfl) ?_
                refine lv_iload_n hx hb dX0_readTokens_82 rfl (lv_at hl133 3 rfl) ?_
                refine lv_icmp_ge (tgt := 121) hx hb dX0_readTokens_83 (by decide) (fun hc136 => ?_) (fun hc136 => ?_)
                · have hm137 := bq_t hm135 hc136; clear hm135
                  obtain rfl := Option.some.inj hm137
                  exact kx _ _ _ hP133 hD133 hS133 (lv_sub hl133 [0, 1, 2, 3, 4] rfl)
                · have hm138 := bq_f hm135 hc136; clear hm135
                  refine lv_aload_n hx hb dX0_readTokens_86 rfl (lv_at hl133 2 rfl) ?_
                  refine lv_iload hx hb dX0_readTokens_87 (lv_at hl133 6 rfl) ?_
                  obtain ⟨y_139, hcl140, hm140⟩ := bd1_some hm138; clear hm138
                  have sb141 := ctS.mk (pre := [oB (r0 0) 0 [.ref (r0 1), .ref (r0 2), .ref (r0 3), .ref (r0 4), .ref (r0 5), .ref (r0 6), .int f_columns, .int f_rows, .int f_scale, .int f_toEnd_127, .int f_between, .int f_kept], aI (r0 1) cI 36 f_modes, aQ (r0 4) cQ r0, aI (r0 5) cI 36 f_places_128, aI (r1 1) cB 6000 t_bytes, oB (r2 3) 5 [.ref (r2 4), .int h_h1_nodeCount, .int h_h1_tokenCount, .int h_h1_root], aI (r2 4) cI 88 h_h1_branches, oB (r2 5) 5 [.ref (r2 6), .int h_h2_nodeCount, .int h_h2_tokenCount, .int h_h2_root], aI (r2 6) cI 88 h_h2_branches, aI (r2 7) cI 36 h_order, oB (r1 0) 4 [.ref (r1 1), .int t_size, .int t_position_130, .int t_fault_131], oB (r2 0) 1 [.ref (r2 1), .ref (r2 2), .ref (r2 3), .ref (r2 5), .ref (r2 7), .int h_columns, .int h_rows, .int h_limit]]) (tl := [rowsW cI r0 f_grid_129]) [11, 9] [0, 1, 2, 3, 4, 5, 6, 7, 8, 10] [] [0] rfl rfl rfl rfl
                  refine ct_calli (r := y_139) E sb141 hP133 hD133 hS133 (va_runV (As := [.int v6_132]) (rest := []) ⟨hx, hb, hml, hown, hts⟩ (c_X1_ordered l D cB cI cJ cQ N r2 H133.size v6_132 h_columns h_rows h_limit h_order (y_139) hcl140) (cwV 1 hts gX0_readTokens_X1_ordered rfl rfl rfl cdV_X1_ordered ⟨Nat.le_of_ble_eq_true rfl, Nat.le_of_ble_eq_true rfl⟩) (ct_preV (q0 := 11) (ci := 1) E sb141 hP133 hD133 hS133 rfl rfl) rfl rfl hl133.1 rfl (lv_room (Nat.le_of_ble_eq_true rfl)) dX0_readTokens_89 ⟨Nat.zero_le _, Nat.zero_le _⟩) (fun H142 lc142 hP142 hD142 hS142 => ?_); clear sb141 hcl140
                  clear hP133 hD133 hS133
                  have hP142 : va_P D vwCl (wf [oB (r0 0) 0 [.ref (r0 1), .ref (r0 2), .ref (r0 3), .ref (r0 4), .ref (r0 5), .ref (r0 6), .int f_columns, .int f_rows, .int f_scale, .int f_toEnd_127, .int f_between, .int f_kept], aI (r0 1) cI 36 f_modes, aQ (r0 4) cQ r0, aI (r0 5) cI 36 f_places_128, aI (r1 1) cB 6000 t_bytes, oB (r2 3) 5 [.ref (r2 4), .int h_h1_nodeCount, .int h_h1_tokenCount, .int h_h1_root], aI (r2 4) cI 88 h_h1_branches, oB (r2 5) 5 [.ref (r2 6), .int h_h2_nodeCount, .int h_h2_tokenCount, .int h_h2_root], aI (r2 6) cI 88 h_h2_branches, oB (r1 0) 4 [.ref (r1 1), .int t_size, .int t_position_130, .int t_fault_131], oB (r2 0) 1 [.ref (r2 1), .ref (r2 2), .ref (r2 3), .ref (r2 5), .ref (r2 7), .int h_columns, .int h_rows, .int h_limit], aI (r2 7) cI 36 h_order] [rowsW cI r0 f_grid_129]) H142 := hP142
                  have hD142 : va_D A (wf [oB (r0 0) 0 [.ref (r0 1), .ref (r0 2), .ref (r0 3), .ref (r0 4), .ref (r0 5), .ref (r0 6), .int f_columns, .int f_rows, .int f_scale, .int f_toEnd_127, .int f_between, .int f_kept], aI (r0 1) cI 36 f_modes, aQ (r0 4) cQ r0, aI (r0 5) cI 36 f_places_128, aI (r1 1) cB 6000 t_bytes, oB (r2 3) 5 [.ref (r2 4), .int h_h1_nodeCount, .int h_h1_tokenCount, .int h_h1_root], aI (r2 4) cI 88 h_h1_branches, oB (r2 5) 5 [.ref (r2 6), .int h_h2_nodeCount, .int h_h2_tokenCount, .int h_h2_root], aI (r2 6) cI 88 h_h2_branches, oB (r1 0) 4 [.ref (r1 1), .int t_size, .int t_position_130, .int t_fault_131], oB (r2 0) 1 [.ref (r2 1), .ref (r2 2), .ref (r2 3), .ref (r2 5), .ref (r2 7), .int h_columns, .int h_rows, .int h_limit], aI (r2 7) cI 36 h_order] [rowsW cI r0 f_grid_129]) := hD142
                  refine lv_istore (lv' := [(7, .int y_139), (0, .ref (r0 0)), (1, .ref (r1 0)), (2, .ref (r2 0)), (3, .int v3_1), (4, .int v4_45), (5, .ref (r2 5)), (6, .int v6_132)]) hx hb dX0_readTokens_92 hl133 (by decide) rfl (fun ls143 hl143 => ?_); clear hl133
                  refine lv_aload_n hx hb dX0_readTokens_94 rfl (lv_at hl143 1 rfl) ?_
                  refine va_get (D := D) (ci := 0) (v := .ref (r0 5)) (C := RX0) (T := TX0) (N := 12) hx hb hts hi_X0_readTokens_0 hown E.1 hP142 0 rfl rfl 4 (by decide) (hts _ (List.mem_of_getElem? (i := 3) rfl)) (fun _ h9 => h9) rfl dX0_readTokens_95 ?_
                  refine lv_iload hx hb dX0_readTokens_98 (lv_at hl143 0 rfl) ?_
                  obtain ⟨hin144, hm144⟩ := gi_some hm140; clear hm140
                  refine va_iald hx hb E.1 hP142 3 0 rfl rfl hin144 dX0_readTokens_100 ?_
                  refine lv_iload hx hb dX0_readTokens_101 (lv_at hl143 5 rfl) ?_
                  obtain ⟨k146, ek146, hm146⟩ := jn_some hm144; clear hm144
                  have KJ146 : ∀ (f_toEnd_147 : Int32) (f_places_148 : Nat → Int32) (f_grid_149 : Nat → Nat → Int32) (t_position_150 : Int32) (t_fault_151 : Int32) (H152 : Heap) (lc152 : List Loc) (ls152 : Array Slot), k146 f_toEnd_147 f_places_148 f_grid_149 t_position_150 t_fault_151 = some z126 → va_P D vwCl (wf [oB (r0 0) 0 [.ref (r0 1), .ref (r0 2), .ref (r0 3), .ref (r0 4), .ref (r0 5), .ref (r0 6), .int f_columns, .int f_rows, .int f_scale, .int f_toEnd_147, .int f_between, .int f_kept], aI (r0 1) cI 36 f_modes, aQ (r0 4) cQ r0, aI (r0 5) cI 36 f_places_148, aI (r1 1) cB 6000 t_bytes, oB (r2 3) 5 [.ref (r2 4), .int h_h1_nodeCount, .int h_h1_tokenCount, .int h_h1_root], aI (r2 4) cI 88 h_h1_branches, oB (r2 5) 5 [.ref (r2 6), .int h_h2_nodeCount, .int h_h2_tokenCount, .int h_h2_root], aI (r2 6) cI 88 h_h2_branches, oB (r1 0) 4 [.ref (r1 1), .int t_size, .int t_position_150, .int t_fault_151], oB (r2 0) 1 [.ref (r2 1), .ref (r2 2), .ref (r2 3), .ref (r2 5), .ref (r2 7), .int h_columns, .int h_rows, .int h_limit], aI (r2 7) cI 36 h_order] [rowsW cI r0 f_grid_149]) H152 → va_D A (wf [oB (r0 0) 0 [.ref (r0 1), .ref (r0 2), .ref (r0 3), .ref (r0 4), .ref (r0 5), .ref (r0 6), .int f_columns, .int f_rows, .int f_scale, .int f_toEnd_147, .int f_between, .int f_kept], aI (r0 1) cI 36 f_modes, aQ (r0 4) cQ r0, aI (r0 5) cI 36 f_places_148, aI (r1 1) cB 6000 t_bytes, oB (r2 3) 5 [.ref (r2 4), .int h_h1_nodeCount, .int h_h1_tokenCount, .int h_h1_root], aI (r2 4) cI 88 h_h1_branches, oB (r2 5) 5 [.ref (r2 6), .int h_h2_nodeCount, .int h_h2_tokenCount, .int h_h2_root], aI (r2 6) cI 88 h_h2_branches, oB (r1 0) 4 [.ref (r1 1), .int t_size, .int t_position_150, .int t_fault_151], oB (r2 0) 1 [.ref (r2 1), .ref (r2 2), .ref (r2 3), .ref (r2 5), .ref (r2 7), .int h_columns, .int h_rows, .int h_limit], aI (r2 7) cI 36 h_order] [rowsW cI r0 f_grid_149]) → va_S A s.heap H152 lc152 → lv_has ls152 8 [(0, .ref (r0 0)), (1, .ref (r1 0)), (2, .ref (r2 0)), (3, .int v3_1), (4, .int v4_45), (5, .ref (r2 5)), (6, .int v6_132)] → W p l e rm_X0_readTokens s m args below meth c H152 lc152 0 0 QQ (F0 m 115 ls152 []) := by
                    intro f_toEnd_147 f_places_148 f_grid_149 t_position_150 t_fault_151 H152 lc152 ls152 hm153 hP152 hD152 hS152 hl152
                    rw [ek146] at hm153
                    obtain ⟨v6_154, ev6_154, hm155⟩ := nm_some hm153; clear hm153
                    refine lv_iinc (v := v6_154) (lv' := [(6, .int v6_154), (0, .ref (r0 0)), (1, .ref (r1 0)), (2, .ref (r2 0)), (3, .int v3_1), (4, .int v4_45), (5, .ref (r2 5))]) hx hb dX0_readTokens_115 hl152 (k := 6) rfl (by rw [ev6_154]; rfl) (by decide) rfl (fun ls156 hl156 => ?_); clear hl152
                    refine lv_goto (tgt := 80) hx hb dX0_readTokens_118 (by decide) ?_
                    obtain ⟨hP157, hD157⟩ := ct_ord [0, 1, 2, 3, 4, 5, 6, 7, 8, 11, 9, 10] [0] hP152 hD152 rfl rfl rfl rfl
                    have hS157 := hS152
                    have hP157 : va_P D vwCl (wf [oB (r0 0) 0 [.ref (r0 1), .ref (r0 2), .ref (r0 3), .ref (r0 4), .ref (r0 5), .ref (r0 6), .int f_columns, .int f_rows, .int f_scale, .int f_toEnd_147, .int f_between, .int f_kept], aI (r0 1) cI 36 f_modes, aQ (r0 4) cQ r0, aI (r0 5) cI 36 f_places_148, aI (r1 1) cB 6000 t_bytes, oB (r2 3) 5 [.ref (r2 4), .int h_h1_nodeCount, .int h_h1_tokenCount, .int h_h1_root], aI (r2 4) cI 88 h_h1_branches, oB (r2 5) 5 [.ref (r2 6), .int h_h2_nodeCount, .int h_h2_tokenCount, .int h_h2_root], aI (r2 6) cI 88 h_h2_branches, aI (r2 7) cI 36 h_order, oB (r1 0) 4 [.ref (r1 1), .int t_size, .int t_position_150, .int t_fault_151], oB (r2 0) 1 [.ref (r2 1), .ref (r2 2), .ref (r2 3), .ref (r2 5), .ref (r2 7), .int h_columns, .int h_rows, .int h_limit]] [rowsW cI r0 f_grid_149]) H152 := hP157
                    have hD157 : va_D A (wf [oB (r0 0) 0 [.ref (r0 1), .ref (r0 2), .ref (r0 3), .ref (r0 4), .ref (r0 5), .ref (r0 6), .int f_columns, .int f_rows, .int f_scale, .int f_toEnd_147, .int f_between, .int f_kept], aI (r0 1) cI 36 f_modes, aQ (r0 4) cQ r0, aI (r0 5) cI 36 f_places_148, aI (r1 1) cB 6000 t_bytes, oB (r2 3) 5 [.ref (r2 4), .int h_h1_nodeCount, .int h_h1_tokenCount, .int h_h1_root], aI (r2 4) cI 88 h_h1_branches, oB (r2 5) 5 [.ref (r2 6), .int h_h2_nodeCount, .int h_h2_tokenCount, .int h_h2_root], aI (r2 6) cI 88 h_h2_branches, aI (r2 7) cI 36 h_order, oB (r1 0) 4 [.ref (r1 1), .int t_size, .int t_position_150, .int t_fault_151], oB (r2 0) 1 [.ref (r2 1), .ref (r2 2), .ref (r2 3), .ref (r2 5), .ref (r2 7), .int h_columns, .int h_rows, .int h_limit]] [rowsW cI r0 f_grid_149]) := hD157
                    exact ih f_toEnd_147 f_places_148 f_grid_149 t_position_150 t_fault_151 v6_154 _ _ _ _ hm155 hP157 hD157 hS157 (lv_sub hl156 [1, 2, 3, 4, 5, 6, 0] rfl) kx
                  refine lv_icmp_ne (tgt := 115) hx hb dX0_readTokens_103 (by decide) (fun hc158 => ?_) (fun hc158 => ?_)
                  · have hm159 := bq_f hm146 hc158; clear hm146
                    exact KJ146 f_toEnd_127 f_places_128 f_grid_129 t_position_130 t_fault_131 _ _ _ hm159 hP142 hD142 hS142 (lv_sub hl143 [1, 2, 3, 4, 5, 6, 7] rfl)
                  · have hm160 := bq_t hm146 hc158; clear hm146
                    refine lv_aload_n hx hb dX0_readTokens_106 rfl (lv_at hl143 1 rfl) ?_
                    refine lv_aload_n hx hb dX0_readTokens_107 rfl (lv_at hl143 2 rfl) ?_
                    refine lv_aload hx hb dX0_readTokens_108 (lv_at hl143 6 rfl) ?_
                    refine lv_iload hx hb dX0_readTokens_110 (lv_at hl143 0 rfl) ?_
                    obtain ⟨f_toEnd_161, f_places_162, f_grid_163, t_position_164, t_fault_165, hcl166, hm166⟩ := bd5_some hm160; clear hm160
                    have sb167 := ctS.mk (pre := [oB (r0 0) 0 [.ref (r0 1), .ref (r0 2), .ref (r0 3), .ref (r0 4), .ref (r0 5), .ref (r0 6), .int f_columns, .int f_rows, .int f_scale, .int f_toEnd_127, .int f_between, .int f_kept], aI (r0 1) cI 36 f_modes, aQ (r0 4) cQ r0, aI (r0 5) cI 36 f_places_128, aI (r1 1) cB 6000 t_bytes, oB (r2 3) 5 [.ref (r2 4), .int h_h1_nodeCount, .int h_h1_tokenCount, .int h_h1_root], aI (r2 4) cI 88 h_h1_branches, oB (r2 5) 5 [.ref (r2 6), .int h_h2_nodeCount, .int h_h2_tokenCount, .int h_h2_root], aI (r2 6) cI 88 h_h2_branches, oB (r1 0) 4 [.ref (r1 1), .int t_size, .int t_position_130, .int t_fault_131], oB (r2 0) 1 [.ref (r2 1), .ref (r2 2), .ref (r2 3), .ref (r2 5), .ref (r2 7), .int h_columns, .int h_rows, .int h_limit], aI (r2 7) cI 36 h_order]) (tl := [rowsW cI r0 f_grid_129]) [0, 2, 3, 9, 4, 7, 8] [1, 5, 6, 10, 11] [0] [] rfl rfl rfl rfl
                    refine ct_callv E sb167 hP142 hD142 hS142 (va_runV (As := [.ref (r1 0), .ref (r2 5), .int y_139]) (rest := []) ⟨hx, hb, hml, hown, hts⟩ (c_X0_goOn l D cB cI cJ cQ N r0 r1 (fun k => r2 (5 + k)) H142.size y_139 f_columns f_rows f_scale f_toEnd_127 f_between f_kept f_places_128 t_size t_position_130 t_fault_131 t_bytes h_h2_nodeCount h_h2_tokenCount h_h2_root h_h2_branches f_grid_129 (f_toEnd_161, f_places_162, f_grid_163, t_position_164, t_fault_165) hcl166) (cwV 3 hts gX0_readTokens_X0_goOn rfl rfl rfl cdV_X0_goOn ⟨Nat.le_of_ble_eq_true rfl, Nat.le_of_ble_eq_true rfl⟩) (ct_preV (q0 := 0) (ci := 0) E sb167 hP142 hD142 hS142 rfl rfl) rfl rfl hl143.1 rfl (lv_room (Nat.le_of_ble_eq_true rfl)) dX0_readTokens_112 ⟨Nat.zero_le _, Nat.zero_le _⟩) (fun H168 lc168 hP168 hD168 hS168 => ?_); clear sb167 hcl166
                    clear hP142 hD142 hS142
                    have hP168 : va_P D vwCl (wf [aI (r0 1) cI 36 f_modes, oB (r2 3) 5 [.ref (r2 4), .int h_h1_nodeCount, .int h_h1_tokenCount, .int h_h1_root], aI (r2 4) cI 88 h_h1_branches, oB (r2 0) 1 [.ref (r2 1), .ref (r2 2), .ref (r2 3), .ref (r2 5), .ref (r2 7), .int h_columns, .int h_rows, .int h_limit], aI (r2 7) cI 36 h_order, oB (r0 0) 0 [.ref (r0 1), .ref (r0 2), .ref (r0 3), .ref (r0 4), .ref (r0 5), .ref (r0 6), .int f_columns, .int f_rows, .int f_scale, .int f_toEnd_161, .int f_between, .int f_kept], aQ (r0 4) cQ r0, aI (r0 5) cI 36 f_places_162, oB (r1 0) 4 [.ref (r1 1), .int t_size, .int t_position_164, .int t_fault_165], aI (r1 1) cB 6000 t_bytes, oB (r2 5) 5 [.ref (r2 6), .int h_h2_nodeCount, .int h_h2_tokenCount, .int h_h2_root], aI (r2 6) cI 88 h_h2_branches] [rowsW cI r0 f_grid_163]) H168 := hP168
                    have hD168 : va_D A (wf [aI (r0 1) cI 36 f_modes, oB (r2 3) 5 [.ref (r2 4), .int h_h1_nodeCount, .int h_h1_tokenCount, .int h_h1_root], aI (r2 4) cI 88 h_h1_branches, oB (r2 0) 1 [.ref (r2 1), .ref (r2 2), .ref (r2 3), .ref (r2 5), .ref (r2 7), .int h_columns, .int h_rows, .int h_limit], aI (r2 7) cI 36 h_order, oB (r0 0) 0 [.ref (r0 1), .ref (r0 2), .ref (r0 3), .ref (r0 4), .ref (r0 5), .ref (r0 6), .int f_columns, .int f_rows, .int f_scale, .int f_toEnd_161, .int f_between, .int f_kept], aQ (r0 4) cQ r0, aI (r0 5) cI 36 f_places_162, oB (r1 0) 4 [.ref (r1 1), .int t_size, .int t_position_164, .int t_fault_165], aI (r1 1) cB 6000 t_bytes, oB (r2 5) 5 [.ref (r2 6), .int h_h2_nodeCount, .int h_h2_tokenCount, .int h_h2_root], aI (r2 6) cI 88 h_h2_branches] [rowsW cI r0 f_grid_163]) := hD168
                    obtain ⟨hP169, hD169⟩ := ct_ord [5, 0, 6, 7, 9, 1, 2, 10, 11, 8, 3, 4] [0] hP168 hD168 rfl rfl rfl rfl
                    have hS169 := hS168
                    have hP169 : va_P D vwCl (wf [oB (r0 0) 0 [.ref (r0 1), .ref (r0 2), .ref (r0 3), .ref (r0 4), .ref (r0 5), .ref (r0 6), .int f_columns, .int f_rows, .int f_scale, .int f_toEnd_161, .int f_between, .int f_kept], aI (r0 1) cI 36 f_modes, aQ (r0 4) cQ r0, aI (r0 5) cI 36 f_places_162, aI (r1 1) cB 6000 t_bytes, oB (r2 3) 5 [.ref (r2 4), .int h_h1_nodeCount, .int h_h1_tokenCount, .int h_h1_root], aI (r2 4) cI 88 h_h1_branches, oB (r2 5) 5 [.ref (r2 6), .int h_h2_nodeCount, .int h_h2_tokenCount, .int h_h2_root], aI (r2 6) cI 88 h_h2_branches, oB (r1 0) 4 [.ref (r1 1), .int t_size, .int t_position_164, .int t_fault_165], oB (r2 0) 1 [.ref (r2 1), .ref (r2 2), .ref (r2 3), .ref (r2 5), .ref (r2 7), .int h_columns, .int h_rows, .int h_limit], aI (r2 7) cI 36 h_order] [rowsW cI r0 f_grid_163]) H168 := hP169
                    have hD169 : va_D A (wf [oB (r0 0) 0 [.ref (r0 1), .ref (r0 2), .ref (r0 3), .ref (r0 4), .ref (r0 5), .ref (r0 6), .int f_columns, .int f_rows, .int f_scale, .int f_toEnd_161, .int f_between, .int f_kept], aI (r0 1) cI 36 f_modes, aQ (r0 4) cQ r0, aI (r0 5) cI 36 f_places_162, aI (r1 1) cB 6000 t_bytes, oB (r2 3) 5 [.ref (r2 4), .int h_h1_nodeCount, .int h_h1_tokenCount, .int h_h1_root], aI (r2 4) cI 88 h_h1_branches, oB (r2 5) 5 [.ref (r2 6), .int h_h2_nodeCount, .int h_h2_tokenCount, .int h_h2_root], aI (r2 6) cI 88 h_h2_branches, oB (r1 0) 4 [.ref (r1 1), .int t_size, .int t_position_164, .int t_fault_165], oB (r2 0) 1 [.ref (r2 1), .ref (r2 2), .ref (r2 3), .ref (r2 5), .ref (r2 7), .int h_columns, .int h_rows, .int h_limit], aI (r2 7) cI 36 h_order] [rowsW cI r0 f_grid_163]) := hD169
                    exact KJ146 f_toEnd_161 f_places_162 f_grid_163 t_position_164 t_fault_165 _ _ _ hm166 hP169 hD169 hS169 (lv_sub hl143 [1, 2, 3, 4, 5, 6, 7] rfl)
            refine LP126 4000 f_toEnd_40 f_places_41 f_grid_42 t_position_43 t_fault_44 (0 : Int32) (f_toEnd_170, f_places_171, f_grid_172, t_position_173, t_fault_174) _ _ _ hlp126 hP123 hD123 hS123 (lv_sub hl125 [2, 3, 4, 5, 6, 1, 0] rfl) (fun H176 lc176 ls176 hP176 hD176 hS176 hl176 => ?_); clear LP126 hlp126
            clear hP123 hD123 hS123
            have hl176 : lv_has ls176 8 [(0, .ref (r0 0)), (1, .ref (r1 0)), (2, .ref (r2 0)), (3, .int v3_1), (4, .int v4_45)] := hl176
            have hP176 : va_P D vwCl (wf [oB (r0 0) 0 [.ref (r0 1), .ref (r0 2), .ref (r0 3), .ref (r0 4), .ref (r0 5), .ref (r0 6), .int f_columns, .int f_rows, .int f_scale, .int f_toEnd_170, .int f_between, .int f_kept], aI (r0 1) cI 36 f_modes, aQ (r0 4) cQ r0, aI (r0 5) cI 36 f_places_171, aI (r1 1) cB 6000 t_bytes, oB (r2 3) 5 [.ref (r2 4), .int h_h1_nodeCount, .int h_h1_tokenCount, .int h_h1_root], aI (r2 4) cI 88 h_h1_branches, oB (r2 5) 5 [.ref (r2 6), .int h_h2_nodeCount, .int h_h2_tokenCount, .int h_h2_root], aI (r2 6) cI 88 h_h2_branches, aI (r2 7) cI 36 h_order, oB (r1 0) 4 [.ref (r1 1), .int t_size, .int t_position_173, .int t_fault_174], oB (r2 0) 1 [.ref (r2 1), .ref (r2 2), .ref (r2 3), .ref (r2 5), .ref (r2 7), .int h_columns, .int h_rows, .int h_limit]] [rowsW cI r0 f_grid_172]) H176 := hP176
            have hD176 : va_D A (wf [oB (r0 0) 0 [.ref (r0 1), .ref (r0 2), .ref (r0 3), .ref (r0 4), .ref (r0 5), .ref (r0 6), .int f_columns, .int f_rows, .int f_scale, .int f_toEnd_170, .int f_between, .int f_kept], aI (r0 1) cI 36 f_modes, aQ (r0 4) cQ r0, aI (r0 5) cI 36 f_places_171, aI (r1 1) cB 6000 t_bytes, oB (r2 3) 5 [.ref (r2 4), .int h_h1_nodeCount, .int h_h1_tokenCount, .int h_h1_root], aI (r2 4) cI 88 h_h1_branches, oB (r2 5) 5 [.ref (r2 6), .int h_h2_nodeCount, .int h_h2_tokenCount, .int h_h2_root], aI (r2 6) cI 88 h_h2_branches, aI (r2 7) cI 36 h_order, oB (r1 0) 4 [.ref (r1 1), .int t_size, .int t_position_173, .int t_fault_174], oB (r2 0) 1 [.ref (r2 1), .ref (r2 2), .ref (r2 3), .ref (r2 5), .ref (r2 7), .int h_columns, .int h_rows, .int h_limit]] [rowsW cI r0 f_grid_172]) := hD176
            obtain ⟨v4_177, ev4_177, hm178⟩ := nm_some hm175; clear hm175
            refine lv_iinc (v := v4_177) (lv' := [(4, .int v4_177), (0, .ref (r0 0)), (1, .ref (r1 0)), (2, .ref (r2 0)), (3, .int v3_1)]) hx hb dX0_readTokens_121 hl176 (k := 4) rfl (by rw [ev4_177]; rfl) (by decide) rfl (fun ls179 hl179 => ?_); clear hl176
            refine lv_goto (tgt := 55) hx hb dX0_readTokens_124 (by decide) ?_
            obtain ⟨hP180, hD180⟩ := ct_ord [0, 1, 2, 3, 10, 4, 11, 5, 6, 7, 8, 9] [0] hP176 hD176 rfl rfl rfl rfl
            have hS180 := hS176
            have hP180 : va_P D vwCl (wf [oB (r0 0) 0 [.ref (r0 1), .ref (r0 2), .ref (r0 3), .ref (r0 4), .ref (r0 5), .ref (r0 6), .int f_columns, .int f_rows, .int f_scale, .int f_toEnd_170, .int f_between, .int f_kept], aI (r0 1) cI 36 f_modes, aQ (r0 4) cQ r0, aI (r0 5) cI 36 f_places_171, oB (r1 0) 4 [.ref (r1 1), .int t_size, .int t_position_173, .int t_fault_174], aI (r1 1) cB 6000 t_bytes, oB (r2 0) 1 [.ref (r2 1), .ref (r2 2), .ref (r2 3), .ref (r2 5), .ref (r2 7), .int h_columns, .int h_rows, .int h_limit], oB (r2 3) 5 [.ref (r2 4), .int h_h1_nodeCount, .int h_h1_tokenCount, .int h_h1_root], aI (r2 4) cI 88 h_h1_branches, oB (r2 5) 5 [.ref (r2 6), .int h_h2_nodeCount, .int h_h2_tokenCount, .int h_h2_root], aI (r2 6) cI 88 h_h2_branches, aI (r2 7) cI 36 h_order] [rowsW cI r0 f_grid_172]) H176 := hP180
            have hD180 : va_D A (wf [oB (r0 0) 0 [.ref (r0 1), .ref (r0 2), .ref (r0 3), .ref (r0 4), .ref (r0 5), .ref (r0 6), .int f_columns, .int f_rows, .int f_scale, .int f_toEnd_170, .int f_between, .int f_kept], aI (r0 1) cI 36 f_modes, aQ (r0 4) cQ r0, aI (r0 5) cI 36 f_places_171, oB (r1 0) 4 [.ref (r1 1), .int t_size, .int t_position_173, .int t_fault_174], aI (r1 1) cB 6000 t_bytes, oB (r2 0) 1 [.ref (r2 1), .ref (r2 2), .ref (r2 3), .ref (r2 5), .ref (r2 7), .int h_columns, .int h_rows, .int h_limit], oB (r2 3) 5 [.ref (r2 4), .int h_h1_nodeCount, .int h_h1_tokenCount, .int h_h1_root], aI (r2 4) cI 88 h_h1_branches, oB (r2 5) 5 [.ref (r2 6), .int h_h2_nodeCount, .int h_h2_tokenCount, .int h_h2_root], aI (r2 6) cI 88 h_h2_branches, aI (r2 7) cI 36 h_order] [rowsW cI r0 f_grid_172]) := hD180
            exact ih f_toEnd_170 f_places_171 f_grid_172 t_position_173 t_fault_174 v4_177 _ _ _ _ hm178 hP180 hD180 hS180 (lv_sub hl179 [1, 2, 3, 4, 0] rfl) kx
  refine LP39 4000 (0 : Int32) f_places_34 f_grid t_position t_fault (0 : Int32) (f_toEnd_181, f_places_182, f_grid_183, t_position_184, t_fault_185) _ _ _ hlp39 hP37 hD37 hS37 (lv_sub hl38 [1, 2, 3, 4, 0] rfl) (fun H187 lc187 ls187 hP187 hD187 hS187 hl187 => ?_); clear LP39 hlp39
  clear hP37 hD37 hS37
  have hl187 : lv_has ls187 8 [] := hl187
  have hP187 : va_P D vwCl (wf [oB (r0 0) 0 [.ref (r0 1), .ref (r0 2), .ref (r0 3), .ref (r0 4), .ref (r0 5), .ref (r0 6), .int f_columns, .int f_rows, .int f_scale, .int f_toEnd_181, .int f_between, .int f_kept], aI (r0 1) cI 36 f_modes, aQ (r0 4) cQ r0, aI (r0 5) cI 36 f_places_182, oB (r1 0) 4 [.ref (r1 1), .int t_size, .int t_position_184, .int t_fault_185], aI (r1 1) cB 6000 t_bytes, oB (r2 0) 1 [.ref (r2 1), .ref (r2 2), .ref (r2 3), .ref (r2 5), .ref (r2 7), .int h_columns, .int h_rows, .int h_limit], oB (r2 3) 5 [.ref (r2 4), .int h_h1_nodeCount, .int h_h1_tokenCount, .int h_h1_root], aI (r2 4) cI 88 h_h1_branches, oB (r2 5) 5 [.ref (r2 6), .int h_h2_nodeCount, .int h_h2_tokenCount, .int h_h2_root], aI (r2 6) cI 88 h_h2_branches, aI (r2 7) cI 36 h_order] [rowsW cI r0 f_grid_183]) H187 := hP187
  have hD187 : va_D A (wf [oB (r0 0) 0 [.ref (r0 1), .ref (r0 2), .ref (r0 3), .ref (r0 4), .ref (r0 5), .ref (r0 6), .int f_columns, .int f_rows, .int f_scale, .int f_toEnd_181, .int f_between, .int f_kept], aI (r0 1) cI 36 f_modes, aQ (r0 4) cQ r0, aI (r0 5) cI 36 f_places_182, oB (r1 0) 4 [.ref (r1 1), .int t_size, .int t_position_184, .int t_fault_185], aI (r1 1) cB 6000 t_bytes, oB (r2 0) 1 [.ref (r2 1), .ref (r2 2), .ref (r2 3), .ref (r2 5), .ref (r2 7), .int h_columns, .int h_rows, .int h_limit], oB (r2 3) 5 [.ref (r2 4), .int h_h1_nodeCount, .int h_h1_tokenCount, .int h_h1_root], aI (r2 4) cI 88 h_h1_branches, oB (r2 5) 5 [.ref (r2 6), .int h_h2_nodeCount, .int h_h2_tokenCount, .int h_h2_root], aI (r2 6) cI 88 h_h2_branches, aI (r2 7) cI 36 h_order] [rowsW cI r0 f_grid_183]) := hD187
  obtain rfl := Option.some.inj hm186
  rw [hQ]
  exact ct_vret hx hb hr hlk hP187 hD187 hS187 dX0_readTokens_127

def f_X0_kind (x1 : Int32) (f_modes : Nat → Int32) : Option (Int32) :=
  gi x1 36 <|
  (if (f_modes x1.toNatClampNeg) = (3 : Int32) then
  (some ((1 : Int32)))
  else
  (gi x1 36 <|
  some ((f_modes x1.toNatClampNeg))))

abbrev rm_X0_kind : Room := { frames := 0, cells := 0, slots := 0, locals := 0 }

theorem cdS_X0_kind : yX0_kind.cls ≠ "java/lang/invoke/MethodHandle" ∧ yX0_kind.cls ≠ "java/lang/invoke/VarHandle" ∧ (parseMethodDescriptor yX0_kind.desc).map (fun d => d.parameters.length) = some 1 := by decide +kernel

theorem cdV_X0_kind : yX0_kind.cls = RX0 ∧ yX0_kind.cls ≠ "java/lang/invoke/MethodHandle" ∧ yX0_kind.cls ≠ "java/lang/invoke/VarHandle" ∧ (parseMethodDescriptor yX0_kind.desc).map (fun d => d.parameters.length) = some 1 := ⟨rfl, cdS_X0_kind⟩

theorem hi_X0_kind_0 : ∀ w ∈ u_ws RX0 TX0 12, w ∈ wsX0_kind := fun _ h => List.mem_cons_of_mem _ (List.mem_append_right _ h)

set_option maxHeartbeats 40000000 in
set_option maxRecDepth 100000 in
theorem c_X0_kind (l : Launch) (D : va_G) (cB cI cJ cQ : ClassId) (N : Nat) (r0 : Nat → Nat) (sz : Nat) (x1 : Int32) (f_columns : Int32) (f_rows : Int32) (f_scale : Int32) (f_toEnd : Int32) (f_between : Int32) (f_kept : Int32) (f_modes : Nat → Int32) (o : Int32) (hm0 : f_X0_kind x1 f_modes = some o) : Met l yX0_kind wsX0_kind rm_X0_kind (ctP D cB cI cJ cQ N sz [.ref (r0 0), .int x1] (wf [oB (r0 0) 0 [.ref (r0 1), .ref (r0 2), .ref (r0 3), .ref (r0 4), .ref (r0 5), .ref (r0 6), .int f_columns, .int f_rows, .int f_scale, .int f_toEnd, .int f_between, .int f_kept], aI (r0 1) cI 36 f_modes] [])) (ctQi D o (wf [oB (r0 0) 0 [.ref (r0 1), .ref (r0 2), .ref (r0 3), .ref (r0 4), .ref (r0 5), .ref (r0 6), .int f_columns, .int f_rows, .int f_scale, .int f_toEnd, .int f_between, .int f_kept], aI (r0 1) cI 36 f_modes] []) (va_A (wf [oB (r0 0) 0 [.ref (r0 1), .ref (r0 2), .ref (r0 3), .ref (r0 4), .ref (r0 5), .ref (r0 6), .int f_columns, .int f_rows, .int f_scale, .int f_toEnd, .int f_between, .int f_kept], aI (r0 1) cI 36 f_modes] []) sz)) 0 0 (va_A (wf [oB (r0 0) 0 [.ref (r0 1), .ref (r0 2), .ref (r0 3), .ref (r0 4), .ref (r0 5), .ref (r0 6), .int f_columns, .int f_rows, .int f_scale, .int f_toEnd, .int f_between, .int f_kept], aI (r0 1) cI 36 f_modes] []) sz) := by
  refine ct_of (cc := cX0_kind) (maxL := 2) (ret := (some .int)) (own := RX0) (Qp := ctQi D o (wf [oB (r0 0) 0 [.ref (r0 1), .ref (r0 2), .ref (r0 3), .ref (r0 4), .ref (r0 5), .ref (r0 6), .int f_columns, .int f_rows, .int f_scale, .int f_toEnd, .int f_between, .int f_kept], aI (r0 1) cI 36 f_modes] [])) (by decide) rfl rfl (Nat.le_of_ble_eq_true rfl) ?_
  intro p e s m args below meth c A hx hb hr hml hown hts hlk hnm hsz hAe E hP0 hD0 hS0 ls0 hl0
  subst hsz
  have hl0 : lv_has ls0 2 [(0, .ref (r0 0)), (1, .int x1)] := hl0
  obtain ⟨QQ, hQ⟩ : ∃ Q : State → Prop, Q = MQ below (ctQi D o (wf [oB (r0 0) 0 [.ref (r0 1), .ref (r0 2), .ref (r0 3), .ref (r0 4), .ref (r0 5), .ref (r0 6), .int f_columns, .int f_rows, .int f_scale, .int f_toEnd, .int f_between, .int f_kept], aI (r0 1) cI 36 f_modes] []) A) args s 0 0 A := ⟨_, rfl⟩
  rw [← hQ]
  unfold f_X0_kind at hm0
  refine lv_aload_n hx hb dX0_kind_0 rfl (lv_at hl0 0 rfl) ?_
  refine va_get (D := D) (ci := 0) (v := .ref (r0 1)) (C := RX0) (T := TX0) (N := 12) hx hb hts hi_X0_kind_0 hown E.1 hP0 0 rfl rfl 0 (by decide) (hts _ (List.mem_of_getElem? (i := 1) rfl)) (fun _ h9 => h9) rfl dX0_kind_1 ?_
  refine lv_iload_n hx hb dX0_kind_4 rfl (lv_at hl0 1 rfl) ?_
  obtain ⟨hin1, hm1⟩ := gi_some hm0; clear hm0
  refine va_iald hx hb E.1 hP0 1 0 rfl rfl hin1 dX0_kind_5 ?_
  refine lv_iconst (v := 3) hx hb dX0_kind_6 (by decide) ?_
  refine lv_icmp_ne (tgt := 14) hx hb dX0_kind_7 (by decide) (fun hc2 => ?_) (fun hc2 => ?_)
  · have hm3 := bq_f hm1 hc2; clear hm1
    refine lv_aload_n hx hb dX0_kind_14 rfl (lv_at hl0 0 rfl) ?_
    refine va_get (D := D) (ci := 0) (v := .ref (r0 1)) (C := RX0) (T := TX0) (N := 12) hx hb hts hi_X0_kind_0 hown E.1 hP0 0 rfl rfl 0 (by decide) (hts _ (List.mem_of_getElem? (i := 1) rfl)) (fun _ h9 => h9) rfl dX0_kind_15 ?_
    refine lv_iload_n hx hb dX0_kind_18 rfl (lv_at hl0 1 rfl) ?_
    obtain ⟨hin4, hm4⟩ := gi_some hm3; clear hm3
    refine va_iald hx hb E.1 hP0 1 0 rfl rfl hin4 dX0_kind_19 ?_
    obtain rfl := Option.some.inj hm4
    rw [hQ]
    exact ct_iret hx hb hr hlk hP0 hD0 hS0 rfl dX0_kind_20
  · have hm5 := bq_t hm1 hc2; clear hm1
    refine lv_iconst (v := 1) hx hb dX0_kind_10 (by decide) ?_
    refine lv_goto (tgt := 20) hx hb dX0_kind_11 (by decide) ?_
    obtain rfl := Option.some.inj hm5
    rw [hQ]
    exact ct_iret hx hb hr hlk hP0 hD0 hS0 rfl dX0_kind_20

def f_X0_guess (x1 : Int32) (x2 : Int32) (f_columns : Int32) (f_modes : Nat → Int32) (f_latestOfKind : Nat → Int32) (f_grid : Nat → Nat → Int32) : Option (Int32) :=
  bd1 (f_X0_index x1 x2 f_columns) fun y_1 =>
  nm ((y_1 - (1 : Int32)) : Int32) fun v4_6 =>
  nm ((y_1 - f_columns) : Int32) fun v5_9 =>
  jn (fun (k13 : Int32 → Option (Int32)) => (if x1 ≤ (0 : Int32) then
  (k13 (0 : Int32))
  else
  (bd1 (f_X0_kind v4_6 f_modes) fun y_90 =>
  bd1 (f_X0_kind y_1 f_modes) fun y_94 =>
  (if y_90 = y_94 then
  (k13 (1 : Int32))
  else
  (k13 (0 : Int32)))))) fun k0_14 =>
  jn (fun (k19 : Int32 → Option (Int32)) => (if x2 ≤ (0 : Int32) then
  (k19 (0 : Int32))
  else
  (bd1 (f_X0_kind v5_9 f_modes) fun y_74 =>
  bd1 (f_X0_kind y_1 f_modes) fun y_78 =>
  (if y_74 = y_78 then
  (k19 (1 : Int32))
  else
  (k19 (0 : Int32)))))) fun k0_20 =>
  (if k0_14 = (0 : Int32) then
  ((if k0_14 = (0 : Int32) then
  ((if k0_20 = (0 : Int32) then
  (bd1 (f_X0_kind y_1 f_modes) fun y_30 =>
  gi y_30 5 <|
  some ((f_latestOfKind y_30.toNatClampNeg)))
  else
  (gi v5_9 36 <|
  gi (0 : Int32) 64 <|
  some ((f_grid v5_9.toNatClampNeg (0 : Int32).toNatClampNeg)))))
  else
  (gi v4_6 36 <|
  gi (0 : Int32) 64 <|
  some ((f_grid v4_6.toNatClampNeg (0 : Int32).toNatClampNeg)))))
  else
  ((if k0_20 = (0 : Int32) then
  ((if k0_14 = (0 : Int32) then
  ((if k0_20 = (0 : Int32) then
  (bd1 (f_X0_kind y_1 f_modes) fun y_51 =>
  gi y_51 5 <|
  some ((f_latestOfKind y_51.toNatClampNeg)))
  else
  (gi v5_9 36 <|
  gi (0 : Int32) 64 <|
  some ((f_grid v5_9.toNatClampNeg (0 : Int32).toNatClampNeg)))))
  else
  (gi v4_6 36 <|
  gi (0 : Int32) 64 <|
  some ((f_grid v4_6.toNatClampNeg (0 : Int32).toNatClampNeg)))))
  else
  (gi v4_6 36 <|
  gi (0 : Int32) 64 <|
  gi v5_9 36 <|
  gi (0 : Int32) 64 <|
  some ((((f_grid v4_6.toNatClampNeg (0 : Int32).toNatClampNeg) + (f_grid v5_9.toNatClampNeg (0 : Int32).toNatClampNeg)) / (2 : Int32)))))))

abbrev rm_X0_guess : Room := { frames := 1, cells := 0, slots := 0, locals := 22 }

theorem cdS_X0_guess : yX0_guess.cls ≠ "java/lang/invoke/MethodHandle" ∧ yX0_guess.cls ≠ "java/lang/invoke/VarHandle" ∧ (parseMethodDescriptor yX0_guess.desc).map (fun d => d.parameters.length) = some 2 := by decide +kernel

theorem cdV_X0_guess : yX0_guess.cls = RX0 ∧ yX0_guess.cls ≠ "java/lang/invoke/MethodHandle" ∧ yX0_guess.cls ≠ "java/lang/invoke/VarHandle" ∧ (parseMethodDescriptor yX0_guess.desc).map (fun d => d.parameters.length) = some 2 := ⟨rfl, cdS_X0_guess⟩

theorem hi_X0_guess_0 : ∀ w ∈ u_ws RX0 TX0 12, w ∈ wsX0_guess := fun _ h => List.mem_cons_of_mem _ (List.mem_append_right _ h)

set_option maxHeartbeats 40000000 in
set_option maxRecDepth 100000 in
theorem c_X0_guess (l : Launch) (D : va_G) (cB cI cJ cQ : ClassId) (N : Nat) (r0 : Nat → Nat) (sz : Nat) (x1 : Int32) (x2 : Int32) (f_columns : Int32) (f_rows : Int32) (f_scale : Int32) (f_toEnd : Int32) (f_between : Int32) (f_kept : Int32) (f_modes : Nat → Int32) (f_latestOfKind : Nat → Int32) (f_grid : Nat → Nat → Int32) (o : Int32) (hm0 : f_X0_guess x1 x2 f_columns f_modes f_latestOfKind f_grid = some o) : Met l yX0_guess wsX0_guess rm_X0_guess (ctP D cB cI cJ cQ N sz [.ref (r0 0), .int x1, .int x2] (wf [oB (r0 0) 0 [.ref (r0 1), .ref (r0 2), .ref (r0 3), .ref (r0 4), .ref (r0 5), .ref (r0 6), .int f_columns, .int f_rows, .int f_scale, .int f_toEnd, .int f_between, .int f_kept], aI (r0 1) cI 36 f_modes, aQ (r0 4) cQ r0, aI (r0 6) cI 5 f_latestOfKind] [rowsW cI r0 f_grid])) (ctQi D o (wf [oB (r0 0) 0 [.ref (r0 1), .ref (r0 2), .ref (r0 3), .ref (r0 4), .ref (r0 5), .ref (r0 6), .int f_columns, .int f_rows, .int f_scale, .int f_toEnd, .int f_between, .int f_kept], aI (r0 1) cI 36 f_modes, aQ (r0 4) cQ r0, aI (r0 6) cI 5 f_latestOfKind] [rowsW cI r0 f_grid]) (va_A (wf [oB (r0 0) 0 [.ref (r0 1), .ref (r0 2), .ref (r0 3), .ref (r0 4), .ref (r0 5), .ref (r0 6), .int f_columns, .int f_rows, .int f_scale, .int f_toEnd, .int f_between, .int f_kept], aI (r0 1) cI 36 f_modes, aQ (r0 4) cQ r0, aI (r0 6) cI 5 f_latestOfKind] [rowsW cI r0 f_grid]) sz)) 0 0 (va_A (wf [oB (r0 0) 0 [.ref (r0 1), .ref (r0 2), .ref (r0 3), .ref (r0 4), .ref (r0 5), .ref (r0 6), .int f_columns, .int f_rows, .int f_scale, .int f_toEnd, .int f_between, .int f_kept], aI (r0 1) cI 36 f_modes, aQ (r0 4) cQ r0, aI (r0 6) cI 5 f_latestOfKind] [rowsW cI r0 f_grid]) sz) := by
  refine ct_of (cc := cX0_guess) (maxL := 8) (ret := (some .int)) (own := RX0) (Qp := ctQi D o (wf [oB (r0 0) 0 [.ref (r0 1), .ref (r0 2), .ref (r0 3), .ref (r0 4), .ref (r0 5), .ref (r0 6), .int f_columns, .int f_rows, .int f_scale, .int f_toEnd, .int f_between, .int f_kept], aI (r0 1) cI 36 f_modes, aQ (r0 4) cQ r0, aI (r0 6) cI 5 f_latestOfKind] [rowsW cI r0 f_grid])) (by decide) rfl rfl (Nat.le_of_ble_eq_true rfl) ?_
  intro p e s m args below meth c A hx hb hr hml hown hts hlk hnm hsz hAe E hP0 hD0 hS0 ls0 hl0
  subst hsz
  have hl0 : lv_has ls0 8 [(0, .ref (r0 0)), (1, .int x1), (2, .int x2)] := hl0
  obtain ⟨QQ, hQ⟩ : ∃ Q : State → Prop, Q = MQ below (ctQi D o (wf [oB (r0 0) 0 [.ref (r0 1), .ref (r0 2), .ref (r0 3), .ref (r0 4), .ref (r0 5), .ref (r0 6), .int f_columns, .int f_rows, .int f_scale, .int f_toEnd, .int f_between, .int f_kept], aI (r0 1) cI 36 f_modes, aQ (r0 4) cQ r0, aI (r0 6) cI 5 f_latestOfKind] [rowsW cI r0 f_grid]) A) args s 0 0 A := ⟨_, rfl⟩
  rw [← hQ]
  unfold f_X0_guess at hm0
  refine lv_aload_n hx hb dX0_guess_0 rfl (lv_at hl0 0 rfl) ?_
  refine lv_iload_n hx hb dX0_guess_1 rfl (lv_at hl0 1 rfl) ?_
  refine lv_iload_n hx hb dX0_guess_2 rfl (lv_at hl0 2 rfl) ?_
  obtain ⟨y_1, hcl2, hm2⟩ := bd1_some hm0; clear hm0
  have sb3 := ctS.mk (pre := [oB (r0 0) 0 [.ref (r0 1), .ref (r0 2), .ref (r0 3), .ref (r0 4), .ref (r0 5), .ref (r0 6), .int f_columns, .int f_rows, .int f_scale, .int f_toEnd, .int f_between, .int f_kept], aI (r0 1) cI 36 f_modes, aQ (r0 4) cQ r0, aI (r0 6) cI 5 f_latestOfKind]) (tl := [rowsW cI r0 f_grid]) [0] [1, 2, 3] [] [0] rfl rfl rfl rfl
  refine ct_calli (r := y_1) E sb3 hP0 hD0 hS0 (va_runV (As := [.int x1, .int x2]) (rest := []) ⟨hx, hb, hml, hown, hts⟩ (c_X0_index l D cB cI cJ cQ N r0 s.heap.size x1 x2 f_columns f_rows f_scale f_toEnd f_between f_kept (y_1) hcl2) (cwV 2 hts gX0_guess_X0_index rfl rfl rfl cdV_X0_index ⟨Nat.le_of_ble_eq_true rfl, Nat.le_of_ble_eq_true rfl⟩) (ct_preV (q0 := 0) (ci := 0) E sb3 hP0 hD0 hS0 rfl rfl) rfl rfl hl0.1 rfl (lv_room (Nat.le_of_ble_eq_true rfl)) dX0_guess_3 ⟨Nat.zero_le _, Nat.zero_le _⟩) (fun H4 lc4 hP4 hD4 hS4 => ?_); clear sb3 hcl2
  clear hP0 hD0 hS0
  have hP4 : va_P D vwCl (wf [aI (r0 1) cI 36 f_modes, aQ (r0 4) cQ r0, aI (r0 6) cI 5 f_latestOfKind, oB (r0 0) 0 [.ref (r0 1), .ref (r0 2), .ref (r0 3), .ref (r0 4), .ref (r0 5), .ref (r0 6), .int f_columns, .int f_rows, .int f_scale, .int f_toEnd, .int f_between, .int f_kept]] [rowsW cI r0 f_grid]) H4 := hP4
  have hD4 : va_D A (wf [aI (r0 1) cI 36 f_modes, aQ (r0 4) cQ r0, aI (r0 6) cI 5 f_latestOfKind, oB (r0 0) 0 [.ref (r0 1), .ref (r0 2), .ref (r0 3), .ref (r0 4), .ref (r0 5), .ref (r0 6), .int f_columns, .int f_rows, .int f_scale, .int f_toEnd, .int f_between, .int f_kept]] [rowsW cI r0 f_grid]) := hD4
  refine lv_istore_n (lv' := [(3, .int y_1), (0, .ref (r0 0)), (1, .int x1), (2, .int x2)]) hx hb dX0_guess_6 rfl hl0 (by decide) rfl (fun ls5 hl5 => ?_); clear hl0
  refine lv_iload_n hx hb dX0_guess_7 rfl (lv_at hl5 0 rfl) ?_
  refine lv_iconst (v := 1) hx hb dX0_guess_8 (by decide) ?_
  refine lv_isub hx hb dX0_guess_9 ?_
  obtain ⟨v4_6, ev4_6, hm7⟩ := nm_some hm2; clear hm2
  refine ct_topi ev4_6 ?_
  refine lv_istore (lv' := [(4, .int v4_6), (3, .int y_1), (0, .ref (r0 0)), (1, .int x1), (2, .int x2)]) hx hb dX0_guess_10 hl5 (by decide) rfl (fun ls8 hl8 => ?_); clear hl5
  refine lv_iload_n hx hb dX0_guess_12 rfl (lv_at hl8 1 rfl) ?_
  refine lv_aload_n hx hb dX0_guess_13 rfl (lv_at hl8 2 rfl) ?_
  refine va_get (D := D) (ci := 0) (v := .int f_columns) (C := RX0) (T := TX0) (N := 12) hx hb hts hi_X0_guess_0 hown E.1 hP4 3 rfl rfl 6 (by decide) (hts _ (List.mem_of_getElem? (i := 1) rfl)) (fun _ h9 => h9) rfl dX0_guess_14 ?_
  refine lv_isub hx hb dX0_guess_17 ?_
  obtain ⟨v5_9, ev5_9, hm10⟩ := nm_some hm7; clear hm7
  refine ct_topi ev5_9 ?_
  refine lv_istore (lv' := [(5, .int v5_9), (4, .int v4_6), (3, .int y_1), (0, .ref (r0 0)), (1, .int x1), (2, .int x2)]) hx hb dX0_guess_18 hl8 (by decide) rfl (fun ls11 hl11 => ?_); clear hl8
  refine lv_iload_n hx hb dX0_guess_20 rfl (lv_at hl11 4 rfl) ?_
  obtain ⟨k13, ek13, hm13⟩ := jn_some hm10; clear hm10
  have KJ13 : ∀ (k0_14 : Int32) (H15 : Heap) (lc15 : List Loc) (ls15 : Array Slot), k13 k0_14 = some o → va_P D vwCl (wf [aI (r0 1) cI 36 f_modes, aQ (r0 4) cQ r0, aI (r0 6) cI 5 f_latestOfKind, oB (r0 0) 0 [.ref (r0 1), .ref (r0 2), .ref (r0 3), .ref (r0 4), .ref (r0 5), .ref (r0 6), .int f_columns, .int f_rows, .int f_scale, .int f_toEnd, .int f_between, .int f_kept]] [rowsW cI r0 f_grid]) H15 → va_D A (wf [aI (r0 1) cI 36 f_modes, aQ (r0 4) cQ r0, aI (r0 6) cI 5 f_latestOfKind, oB (r0 0) 0 [.ref (r0 1), .ref (r0 2), .ref (r0 3), .ref (r0 4), .ref (r0 5), .ref (r0 6), .int f_columns, .int f_rows, .int f_scale, .int f_toEnd, .int f_between, .int f_kept]] [rowsW cI r0 f_grid]) → va_S A s.heap H15 lc15 → lv_has ls15 8 [(0, .ref (r0 0)), (2, .int x2), (3, .int y_1), (4, .int v4_6), (5, .int v5_9)] → W p l e rm_X0_guess s m args below meth c H15 lc15 0 0 QQ (F0 m 43 ls15 [.int k0_14]) := by
    intro k0_14 H15 lc15 ls15 hm16 hP15 hD15 hS15 hl15
    rw [ek13] at hm16
    refine lv_istore (lv' := [(6, .int k0_14), (0, .ref (r0 0)), (2, .int x2), (3, .int y_1), (4, .int v4_6), (5, .int v5_9)]) hx hb dX0_guess_43 hl15 (by decide) rfl (fun ls17 hl17 => ?_); clear hl15
    refine lv_iload_n hx hb dX0_guess_45 rfl (lv_at hl17 2 rfl) ?_
    obtain ⟨k19, ek19, hm19⟩ := jn_some hm16; clear hm16
    have KJ19 : ∀ (k0_20 : Int32) (H21 : Heap) (lc21 : List Loc) (ls21 : Array Slot), k19 k0_20 = some o → va_P D vwCl (wf [aI (r0 1) cI 36 f_modes, aQ (r0 4) cQ r0, aI (r0 6) cI 5 f_latestOfKind, oB (r0 0) 0 [.ref (r0 1), .ref (r0 2), .ref (r0 3), .ref (r0 4), .ref (r0 5), .ref (r0 6), .int f_columns, .int f_rows, .int f_scale, .int f_toEnd, .int f_between, .int f_kept]] [rowsW cI r0 f_grid]) H21 → va_D A (wf [aI (r0 1) cI 36 f_modes, aQ (r0 4) cQ r0, aI (r0 6) cI 5 f_latestOfKind, oB (r0 0) 0 [.ref (r0 1), .ref (r0 2), .ref (r0 3), .ref (r0 4), .ref (r0 5), .ref (r0 6), .int f_columns, .int f_rows, .int f_scale, .int f_toEnd, .int f_between, .int f_kept]] [rowsW cI r0 f_grid]) → va_S A s.heap H21 lc21 → lv_has ls21 8 [(0, .ref (r0 0)), (3, .int y_1), (4, .int v4_6), (5, .int v5_9), (6, .int k0_14)] → W p l e rm_X0_guess s m args below meth c H21 lc21 0 0 QQ (F0 m 68 ls21 [.int k0_20]) := by
      intro k0_20 H21 lc21 ls21 hm22 hP21 hD21 hS21 hl21
      rw [ek19] at hm22
      refine lv_istore (lv' := [(7, .int k0_20), (0, .ref (r0 0)), (3, .int y_1), (4, .int v4_6), (5, .int v5_9), (6, .int k0_14)]) hx hb dX0_guess_68 hl21 (by decide) rfl (fun ls23 hl23 => ?_); clear hl21
      refine lv_iload hx hb dX0_guess_70 (lv_at hl23 5 rfl) ?_
      refine lv_if_eq (tgt := 102) hx hb dX0_guess_72 (by decide) (fun hc24 => ?_) (fun hc24 => ?_)
      · have hm25 := bq_t hm22 hc24; clear hm22
        refine lv_iload hx hb dX0_guess_102 (lv_at hl23 5 rfl) ?_
        refine lv_if_eq (tgt := 117) hx hb dX0_guess_104 (by decide) (fun hc26 => ?_) (fun hc26 => ?_)
        · have hm27 := bq_t hm25 hc26; clear hm25
          refine lv_iload hx hb dX0_guess_117 (lv_at hl23 0 rfl) ?_
          refine lv_if_eq (tgt := 134) hx hb dX0_guess_119 (by decide) (fun hc28 => ?_) (fun hc28 => ?_)
          · have hm29 := bq_t hm27 hc28; clear hm27
            refine lv_aload_n hx hb dX0_guess_134 rfl (lv_at hl23 1 rfl) ?_
            refine va_get (D := D) (ci := 0) (v := .ref (r0 6)) (C := RX0) (T := TX0) (N := 12) hx hb hts hi_X0_guess_0 hown E.1 hP21 3 rfl rfl 5 (by decide) (hts _ (List.mem_of_getElem? (i := 3) rfl)) (fun _ h9 => h9) rfl dX0_guess_135 ?_
            refine lv_aload_n hx hb dX0_guess_138 rfl (lv_at hl23 1 rfl) ?_
            refine lv_iload_n hx hb dX0_guess_139 rfl (lv_at hl23 2 rfl) ?_
            obtain ⟨y_30, hcl31, hm31⟩ := bd1_some hm29; clear hm29
            have sb32 := ctS.mk (pre := [aI (r0 1) cI 36 f_modes, aQ (r0 4) cQ r0, aI (r0 6) cI 5 f_latestOfKind, oB (r0 0) 0 [.ref (r0 1), .ref (r0 2), .ref (r0 3), .ref (r0 4), .ref (r0 5), .ref (r0 6), .int f_columns, .int f_rows, .int f_scale, .int f_toEnd, .int f_between, .int f_kept]]) (tl := [rowsW cI r0 f_grid]) [3, 0] [1, 2] [] [0] rfl rfl rfl rfl
            refine ct_calli (r := y_30) E sb32 hP21 hD21 hS21 (va_runV (As := [.int y_1]) (rest := [.ref (r0 6)]) ⟨hx, hb, hml, hown, hts⟩ (c_X0_kind l D cB cI cJ cQ N r0 H21.size y_1 f_columns f_rows f_scale f_toEnd f_between f_kept f_modes (y_30) hcl31) (cwV 1 hts gX0_guess_X0_kind rfl rfl rfl cdV_X0_kind ⟨Nat.le_of_ble_eq_true rfl, Nat.le_of_ble_eq_true rfl⟩) (ct_preV (q0 := 3) (ci := 0) E sb32 hP21 hD21 hS21 rfl rfl) rfl rfl hl23.1 rfl (lv_room (Nat.le_of_ble_eq_true rfl)) dX0_guess_140 ⟨Nat.zero_le _, Nat.zero_le _⟩) (fun H33 lc33 hP33 hD33 hS33 => ?_); clear sb32 hcl31
            clear hP21 hD21 hS21
            have hP33 : va_P D vwCl (wf [aQ (r0 4) cQ r0, aI (r0 6) cI 5 f_latestOfKind, oB (r0 0) 0 [.ref (r0 1), .ref (r0 2), .ref (r0 3), .ref (r0 4), .ref (r0 5), .ref (r0 6), .int f_columns, .int f_rows, .int f_scale, .int f_toEnd, .int f_between, .int f_kept], aI (r0 1) cI 36 f_modes] [rowsW cI r0 f_grid]) H33 := hP33
            have hD33 : va_D A (wf [aQ (r0 4) cQ r0, aI (r0 6) cI 5 f_latestOfKind, oB (r0 0) 0 [.ref (r0 1), .ref (r0 2), .ref (r0 3), .ref (r0 4), .ref (r0 5), .ref (r0 6), .int f_columns, .int f_rows, .int f_scale, .int f_toEnd, .int f_between, .int f_kept], aI (r0 1) cI 36 f_modes] [rowsW cI r0 f_grid]) := hD33
            obtain ⟨hin34, hm34⟩ := gi_some hm31; clear hm31
            refine va_iald hx hb E.1 hP33 1 0 rfl rfl hin34 dX0_guess_143 ?_
            obtain ⟨hP35, hD35⟩ := ct_ord [2, 3, 0, 1] [0] hP33 hD33 rfl rfl rfl rfl
            have hS35 := hS33
            have hP35 : va_P D vwCl (wf [oB (r0 0) 0 [.ref (r0 1), .ref (r0 2), .ref (r0 3), .ref (r0 4), .ref (r0 5), .ref (r0 6), .int f_columns, .int f_rows, .int f_scale, .int f_toEnd, .int f_between, .int f_kept], aI (r0 1) cI 36 f_modes, aQ (r0 4) cQ r0, aI (r0 6) cI 5 f_latestOfKind] [rowsW cI r0 f_grid]) H33 := hP35
            have hD35 : va_D A (wf [oB (r0 0) 0 [.ref (r0 1), .ref (r0 2), .ref (r0 3), .ref (r0 4), .ref (r0 5), .ref (r0 6), .int f_columns, .int f_rows, .int f_scale, .int f_toEnd, .int f_between, .int f_kept], aI (r0 1) cI 36 f_modes, aQ (r0 4) cQ r0, aI (r0 6) cI 5 f_latestOfKind] [rowsW cI r0 f_grid]) := hD35
            obtain rfl := Option.some.inj hm34
            rw [hQ]
            exact ct_iret hx hb hr hlk hP35 hD35 hS35 rfl dX0_guess_144
          · have hm36 := bq_f hm27 hc28; clear hm27
            refine lv_aload_n hx hb dX0_guess_122 rfl (lv_at hl23 1 rfl) ?_
            refine va_get (D := D) (ci := 0) (v := .ref (r0 4)) (C := RX0) (T := TX0) (N := 12) hx hb hts hi_X0_guess_0 hown E.1 hP21 3 rfl rfl 3 (by decide) (hts _ (List.mem_of_getElem? (i := 2) rfl)) (fun _ h9 => h9) rfl dX0_guess_123 ?_
            refine lv_iload hx hb dX0_guess_126 (lv_at hl23 4 rfl) ?_
            obtain ⟨hin37, hm37⟩ := gi_some hm36; clear hm36
            refine ct_aald hx hb E.1 hP21 1 rfl hin37 dX0_guess_128 ?_
            refine lv_iconst (v := 0) hx hb dX0_guess_129 (by decide) ?_
            obtain ⟨hin38, hm38⟩ := gi_some hm37; clear hm37
            refine ct_rld hx hb E.1 hP21 (vp_row hin37) hin38 dX0_guess_130 ?_
            refine lv_goto (tgt := 144) hx hb dX0_guess_131 (by decide) ?_
            obtain ⟨hP39, hD39⟩ := ct_ord [3, 0, 1, 2] [0] hP21 hD21 rfl rfl rfl rfl
            have hS39 := hS21
            have hP39 : va_P D vwCl (wf [oB (r0 0) 0 [.ref (r0 1), .ref (r0 2), .ref (r0 3), .ref (r0 4), .ref (r0 5), .ref (r0 6), .int f_columns, .int f_rows, .int f_scale, .int f_toEnd, .int f_between, .int f_kept], aI (r0 1) cI 36 f_modes, aQ (r0 4) cQ r0, aI (r0 6) cI 5 f_latestOfKind] [rowsW cI r0 f_grid]) H21 := hP39
            have hD39 : va_D A (wf [oB (r0 0) 0 [.ref (r0 1), .ref (r0 2), .ref (r0 3), .ref (r0 4), .ref (r0 5), .ref (r0 6), .int f_columns, .int f_rows, .int f_scale, .int f_toEnd, .int f_between, .int f_kept], aI (r0 1) cI 36 f_modes, aQ (r0 4) cQ r0, aI (r0 6) cI 5 f_latestOfKind] [rowsW cI r0 f_grid]) := hD39
            obtain rfl := Option.some.inj hm38
            rw [hQ]
            exact ct_iret hx hb hr hlk hP39 hD39 hS39 rfl dX0_guess_144
        · have hm40 := bq_f hm25 hc26; clear hm25
          refine lv_aload_n hx hb dX0_guess_107 rfl (lv_at hl23 1 rfl) ?_
          refine va_get (D := D) (ci := 0) (v := .ref (r0 4)) (C := RX0) (T := TX0) (N := 12) hx hb hts hi_X0_guess_0 hown E.1 hP21 3 rfl rfl 3 (by decide) (hts _ (List.mem_of_getElem? (i := 2) rfl)) (fun _ h9 => h9) rfl dX0_guess_108 ?_
          refine lv_iload hx hb dX0_guess_111 (lv_at hl23 3 rfl) ?_
          obtain ⟨hin41, hm41⟩ := gi_some hm40; clear hm40
          refine ct_aald hx hb E.1 hP21 1 rfl hin41 dX0_guess_113 ?_
          refine lv_iconst (v := 0) hx hb dX0_guess_114 (by decide) ?_
          obtain ⟨hin42, hm42⟩ := gi_some hm41; clear hm41
          refine ct_rld hx hb E.1 hP21 (vp_row hin41) hin42 dX0_guess_115 ?_
          obtain ⟨hP43, hD43⟩ := ct_ord [3, 0, 1, 2] [0] hP21 hD21 rfl rfl rfl rfl
          have hS43 := hS21
          have hP43 : va_P D vwCl (wf [oB (r0 0) 0 [.ref (r0 1), .ref (r0 2), .ref (r0 3), .ref (r0 4), .ref (r0 5), .ref (r0 6), .int f_columns, .int f_rows, .int f_scale, .int f_toEnd, .int f_between, .int f_kept], aI (r0 1) cI 36 f_modes, aQ (r0 4) cQ r0, aI (r0 6) cI 5 f_latestOfKind] [rowsW cI r0 f_grid]) H21 := hP43
          have hD43 : va_D A (wf [oB (r0 0) 0 [.ref (r0 1), .ref (r0 2), .ref (r0 3), .ref (r0 4), .ref (r0 5), .ref (r0 6), .int f_columns, .int f_rows, .int f_scale, .int f_toEnd, .int f_between, .int f_kept], aI (r0 1) cI 36 f_modes, aQ (r0 4) cQ r0, aI (r0 6) cI 5 f_latestOfKind] [rowsW cI r0 f_grid]) := hD43
          obtain rfl := Option.some.inj hm42
          rw [hQ]
          exact ct_iret hx hb hr hlk hP43 hD43 hS43 rfl dX0_guess_116
      · have hm44 := bq_f hm22 hc24; clear hm22
        refine lv_iload hx hb dX0_guess_75 (lv_at hl23 0 rfl) ?_
        refine lv_if_eq (tgt := 102) hx hb dX0_guess_77 (by decide) (fun hc45 => ?_) (fun hc45 => ?_)
        · have hm46 := bq_t hm44 hc45; clear hm44
          refine lv_iload hx hb dX0_guess_102 (lv_at hl23 5 rfl) ?_
          refine lv_if_eq (tgt := 117) hx hb dX0_guess_104 (by decide) (fun hc47 => ?_) (fun hc47 => ?_)
          · have hm48 := bq_t hm46 hc47; clear hm46
            refine lv_iload hx hb dX0_guess_117 (lv_at hl23 0 rfl) ?_
            refine lv_if_eq (tgt := 134) hx hb dX0_guess_119 (by decide) (fun hc49 => ?_) (fun hc49 => ?_)
            · have hm50 := bq_t hm48 hc49; clear hm48
              refine lv_aload_n hx hb dX0_guess_134 rfl (lv_at hl23 1 rfl) ?_
              refine va_get (D := D) (ci := 0) (v := .ref (r0 6)) (C := RX0) (T := TX0) (N := 12) hx hb hts hi_X0_guess_0 hown E.1 hP21 3 rfl rfl 5 (by decide) (hts _ (List.mem_of_getElem? (i := 3) rfl)) (fun _ h9 => h9) rfl dX0_guess_135 ?_
              refine lv_aload_n hx hb dX0_guess_138 rfl (lv_at hl23 1 rfl) ?_
              refine lv_iload_n hx hb dX0_guess_139 rfl (lv_at hl23 2 rfl) ?_
              obtain ⟨y_51, hcl52, hm52⟩ := bd1_some hm50; clear hm50
              have sb53 := ctS.mk (pre := [aI (r0 1) cI 36 f_modes, aQ (r0 4) cQ r0, aI (r0 6) cI 5 f_latestOfKind, oB (r0 0) 0 [.ref (r0 1), .ref (r0 2), .ref (r0 3), .ref (r0 4), .ref (r0 5), .ref (r0 6), .int f_columns, .int f_rows, .int f_scale, .int f_toEnd, .int f_between, .int f_kept]]) (tl := [rowsW cI r0 f_grid]) [3, 0] [1, 2] [] [0] rfl rfl rfl rfl
              refine ct_calli (r := y_51) E sb53 hP21 hD21 hS21 (va_runV (As := [.int y_1]) (rest := [.ref (r0 6)]) ⟨hx, hb, hml, hown, hts⟩ (c_X0_kind l D cB cI cJ cQ N r0 H21.size y_1 f_columns f_rows f_scale f_toEnd f_between f_kept f_modes (y_51) hcl52) (cwV 1 hts gX0_guess_X0_kind rfl rfl rfl cdV_X0_kind ⟨Nat.le_of_ble_eq_true rfl, Nat.le_of_ble_eq_true rfl⟩) (ct_preV (q0 := 3) (ci := 0) E sb53 hP21 hD21 hS21 rfl rfl) rfl rfl hl23.1 rfl (lv_room (Nat.le_of_ble_eq_true rfl)) dX0_guess_140 ⟨Nat.zero_le _, Nat.zero_le _⟩) (fun H54 lc54 hP54 hD54 hS54 => ?_); clear sb53 hcl52
              clear hP21 hD21 hS21
              have hP54 : va_P D vwCl (wf [aQ (r0 4) cQ r0, aI (r0 6) cI 5 f_latestOfKind, oB (r0 0) 0 [.ref (r0 1), .ref (r0 2), .ref (r0 3), .ref (r0 4), .ref (r0 5), .ref (r0 6), .int f_columns, .int f_rows, .int f_scale, .int f_toEnd, .int f_between, .int f_kept], aI (r0 1) cI 36 f_modes] [rowsW cI r0 f_grid]) H54 := hP54
              have hD54 : va_D A (wf [aQ (r0 4) cQ r0, aI (r0 6) cI 5 f_latestOfKind, oB (r0 0) 0 [.ref (r0 1), .ref (r0 2), .ref (r0 3), .ref (r0 4), .ref (r0 5), .ref (r0 6), .int f_columns, .int f_rows, .int f_scale, .int f_toEnd, .int f_between, .int f_kept], aI (r0 1) cI 36 f_modes] [rowsW cI r0 f_grid]) := hD54
              obtain ⟨hin55, hm55⟩ := gi_some hm52; clear hm52
              refine va_iald hx hb E.1 hP54 1 0 rfl rfl hin55 dX0_guess_143 ?_
              obtain ⟨hP56, hD56⟩ := ct_ord [2, 3, 0, 1] [0] hP54 hD54 rfl rfl rfl rfl
              have hS56 := hS54
              have hP56 : va_P D vwCl (wf [oB (r0 0) 0 [.ref (r0 1), .ref (r0 2), .ref (r0 3), .ref (r0 4), .ref (r0 5), .ref (r0 6), .int f_columns, .int f_rows, .int f_scale, .int f_toEnd, .int f_between, .int f_kept], aI (r0 1) cI 36 f_modes, aQ (r0 4) cQ r0, aI (r0 6) cI 5 f_latestOfKind] [rowsW cI r0 f_grid]) H54 := hP56
              have hD56 : va_D A (wf [oB (r0 0) 0 [.ref (r0 1), .ref (r0 2), .ref (r0 3), .ref (r0 4), .ref (r0 5), .ref (r0 6), .int f_columns, .int f_rows, .int f_scale, .int f_toEnd, .int f_between, .int f_kept], aI (r0 1) cI 36 f_modes, aQ (r0 4) cQ r0, aI (r0 6) cI 5 f_latestOfKind] [rowsW cI r0 f_grid]) := hD56
              obtain rfl := Option.some.inj hm55
              rw [hQ]
              exact ct_iret hx hb hr hlk hP56 hD56 hS56 rfl dX0_guess_144
            · have hm57 := bq_f hm48 hc49; clear hm48
              refine lv_aload_n hx hb dX0_guess_122 rfl (lv_at hl23 1 rfl) ?_
              refine va_get (D := D) (ci := 0) (v := .ref (r0 4)) (C := RX0) (T := TX0) (N := 12) hx hb hts hi_X0_guess_0 hown E.1 hP21 3 rfl rfl 3 (by decide) (hts _ (List.mem_of_getElem? (i := 2) rfl)) (fun _ h9 => h9) rfl dX0_guess_123 ?_
              refine lv_iload hx hb dX0_guess_126 (lv_at hl23 4 rfl) ?_
              obtain ⟨hin58, hm58⟩ := gi_some hm57; clear hm57
              refine ct_aald hx hb E.1 hP21 1 rfl hin58 dX0_guess_128 ?_
              refine lv_iconst (v := 0) hx hb dX0_guess_129 (by decide) ?_
              obtain ⟨hin59, hm59⟩ := gi_some hm58; clear hm58
              refine ct_rld hx hb E.1 hP21 (vp_row hin58) hin59 dX0_guess_130 ?_
              refine lv_goto (tgt := 144) hx hb dX0_guess_131 (by decide) ?_
              obtain ⟨hP60, hD60⟩ := ct_ord [3, 0, 1, 2] [0] hP21 hD21 rfl rfl rfl rfl
              have hS60 := hS21
              have hP60 : va_P D vwCl (wf [oB (r0 0) 0 [.ref (r0 1), .ref (r0 2), .ref (r0 3), .ref (r0 4), .ref (r0 5), .ref (r0 6), .int f_columns, .int f_rows, .int f_scale, .int f_toEnd, .int f_between, .int f_kept], aI (r0 1) cI 36 f_modes, aQ (r0 4) cQ r0, aI (r0 6) cI 5 f_latestOfKind] [rowsW cI r0 f_grid]) H21 := hP60
              have hD60 : va_D A (wf [oB (r0 0) 0 [.ref (r0 1), .ref (r0 2), .ref (r0 3), .ref (r0 4), .ref (r0 5), .ref (r0 6), .int f_columns, .int f_rows, .int f_scale, .int f_toEnd, .int f_between, .int f_kept], aI (r0 1) cI 36 f_modes, aQ (r0 4) cQ r0, aI (r0 6) cI 5 f_latestOfKind] [rowsW cI r0 f_grid]) := hD60
              obtain rfl := Option.some.inj hm59
              rw [hQ]
              exact ct_iret hx hb hr hlk hP60 hD60 hS60 rfl dX0_guess_144
          · have hm61 := bq_f hm46 hc47; clear hm46
            refine lv_aload_n hx hb dX0_guess_107 rfl (lv_at hl23 1 rfl) ?_
            refine va_get (D := D) (ci := 0) (v := .ref (r0 4)) (C := RX0) (T := TX0) (N := 12) hx hb hts hi_X0_guess_0 hown E.1 hP21 3 rfl rfl 3 (by decide) (hts _ (List.mem_of_getElem? (i := 2) rfl)) (fun _ h9 => h9) rfl dX0_guess_108 ?_
            refine lv_iload hx hb dX0_guess_111 (lv_at hl23 3 rfl) ?_
            obtain ⟨hin62, hm62⟩ := gi_some hm61; clear hm61
            refine ct_aald hx hb E.1 hP21 1 rfl hin62 dX0_guess_113 ?_
            refine lv_iconst (v := 0) hx hb dX0_guess_114 (by decide) ?_
            obtain ⟨hin63, hm63⟩ := gi_some hm62; clear hm62
            refine ct_rld hx hb E.1 hP21 (vp_row hin62) hin63 dX0_guess_115 ?_
            obtain ⟨hP64, hD64⟩ := ct_ord [3, 0, 1, 2] [0] hP21 hD21 rfl rfl rfl rfl
            have hS64 := hS21
            have hP64 : va_P D vwCl (wf [oB (r0 0) 0 [.ref (r0 1), .ref (r0 2), .ref (r0 3), .ref (r0 4), .ref (r0 5), .ref (r0 6), .int f_columns, .int f_rows, .int f_scale, .int f_toEnd, .int f_between, .int f_kept], aI (r0 1) cI 36 f_modes, aQ (r0 4) cQ r0, aI (r0 6) cI 5 f_latestOfKind] [rowsW cI r0 f_grid]) H21 := hP64
            have hD64 : va_D A (wf [oB (r0 0) 0 [.ref (r0 1), .ref (r0 2), .ref (r0 3), .ref (r0 4), .ref (r0 5), .ref (r0 6), .int f_columns, .int f_rows, .int f_scale, .int f_toEnd, .int f_between, .int f_kept], aI (r0 1) cI 36 f_modes, aQ (r0 4) cQ r0, aI (r0 6) cI 5 f_latestOfKind] [rowsW cI r0 f_grid]) := hD64
            obtain rfl := Option.some.inj hm63
            rw [hQ]
            exact ct_iret hx hb hr hlk hP64 hD64 hS64 rfl dX0_guess_116
        · have hm65 := bq_f hm44 hc45; clear hm44
          refine lv_aload_n hx hb dX0_guess_80 rfl (lv_at hl23 1 rfl) ?_
          refine va_get (D := D) (ci := 0) (v := .ref (r0 4)) (C := RX0) (T := TX0) (N := 12) hx hb hts hi_X0_guess_0 hown E.1 hP21 3 rfl rfl 3 (by decide) (hts _ (List.mem_of_getElem? (i := 2) rfl)) (fun _ h9 => h9) rfl dX0_guess_81 ?_
          refine lv_iload hx hb dX0_guess_84 (lv_at hl23 3 rfl) ?_
          obtain ⟨hin66, hm66⟩ := gi_some hm65; clear hm65
          refine ct_aald hx hb E.1 hP21 1 rfl hin66 dX0_guess_86 ?_
          refine lv_iconst (v := 0) hx hb dX0_guess_87 (by decide) ?_
          obtain ⟨hin67, hm67⟩ := gi_some hm66; clear hm66
          refine ct_rld hx hb E.1 hP21 (vp_row hin66) hin67 dX0_guess_88 ?_
          refine lv_aload_n hx hb dX0_guess_89 rfl (lv_at hl23 1 rfl) ?_
          refine va_get (D := D) (ci := 0) (v := .ref (r0 4)) (C := RX0) (T := TX0) (N := 12) hx hb hts hi_X0_guess_0 hown E.1 hP21 3 rfl rfl 3 (by decide) (hts _ (List.mem_of_getElem? (i := 2) rfl)) (fun _ h9 => h9) rfl dX0_guess_90 ?_
          refine lv_iload hx hb dX0_guess_93 (lv_at hl23 4 rfl) ?_
          obtain ⟨hin68, hm68⟩ := gi_some hm67; clear hm67
          refine ct_aald hx hb E.1 hP21 1 rfl hin68 dX0_guess_95 ?_
          refine lv_iconst (v := 0) hx hb dX0_guess_96 (by decide) ?_
          obtain ⟨hin69, hm69⟩ := gi_some hm68; clear hm68
          refine ct_rld hx hb E.1 hP21 (vp_row hin68) hin69 dX0_guess_97 ?_
          refine lv_iadd hx hb dX0_guess_98 ?_
          refine lv_iconst (v := 2) hx hb dX0_guess_99 (by decide) ?_
          refine lv_idiv hx hb dX0_guess_100 (by decide) ?_
          obtain ⟨hP70, hD70⟩ := ct_ord [3, 0, 1, 2] [0] hP21 hD21 rfl rfl rfl rfl
          have hS70 := hS21
          have hP70 : va_P D vwCl (wf [oB (r0 0) 0 [.ref (r0 1), .ref (r0 2), .ref (r0 3), .ref (r0 4), .ref (r0 5), .ref (r0 6), .int f_columns, .int f_rows, .int f_scale, .int f_toEnd, .int f_between, .int f_kept], aI (r0 1) cI 36 f_modes, aQ (r0 4) cQ r0, aI (r0 6) cI 5 f_latestOfKind] [rowsW cI r0 f_grid]) H21 := hP70
          have hD70 : va_D A (wf [oB (r0 0) 0 [.ref (r0 1), .ref (r0 2), .ref (r0 3), .ref (r0 4), .ref (r0 5), .ref (r0 6), .int f_columns, .int f_rows, .int f_scale, .int f_toEnd, .int f_between, .int f_kept], aI (r0 1) cI 36 f_modes, aQ (r0 4) cQ r0, aI (r0 6) cI 5 f_latestOfKind] [rowsW cI r0 f_grid]) := hD70
          obtain rfl := Option.some.inj hm69
          rw [hQ]
          exact ct_iret hx hb hr hlk hP70 hD70 hS70 rfl dX0_guess_101
    refine lv_if_le (tgt := 67) hx hb dX0_guess_46 (by decide) (fun hc71 => ?_) (fun hc71 => ?_)
    · have hm72 := bq_t hm19 hc71; clear hm19
      refine lv_iconst (v := 0) hx hb dX0_guess_67 (by decide) ?_
      exact KJ19 (0 : Int32) _ _ _ hm72 hP15 hD15 hS15 (lv_sub hl17 [1, 3, 4, 5, 0] rfl)
    · have hm73 := bq_f hm19 hc71; clear hm19
      refine lv_aload_n hx hb dX0_guess_49 rfl (lv_at hl17 1 rfl) ?_
      refine lv_iload hx hb dX0_guess_50 (lv_at hl17 5 rfl) ?_
      obtain ⟨y_74, hcl75, hm75⟩ := bd1_some hm73; clear hm73
      have sb76 := ctS.mk (pre := [aI (r0 1) cI 36 f_modes, aQ (r0 4) cQ r0, aI (r0 6) cI 5 f_latestOfKind, oB (r0 0) 0 [.ref (r0 1), .ref (r0 2), .ref (r0 3), .ref (r0 4), .ref (r0 5), .ref (r0 6), .int f_columns, .int f_rows, .int f_scale, .int f_toEnd, .int f_between, .int f_kept]]) (tl := [rowsW cI r0 f_grid]) [3, 0] [1, 2] [] [0] rfl rfl rfl rfl
      refine ct_calli (r := y_74) E sb76 hP15 hD15 hS15 (va_runV (As := [.int v5_9]) (rest := []) ⟨hx, hb, hml, hown, hts⟩ (c_X0_kind l D cB cI cJ cQ N r0 H15.size v5_9 f_columns f_rows f_scale f_toEnd f_between f_kept f_modes (y_74) hcl75) (cwV 1 hts gX0_guess_X0_kind rfl rfl rfl cdV_X0_kind ⟨Nat.le_of_ble_eq_true rfl, Nat.le_of_ble_eq_true rfl⟩) (ct_preV (q0 := 3) (ci := 0) E sb76 hP15 hD15 hS15 rfl rfl) rfl rfl hl17.1 rfl (lv_room (Nat.le_of_ble_eq_true rfl)) dX0_guess_52 ⟨Nat.zero_le _, Nat.zero_le _⟩) (fun H77 lc77 hP77 hD77 hS77 => ?_); clear sb76 hcl75
      clear hP15 hD15 hS15
      have hP77 : va_P D vwCl (wf [aQ (r0 4) cQ r0, aI (r0 6) cI 5 f_latestOfKind, oB (r0 0) 0 [.ref (r0 1), .ref (r0 2), .ref (r0 3), .ref (r0 4), .ref (r0 5), .ref (r0 6), .int f_columns, .int f_rows, .int f_scale, .int f_toEnd, .int f_between, .int f_kept], aI (r0 1) cI 36 f_modes] [rowsW cI r0 f_grid]) H77 := hP77
      have hD77 : va_D A (wf [aQ (r0 4) cQ r0, aI (r0 6) cI 5 f_latestOfKind, oB (r0 0) 0 [.ref (r0 1), .ref (r0 2), .ref (r0 3), .ref (r0 4), .ref (r0 5), .ref (r0 6), .int f_columns, .int f_rows, .int f_scale, .int f_toEnd, .int f_between, .int f_kept], aI (r0 1) cI 36 f_modes] [rowsW cI r0 f_grid]) := hD77
      refine lv_aload_n hx hb dX0_guess_55 rfl (lv_at hl17 1 rfl) ?_
      refine lv_iload_n hx hb dX0_guess_56 rfl (lv_at hl17 3 rfl) ?_
      obtain ⟨y_78, hcl79, hm79⟩ := bd1_some hm75; clear hm75
      have sb80 := ctS.mk (pre := [aQ (r0 4) cQ r0, aI (r0 6) cI 5 f_latestOfKind, oB (r0 0) 0 [.ref (r0 1), .ref (r0 2), .ref (r0 3), .ref (r0 4), .ref (r0 5), .ref (r0 6), .int f_columns, .int f_rows, .int f_scale, .int f_toEnd, .int f_between, .int f_kept], aI (r0 1) cI 36 f_modes]) (tl := [rowsW cI r0 f_grid]) [2, 3] [0, 1] [] [0] rfl rfl rfl rfl
      refine ct_calli (r := y_78) E sb80 hP77 hD77 hS77 (va_runV (As := [.int y_1]) (rest := [.int y_74]) ⟨hx, hb, hml, hown, hts⟩ (c_X0_kind l D cB cI cJ cQ N r0 H77.size y_1 f_columns f_rows f_scale f_toEnd f_between f_kept f_modes (y_78) hcl79) (cwV 1 hts gX0_guess_X0_kind rfl rfl rfl cdV_X0_kind ⟨Nat.le_of_ble_eq_true rfl, Nat.le_of_ble_eq_true rfl⟩) (ct_preV (q0 := 2) (ci := 0) E sb80 hP77 hD77 hS77 rfl rfl) rfl rfl hl17.1 rfl (lv_room (Nat.le_of_ble_eq_true rfl)) dX0_guess_57 ⟨Nat.zero_le _, Nat.zero_le _⟩) (fun H81 lc81 hP81 hD81 hS81 => ?_); clear sb80 hcl79
      clear hP77 hD77 hS77
      have hP81 : va_P D vwCl (wf [aQ (r0 4) cQ r0, aI (r0 6) cI 5 f_latestOfKind, oB (r0 0) 0 [.ref (r0 1), .ref (r0 2), .ref (r0 3), .ref (r0 4), .ref (r0 5), .ref (r0 6), .int f_columns, .int f_rows, .int f_scale, .int f_toEnd, .int f_between, .int f_kept], aI (r0 1) cI 36 f_modes] [rowsW cI r0 f_grid]) H81 := hP81
      have hD81 : va_D A (wf [aQ (r0 4) cQ r0, aI (r0 6) cI 5 f_latestOfKind, oB (r0 0) 0 [.ref (r0 1), .ref (r0 2), .ref (r0 3), .ref (r0 4), .ref (r0 5), .ref (r0 6), .int f_columns, .int f_rows, .int f_scale, .int f_toEnd, .int f_between, .int f_kept], aI (r0 1) cI 36 f_modes] [rowsW cI r0 f_grid]) := hD81
      refine lv_icmp_ne (tgt := 67) hx hb dX0_guess_60 (by decide) (fun hc82 => ?_) (fun hc82 => ?_)
      · have hm83 := bq_f hm79 hc82; clear hm79
        refine lv_iconst (v := 0) hx hb dX0_guess_67 (by decide) ?_
        obtain ⟨hP84, hD84⟩ := ct_ord [3, 0, 1, 2] [0] hP81 hD81 rfl rfl rfl rfl
        have hS84 := hS81
        have hP84 : va_P D vwCl (wf [aI (r0 1) cI 36 f_modes, aQ (r0 4) cQ r0, aI (r0 6) cI 5 f_latestOfKind, oB (r0 0) 0 [.ref (r0 1), .ref (r0 2), .ref (r0 3), .ref (r0 4), .ref (r0 5), .ref (r0 6), .int f_columns, .int f_rows, .int f_scale, .int f_toEnd, .int f_between, .int f_kept]] [rowsW cI r0 f_grid]) H81 := hP84
        have hD84 : va_D A (wf [aI (r0 1) cI 36 f_modes, aQ (r0 4) cQ r0, aI (r0 6) cI 5 f_latestOfKind, oB (r0 0) 0 [.ref (r0 1), .ref (r0 2), .ref (r0 3), .ref (r0 4), .ref (r0 5), .ref (r0 6), .int f_columns, .int f_rows, .int f_scale, .int f_toEnd, .int f_between, .int f_kept]] [rowsW cI r0 f_grid]) := hD84
        exact KJ19 (0 : Int32) _ _ _ hm83 hP84 hD84 hS84 (lv_sub hl17 [1, 3, 4, 5, 0] rfl)
      · have hm85 := bq_t hm79 hc82; clear hm79
        refine lv_iconst (v := 1) hx hb dX0_guess_63 (by decide) ?_
        refine lv_goto (tgt := 68) hx hb dX0_guess_64 (by decide) ?_
        obtain ⟨hP86, hD86⟩ := ct_ord [3, 0, 1, 2] [0] hP81 hD81 rfl rfl rfl rfl
        have hS86 := hS81
        have hP86 : va_P D vwCl (wf [aI (r0 1) cI 36 f_modes, aQ (r0 4) cQ r0, aI (r0 6) cI 5 f_latestOfKind, oB (r0 0) 0 [.ref (r0 1), .ref (r0 2), .ref (r0 3), .ref (r0 4), .ref (r0 5), .ref (r0 6), .int f_columns, .int f_rows, .int f_scale, .int f_toEnd, .int f_between, .int f_kept]] [rowsW cI r0 f_grid]) H81 := hP86
        have hD86 : va_D A (wf [aI (r0 1) cI 36 f_modes, aQ (r0 4) cQ r0, aI (r0 6) cI 5 f_latestOfKind, oB (r0 0) 0 [.ref (r0 1), .ref (r0 2), .ref (r0 3), .ref (r0 4), .ref (r0 5), .ref (r0 6), .int f_columns, .int f_rows, .int f_scale, .int f_toEnd, .int f_between, .int f_kept]] [rowsW cI r0 f_grid]) := hD86
        exact KJ19 (1 : Int32) _ _ _ hm85 hP86 hD86 hS86 (lv_sub hl17 [1, 3, 4, 5, 0] rfl)
  refine lv_if_le (tgt := 42) hx hb dX0_guess_21 (by decide) (fun hc87 => ?_) (fun hc87 => ?_)
  · have hm88 := bq_t hm13 hc87; clear hm13
    refine lv_iconst (v := 0) hx hb dX0_guess_42 (by decide) ?_
    exact KJ13 (0 : Int32) _ _ _ hm88 hP4 hD4 hS4 (lv_sub hl11 [3, 5, 2, 1, 0] rfl)
  · have hm89 := bq_f hm13 hc87; clear hm13
    refine lv_aload_n hx hb dX0_guess_24 rfl (lv_at hl11 3 rfl) ?_
    refine lv_iload hx hb dX0_guess_25 (lv_at hl11 1 rfl) ?_
    obtain ⟨y_90, hcl91, hm91⟩ := bd1_some hm89; clear hm89
    have sb92 := ctS.mk (pre := [aI (r0 1) cI 36 f_modes, aQ (r0 4) cQ r0, aI (r0 6) cI 5 f_latestOfKind, oB (r0 0) 0 [.ref (r0 1), .ref (r0 2), .ref (r0 3), .ref (r0 4), .ref (r0 5), .ref (r0 6), .int f_columns, .int f_rows, .int f_scale, .int f_toEnd, .int f_between, .int f_kept]]) (tl := [rowsW cI r0 f_grid]) [3, 0] [1, 2] [] [0] rfl rfl rfl rfl
    refine ct_calli (r := y_90) E sb92 hP4 hD4 hS4 (va_runV (As := [.int v4_6]) (rest := []) ⟨hx, hb, hml, hown, hts⟩ (c_X0_kind l D cB cI cJ cQ N r0 H4.size v4_6 f_columns f_rows f_scale f_toEnd f_between f_kept f_modes (y_90) hcl91) (cwV 1 hts gX0_guess_X0_kind rfl rfl rfl cdV_X0_kind ⟨Nat.le_of_ble_eq_true rfl, Nat.le_of_ble_eq_true rfl⟩) (ct_preV (q0 := 3) (ci := 0) E sb92 hP4 hD4 hS4 rfl rfl) rfl rfl hl11.1 rfl (lv_room (Nat.le_of_ble_eq_true rfl)) dX0_guess_27 ⟨Nat.zero_le _, Nat.zero_le _⟩) (fun H93 lc93 hP93 hD93 hS93 => ?_); clear sb92 hcl91
    clear hP4 hD4 hS4
    have hP93 : va_P D vwCl (wf [aQ (r0 4) cQ r0, aI (r0 6) cI 5 f_latestOfKind, oB (r0 0) 0 [.ref (r0 1), .ref (r0 2), .ref (r0 3), .ref (r0 4), .ref (r0 5), .ref (r0 6), .int f_columns, .int f_rows, .int f_scale, .int f_toEnd, .int f_between, .int f_kept], aI (r0 1) cI 36 f_modes] [rowsW cI r0 f_grid]) H93 := hP93
    have hD93 : va_D A (wf [aQ (r0 4) cQ r0, aI (r0 6) cI 5 f_latestOfKind, oB (r0 0) 0 [.ref (r0 1), .ref (r0 2), .ref (r0 3), .ref (r0 4), .ref (r0 5), .ref (r0 6), .int f_columns, .int f_rows, .int f_scale, .int f_toEnd, .int f_between, .int f_kept], aI (r0 1) cI 36 f_modes] [rowsW cI r0 f_grid]) := hD93
    refine lv_aload_n hx hb dX0_guess_30 rfl (lv_at hl11 3 rfl) ?_
    refine lv_iload_n hx hb dX0_guess_31 rfl (lv_at hl11 2 rfl) ?_
    obtain ⟨y_94, hcl95, hm95⟩ := bd1_some hm91; clear hm91
    have sb96 := ctS.mk (pre := [aQ (r0 4) cQ r0, aI (r0 6) cI 5 f_latestOfKind, oB (r0 0) 0 [.ref (r0 1), .ref (r0 2), .ref (r0 3), .ref (r0 4), .ref (r0 5), .ref (r0 6), .int f_columns, .int f_rows, .int f_scale, .int f_toEnd, .int f_between, .int f_kept], aI (r0 1) cI 36 f_modes]) (tl := [rowsW cI r0 f_grid]) [2, 3] [0, 1] [] [0] rfl rfl rfl rfl
    refine ct_calli (r := y_94) E sb96 hP93 hD93 hS93 (va_runV (As := [.int y_1]) (rest := [.int y_90]) ⟨hx, hb, hml, hown, hts⟩ (c_X0_kind l D cB cI cJ cQ N r0 H93.size y_1 f_columns f_rows f_scale f_toEnd f_between f_kept f_modes (y_94) hcl95) (cwV 1 hts gX0_guess_X0_kind rfl rfl rfl cdV_X0_kind ⟨Nat.le_of_ble_eq_true rfl, Nat.le_of_ble_eq_true rfl⟩) (ct_preV (q0 := 2) (ci := 0) E sb96 hP93 hD93 hS93 rfl rfl) rfl rfl hl11.1 rfl (lv_room (Nat.le_of_ble_eq_true rfl)) dX0_guess_32 ⟨Nat.zero_le _, Nat.zero_le _⟩) (fun H97 lc97 hP97 hD97 hS97 => ?_); clear sb96 hcl95
    clear hP93 hD93 hS93
    have hP97 : va_P D vwCl (wf [aQ (r0 4) cQ r0, aI (r0 6) cI 5 f_latestOfKind, oB (r0 0) 0 [.ref (r0 1), .ref (r0 2), .ref (r0 3), .ref (r0 4), .ref (r0 5), .ref (r0 6), .int f_columns, .int f_rows, .int f_scale, .int f_toEnd, .int f_between, .int f_kept], aI (r0 1) cI 36 f_modes] [rowsW cI r0 f_grid]) H97 := hP97
    have hD97 : va_D A (wf [aQ (r0 4) cQ r0, aI (r0 6) cI 5 f_latestOfKind, oB (r0 0) 0 [.ref (r0 1), .ref (r0 2), .ref (r0 3), .ref (r0 4), .ref (r0 5), .ref (r0 6), .int f_columns, .int f_rows, .int f_scale, .int f_toEnd, .int f_between, .int f_kept], aI (r0 1) cI 36 f_modes] [rowsW cI r0 f_grid]) := hD97
    refine lv_icmp_ne (tgt := 42) hx hb dX0_guess_35 (by decide) (fun hc98 => ?_) (fun hc98 => ?_)
    · have hm99 := bq_f hm95 hc98; clear hm95
      refine lv_iconst (v := 0) hx hb dX0_guess_42 (by decide) ?_
      obtain ⟨hP100, hD100⟩ := ct_ord [3, 0, 1, 2] [0] hP97 hD97 rfl rfl rfl rfl
      have hS100 := hS97
      have hP100 : va_P D vwCl (wf [aI (r0 1) cI 36 f_modes, aQ (r0 4) cQ r0, aI (r0 6) cI 5 f_latestOfKind, oB (r0 0) 0 [.ref (r0 1), .ref (r0 2), .ref (r0 3), .ref (r0 4), .ref (r0 5), .ref (r0 6), .int f_columns, .int f_rows, .int f_scale, .int f_toEnd, .int f_between, .int f_kept]] [rowsW cI r0 f_grid]) H97 := hP100
      have hD100 : va_D A (wf [aI (r0 1) cI 36 f_modes, aQ (r0 4) cQ r0, aI (r0 6) cI 5 f_latestOfKind, oB (r0 0) 0 [.ref (r0 1), .ref (r0 2), .ref (r0 3), .ref (r0 4), .ref (r0 5), .ref (r0 6), .int f_columns, .int f_rows, .int f_scale, .int f_toEnd, .int f_between, .int f_kept]] [rowsW cI r0 f_grid]) := hD100
      exact KJ13 (0 : Int32) _ _ _ hm99 hP100 hD100 hS100 (lv_sub hl11 [3, 5, 2, 1, 0] rfl)
    · have hm101 := bq_t hm95 hc98; clear hm95
      refine lv_iconst (v := 1) hx hb dX0_guess_38 (by decide) ?_
      refine lv_goto (tgt := 43) hx hb dX0_guess_39 (by decide) ?_
      obtain ⟨hP102, hD102⟩ := ct_ord [3, 0, 1, 2] [0] hP97 hD97 rfl rfl rfl rfl
      have hS102 := hS97
      have hP102 : va_P D vwCl (wf [aI (r0 1) cI 36 f_modes, aQ (r0 4) cQ r0, aI (r0 6) cI 5 f_latestOfKind, oB (r0 0) 0 [.ref (r0 1), .ref (r0 2), .ref (r0 3), .ref (r0 4), .ref (r0 5), .ref (r0 6), .int f_columns, .int f_rows, .int f_scale, .int f_toEnd, .int f_between, .int f_kept]] [rowsW cI r0 f_grid]) H97 := hP102
      have hD102 : va_D A (wf [aI (r0 1) cI 36 f_modes, aQ (r0 4) cQ r0, aI (r0 6) cI 5 f_latestOfKind, oB (r0 0) 0 [.ref (r0 1), .ref (r0 2), .ref (r0 3), .ref (r0 4), .ref (r0 5), .ref (r0 6), .int f_columns, .int f_rows, .int f_scale, .int f_toEnd, .int f_between, .int f_kept]] [rowsW cI r0 f_grid]) := hD102
      exact KJ13 (1 : Int32) _ _ _ hm101 hP102 hD102 hS102 (lv_sub hl11 [3, 5, 2, 1, 0] rfl)

def f_X0_addGuesses_L2  : Nat → (Nat → Int32) → Int32 → Option ((Nat → Int32))
  | 0, _, _ => none
  | n + 1, f_latestOfKind_3, v1_4 =>
  (if (4 : Int32) < v1_4 then
  (some (f_latestOfKind_3))
  else
  (gi v1_4 5 <|
  nm (upd f_latestOfKind_3 v1_4.toNatClampNeg (0 : Int32) : Nat → Int32) fun f_latestOfKind_12 =>
  nm (v1_4 + (1 : Int32) : Int32) fun v1_15 =>
  f_X0_addGuesses_L2 n f_latestOfKind_12 v1_15))

def f_X0_addGuesses_L32 (f_columns : Int32) (f_modes : Nat → Int32) (v1_25 : Int32) : Nat → (Nat → Int32) → (Nat → Nat → Int32) → Int32 → Option ((Nat → Int32) × (Nat → Nat → Int32))
  | 0, _, _, _ => none
  | n + 1, f_latestOfKind_34, f_grid_35, v2_36 =>
  (if f_columns ≤ v2_36 then
  (some (f_latestOfKind_34, f_grid_35))
  else
  (bd1 (f_X0_index v2_36 v1_25 f_columns) fun y_43 =>
  bd1 (f_X0_isCoded y_43 f_modes) fun y_48 =>
  jn (fun (k53 : (Nat → Int32) → (Nat → Nat → Int32) → Option ((Nat → Int32) × (Nat → Nat → Int32))) => (if y_48 = (0 : Int32) then
  (k53 f_latestOfKind_34 f_grid_35)
  else
  (gi y_43 36 <|
  gi (0 : Int32) 64 <|
  bd1 (f_X0_guess v2_36 v1_25 f_columns f_modes f_latestOfKind_34 f_grid_35) fun y_67 =>
  gi (0 : Int32) 64 <|
  nm (updM f_grid_35 y_43.toNatClampNeg (0 : Int32).toNatClampNeg ((f_grid_35 y_43.toNatClampNeg (0 : Int32).toNatClampNeg) + y_67) : Nat → Nat → Int32) fun f_grid_72 =>
  bd1 (f_X0_kind y_43 f_modes) fun y_75 =>
  gi y_43 36 <|
  gi (0 : Int32) 64 <|
  gi y_75 5 <|
  nm (upd f_latestOfKind_34 y_75.toNatClampNeg (f_grid_72 y_43.toNatClampNeg (0 : Int32).toNatClampNeg) : Nat → Int32) fun f_latestOfKind_82 =>
  k53 f_latestOfKind_82 f_grid_72))) fun f_latestOfKind_54 f_grid_55 =>
  nm (v2_36 + (1 : Int32) : Int32) fun v2_58 =>
  f_X0_addGuesses_L32 f_columns f_modes v1_25 n f_latestOfKind_54 f_grid_55 v2_58))

def f_X0_addGuesses_L22 (f_columns : Int32) (f_rows : Int32) (f_modes : Nat → Int32) : Nat → (Nat → Int32) → (Nat → Nat → Int32) → Int32 → Option ((Nat → Int32) × (Nat → Nat → Int32))
  | 0, _, _, _ => none
  | n + 1, f_latestOfKind_23, f_grid_24, v1_25 =>
  (if f_rows ≤ v1_25 then
  (some (f_latestOfKind_23, f_grid_24))
  else
  (bd2 (f_X0_addGuesses_L32 f_columns f_modes v1_25 4000 f_latestOfKind_23 f_grid_24 (0 : Int32)) fun f_latestOfKind_85 f_grid_86 =>
  nm (v1_25 + (1 : Int32) : Int32) fun v1_89 =>
  f_X0_addGuesses_L22 f_columns f_rows f_modes n f_latestOfKind_85 f_grid_86 v1_89))

def f_X0_addGuesses (f_columns : Int32) (f_rows : Int32) (f_modes : Nat → Int32) (f_latestOfKind : Nat → Int32) (f_grid : Nat → Nat → Int32) : Option ((Nat → Int32) × (Nat → Nat → Int32)) :=
  bd1 (f_X0_addGuesses_L2 4000 f_latestOfKind (0 : Int32)) fun f_latestOfKind_18 =>
  bd2 (f_X0_addGuesses_L22 f_columns f_rows f_modes 4000 f_latestOfKind_18 f_grid (0 : Int32)) fun f_latestOfKind_92 f_grid_93 =>
  some (f_latestOfKind_92, f_grid_93)

abbrev rm_X0_addGuesses : Room := { frames := 2, cells := 0, slots := 0, locals := 49 }

theorem cdS_X0_addGuesses : yX0_addGuesses.cls ≠ "java/lang/invoke/MethodHandle" ∧ yX0_addGuesses.cls ≠ "java/lang/invoke/VarHandle" ∧ (parseMethodDescriptor yX0_addGuesses.desc).map (fun d => d.parameters.length) = some 0 := by decide +kernel

theorem cdV_X0_addGuesses : yX0_addGuesses.cls = RX0 ∧ yX0_addGuesses.cls ≠ "java/lang/invoke/MethodHandle" ∧ yX0_addGuesses.cls ≠ "java/lang/invoke/VarHandle" ∧ (parseMethodDescriptor yX0_addGuesses.desc).map (fun d => d.parameters.length) = some 0 := ⟨rfl, cdS_X0_addGuesses⟩

theorem hi_X0_addGuesses_0 : ∀ w ∈ u_ws RX0 TX0 12, w ∈ wsX0_addGuesses := fun _ h => List.mem_cons_of_mem _ (List.mem_append_right _ h)

set_option maxHeartbeats 40000000 in
set_option maxRecDepth 100000 in
theorem c_X0_addGuesses (l : Launch) (D : va_G) (cB cI cJ cQ : ClassId) (N : Nat) (r0 : Nat → Nat) (sz : Nat) (f_columns : Int32) (f_rows : Int32) (f_scale : Int32) (f_toEnd : Int32) (f_between : Int32) (f_kept : Int32) (f_modes : Nat → Int32) (f_latestOfKind : Nat → Int32) (f_grid : Nat → Nat → Int32) (o : (Nat → Int32) × (Nat → Nat → Int32)) (hm0 : f_X0_addGuesses f_columns f_rows f_modes f_latestOfKind f_grid = some o) : Met l yX0_addGuesses wsX0_addGuesses rm_X0_addGuesses (ctP D cB cI cJ cQ N sz [.ref (r0 0)] (wf [oB (r0 0) 0 [.ref (r0 1), .ref (r0 2), .ref (r0 3), .ref (r0 4), .ref (r0 5), .ref (r0 6), .int f_columns, .int f_rows, .int f_scale, .int f_toEnd, .int f_between, .int f_kept], aI (r0 1) cI 36 f_modes, aQ (r0 4) cQ r0, aI (r0 6) cI 5 f_latestOfKind] [rowsW cI r0 f_grid])) (ctQv D (wf [oB (r0 0) 0 [.ref (r0 1), .ref (r0 2), .ref (r0 3), .ref (r0 4), .ref (r0 5), .ref (r0 6), .int f_columns, .int f_rows, .int f_scale, .int f_toEnd, .int f_between, .int f_kept], aI (r0 1) cI 36 f_modes, aQ (r0 4) cQ r0, aI (r0 6) cI 5 (o.1)] [rowsW cI r0 (o.2)]) (va_A (wf [oB (r0 0) 0 [.ref (r0 1), .ref (r0 2), .ref (r0 3), .ref (r0 4), .ref (r0 5), .ref (r0 6), .int f_columns, .int f_rows, .int f_scale, .int f_toEnd, .int f_between, .int f_kept], aI (r0 1) cI 36 f_modes, aQ (r0 4) cQ r0, aI (r0 6) cI 5 f_latestOfKind] [rowsW cI r0 f_grid]) sz)) 0 0 (va_A (wf [oB (r0 0) 0 [.ref (r0 1), .ref (r0 2), .ref (r0 3), .ref (r0 4), .ref (r0 5), .ref (r0 6), .int f_columns, .int f_rows, .int f_scale, .int f_toEnd, .int f_between, .int f_kept], aI (r0 1) cI 36 f_modes, aQ (r0 4) cQ r0, aI (r0 6) cI 5 f_latestOfKind] [rowsW cI r0 f_grid]) sz) := by
  refine ct_of (cc := cX0_addGuesses) (maxL := 4) (ret := none) (own := RX0) (Qp := ctQv D (wf [oB (r0 0) 0 [.ref (r0 1), .ref (r0 2), .ref (r0 3), .ref (r0 4), .ref (r0 5), .ref (r0 6), .int f_columns, .int f_rows, .int f_scale, .int f_toEnd, .int f_between, .int f_kept], aI (r0 1) cI 36 f_modes, aQ (r0 4) cQ r0, aI (r0 6) cI 5 (o.1)] [rowsW cI r0 (o.2)])) (by decide) rfl rfl (Nat.le_of_ble_eq_true rfl) ?_
  intro p e s m args below meth c A hx hb hr hml hown hts hlk hnm hsz hAe E hP0 hD0 hS0 ls0 hl0
  subst hsz
  have hl0 : lv_has ls0 4 [(0, .ref (r0 0))] := hl0
  obtain ⟨QQ, hQ⟩ : ∃ Q : State → Prop, Q = MQ below (ctQv D (wf [oB (r0 0) 0 [.ref (r0 1), .ref (r0 2), .ref (r0 3), .ref (r0 4), .ref (r0 5), .ref (r0 6), .int f_columns, .int f_rows, .int f_scale, .int f_toEnd, .int f_between, .int f_kept], aI (r0 1) cI 36 f_modes, aQ (r0 4) cQ r0, aI (r0 6) cI 5 (o.1)] [rowsW cI r0 (o.2)]) A) args s 0 0 A := ⟨_, rfl⟩
  rw [← hQ]
  unfold f_X0_addGuesses at hm0
  refine lv_iconst (v := 0) hx hb dX0_addGuesses_0 (by decide) ?_
  refine lv_istore_n (lv' := [(1, .int (0 : Int32)), (0, .ref (r0 0))]) hx hb dX0_addGuesses_1 rfl hl0 (by decide) rfl (fun ls1 hl1 => ?_); clear hl0
  obtain ⟨f_latestOfKind_18, hlp2, hm19⟩ := bd1_some hm0; clear hm0
  have LP2 : ∀ (n : Nat) (f_latestOfKind_3 : Nat → Int32) (v1_4 : Int32) (z2 : (Nat → Int32)) (H5 : Heap) (lc5 : List Loc) (ls5 : Array Slot), f_X0_addGuesses_L2 n f_latestOfKind_3 v1_4 = some z2 → va_P D vwCl (wf [oB (r0 0) 0 [.ref (r0 1), .ref (r0 2), .ref (r0 3), .ref (r0 4), .ref (r0 5), .ref (r0 6), .int f_columns, .int f_rows, .int f_scale, .int f_toEnd, .int f_between, .int f_kept], aI (r0 1) cI 36 f_modes, aQ (r0 4) cQ r0, aI (r0 6) cI 5 f_latestOfKind_3] [rowsW cI r0 f_grid]) H5 → va_D A (wf [oB (r0 0) 0 [.ref (r0 1), .ref (r0 2), .ref (r0 3), .ref (r0 4), .ref (r0 5), .ref (r0 6), .int f_columns, .int f_rows, .int f_scale, .int f_toEnd, .int f_between, .int f_kept], aI (r0 1) cI 36 f_modes, aQ (r0 4) cQ r0, aI (r0 6) cI 5 f_latestOfKind_3] [rowsW cI r0 f_grid]) → va_S A s.heap H5 lc5 → lv_has ls5 4 [(0, .ref (r0 0)), (1, .int v1_4)] → (∀ (H : Heap) (lc : List Loc) (ls : Array Slot), va_P D vwCl (wf [oB (r0 0) 0 [.ref (r0 1), .ref (r0 2), .ref (r0 3), .ref (r0 4), .ref (r0 5), .ref (r0 6), .int f_columns, .int f_rows, .int f_scale, .int f_toEnd, .int f_between, .int f_kept], aI (r0 1) cI 36 f_modes, aQ (r0 4) cQ r0, aI (r0 6) cI 5 z2] [rowsW cI r0 f_grid]) H → va_D A (wf [oB (r0 0) 0 [.ref (r0 1), .ref (r0 2), .ref (r0 3), .ref (r0 4), .ref (r0 5), .ref (r0 6), .int f_columns, .int f_rows, .int f_scale, .int f_toEnd, .int f_between, .int f_kept], aI (r0 1) cI 36 f_modes, aQ (r0 4) cQ r0, aI (r0 6) cI 5 z2] [rowsW cI r0 f_grid]) → va_S A s.heap H lc → lv_has ls 4 [(0, .ref (r0 0))] → W p l e rm_X0_addGuesses s m args below meth c H lc 0 0 QQ (F0 m 20 ls [])) → W p l e rm_X0_addGuesses s m args below meth c H5 lc5 0 0 QQ (F0 m 2 ls5 []) := by
    intro n
    induction n with
    | zero =>
      intro f_latestOfKind_3 v1_4 z2 H5 lc5 ls5 hm7; simp [f_X0_addGuesses_L2] at hm7
    | succ n ih =>
      intro f_latestOfKind_3 v1_4 z2 H5 lc5 ls5 hm7 hP5 hD5 hS5 hl5 kx
      rw [f_X0_addGuesses_L2] at hm7
      refine lv_iload_n hx hb dX0_addGuesses_2 rfl (lv_at hl5 1 rfl) ?_
      refine lv_iconst (v := 4) hx hb dX0_addGuesses_3 (by decide) ?_
      refine lv_icmp_gt (tgt := 20) hx hb dX0_addGuesses_4 (by decide) (fun hc8 => ?_) (fun hc8 => ?_)
      · have hm9 := bq_t hm7 hc8; clear hm7
        obtain rfl := Option.some.inj hm9
        exact kx _ _ _ hP5 hD5 hS5 (lv_sub hl5 [0] rfl)
      · have hm10 := bq_f hm7 hc8; clear hm7
        refine lv_aload_n hx hb dX0_addGuesses_7 rfl (lv_at hl5 0 rfl) ?_
        refine va_get (D := D) (ci := 0) (v := .ref (r0 6)) (C := RX0) (T := TX0) (N := 12) hx hb hts hi_X0_addGuesses_0 hown E.1 hP5 0 rfl rfl 5 (by decide) (hts _ (List.mem_of_getElem? (i := 1) rfl)) (fun _ h9 => h9) rfl dX0_addGuesses_8 ?_
        refine lv_iload_n hx hb dX0_addGuesses_11 rfl (lv_at hl5 1 rfl) ?_
        refine lv_iconst (v := 0) hx hb dX0_addGuesses_12 (by decide) ?_
        obtain ⟨hin11, hm11⟩ := gi_some hm10; clear hm10
        obtain ⟨f_latestOfKind_12, ef_latestOfKind_12, hm13⟩ := nm_some hm11; clear hm11
        refine ct_iast (g := f_latestOfKind_12) (ws' := (wf [oB (r0 0) 0 [.ref (r0 1), .ref (r0 2), .ref (r0 3), .ref (r0 4), .ref (r0 5), .ref (r0 6), .int f_columns, .int f_rows, .int f_scale, .int f_toEnd, .int f_between, .int f_kept], aI (r0 1) cI 36 f_modes, aQ (r0 4) cQ r0, aI (r0 6) cI 5 f_latestOfKind_12] [rowsW cI r0 f_grid])) hx hb E.1 hP5 hD5 hS5 3 0 rfl rfl hin11 ef_latestOfKind_12 rfl dX0_addGuesses_13 (fun H14 lc14 hP14 hD14 hS14 => ?_)
        clear hP5 hD5 hS5
        obtain ⟨v1_15, ev1_15, hm16⟩ := nm_some hm13; clear hm13
        refine lv_iinc (v := v1_15) (lv' := [(1, .int v1_15), (0, .ref (r0 0))]) hx hb dX0_addGuesses_14 hl5 (k := 1) rfl (by rw [ev1_15]; rfl) (by decide) rfl (fun ls17 hl17 => ?_); clear hl5
        refine lv_goto (tgt := 2) hx hb dX0_addGuesses_17 (by decide) ?_
        exact ih f_latestOfKind_12 v1_15 _ _ _ _ hm16 hP14 hD14 hS14 (lv_sub hl17 [1, 0] rfl) kx
  refine LP2 4000 f_latestOfKind (0 : Int32) (f_latestOfKind_18) _ _ _ hlp2 hP0 hD0 hS0 (lv_sub hl1 [1, 0] rfl) (fun H20 lc20 ls20 hP20 hD20 hS20 hl20 => ?_); clear LP2 hlp2
  clear hP0 hD0 hS0
  have hl20 : lv_has ls20 4 [(0, .ref (r0 0))] := hl20
  have hP20 : va_P D vwCl (wf [oB (r0 0) 0 [.ref (r0 1), .ref (r0 2), .ref (r0 3), .ref (r0 4), .ref (r0 5), .ref (r0 6), .int f_columns, .int f_rows, .int f_scale, .int f_toEnd, .int f_between, .int f_kept], aI (r0 1) cI 36 f_modes, aQ (r0 4) cQ r0, aI (r0 6) cI 5 f_latestOfKind_18] [rowsW cI r0 f_grid]) H20 := hP20
  have hD20 : va_D A (wf [oB (r0 0) 0 [.ref (r0 1), .ref (r0 2), .ref (r0 3), .ref (r0 4), .ref (r0 5), .ref (r0 6), .int f_columns, .int f_rows, .int f_scale, .int f_toEnd, .int f_between, .int f_kept], aI (r0 1) cI 36 f_modes, aQ (r0 4) cQ r0, aI (r0 6) cI 5 f_latestOfKind_18] [rowsW cI r0 f_grid]) := hD20
  refine lv_iconst (v := 0) hx hb dX0_addGuesses_20 (by decide) ?_
  refine lv_istore_n (lv' := [(1, .int (0 : Int32)), (0, .ref (r0 0))]) hx hb dX0_addGuesses_21 rfl hl20 (by decide) rfl (fun ls21 hl21 => ?_); clear hl20
  obtain ⟨f_latestOfKind_92, f_grid_93, hlp22, hm94⟩ := bd2_some hm19; clear hm19
  have LP22 : ∀ (n : Nat) (f_latestOfKind_23 : Nat → Int32) (f_grid_24 : Nat → Nat → Int32) (v1_25 : Int32) (z22 : (Nat → Int32) × (Nat → Nat → Int32)) (H26 : Heap) (lc26 : List Loc) (ls26 : Array Slot), f_X0_addGuesses_L22 f_columns f_rows f_modes n f_latestOfKind_23 f_grid_24 v1_25 = some z22 → va_P D vwCl (wf [oB (r0 0) 0 [.ref (r0 1), .ref (r0 2), .ref (r0 3), .ref (r0 4), .ref (r0 5), .ref (r0 6), .int f_columns, .int f_rows, .int f_scale, .int f_toEnd, .int f_between, .int f_kept], aI (r0 1) cI 36 f_modes, aQ (r0 4) cQ r0, aI (r0 6) cI 5 f_latestOfKind_23] [rowsW cI r0 f_grid_24]) H26 → va_D A (wf [oB (r0 0) 0 [.ref (r0 1), .ref (r0 2), .ref (r0 3), .ref (r0 4), .ref (r0 5), .ref (r0 6), .int f_columns, .int f_rows, .int f_scale, .int f_toEnd, .int f_between, .int f_kept], aI (r0 1) cI 36 f_modes, aQ (r0 4) cQ r0, aI (r0 6) cI 5 f_latestOfKind_23] [rowsW cI r0 f_grid_24]) → va_S A s.heap H26 lc26 → lv_has ls26 4 [(0, .ref (r0 0)), (1, .int v1_25)] → (∀ (H : Heap) (lc : List Loc) (ls : Array Slot), va_P D vwCl (wf [oB (r0 0) 0 [.ref (r0 1), .ref (r0 2), .ref (r0 3), .ref (r0 4), .ref (r0 5), .ref (r0 6), .int f_columns, .int f_rows, .int f_scale, .int f_toEnd, .int f_between, .int f_kept], aI (r0 1) cI 36 f_modes, aQ (r0 4) cQ r0, aI (r0 6) cI 5 (z22.1)] [rowsW cI r0 (z22.2)]) H → va_D A (wf [oB (r0 0) 0 [.ref (r0 1), .ref (r0 2), .ref (r0 3), .ref (r0 4), .ref (r0 5), .ref (r0 6), .int f_columns, .int f_rows, .int f_scale, .int f_toEnd, .int f_between, .int f_kept], aI (r0 1) cI 36 f_modes, aQ (r0 4) cQ r0, aI (r0 6) cI 5 (z22.1)] [rowsW cI r0 (z22.2)]) → va_S A s.heap H lc → lv_has ls 4 [] → W p l e rm_X0_addGuesses s m args below meth c H lc 0 0 QQ (F0 m 102 ls [])) → W p l e rm_X0_addGuesses s m args below meth c H26 lc26 0 0 QQ (F0 m 22 ls26 []) := by
    intro n
    induction n with
    | zero =>
      intro f_latestOfKind_23 f_grid_24 v1_25 z22 H26 lc26 ls26 hm28; simp [f_X0_addGuesses_L22] at hm28
    | succ n ih =>
      intro f_latestOfKind_23 f_grid_24 v1_25 z22 H26 lc26 ls26 hm28 hP26 hD26 hS26 hl26 kx
      rw [f_X0_addGuesses_L22] at hm28
      refine lv_iload_n hx hb dX0_addGuesses_22 rfl (lv_at hl26 1 rfl) ?_
      refine lv_aload_n hx hb dX0_addGuesses_23 rfl (lv_at hl26 0 rfl) ?_
      refine va_get (D := D) (ci := 0) (v := .int f_rows) (C := RX0) (T := TX0) (N := 12) hx hb hts hi_X0_addGuesses_0 hown E.1 hP26 0 rfl rfl 7 (by decide) (hts _ (List.mem_of_getElem? (i := 2) rfl)) (fun _ h9 => h9) rfl dX0_addGuesses_24 ?_
      refine lv_icmp_ge (tgt := 102) hx hb dX0_addGuesses_27 (by decide) (fun hc29 => ?_) (fun hc29 => ?_)
      · have hm30 := bq_t hm28 hc29; clear hm28
        obtain rfl := Option.some.inj hm30
        exact kx _ _ _ hP26 hD26 hS26 (lv_sub hl26 [] rfl)
      · have hm31 := bq_f hm28 hc29; clear hm28
        refine lv_iconst (v := 0) hx hb dX0_addGuesses_30 (by decide) ?_
        refine lv_istore_n (lv' := [(2, .int (0 : Int32)), (0, .ref (r0 0)), (1, .int v1_25)]) hx hb dX0_addGuesses_31 rfl hl26 (by decide) rfl (fun ls32 hl32 => ?_); clear hl26
        obtain ⟨f_latestOfKind_85, f_grid_86, hlp33, hm87⟩ := bd2_some hm31; clear hm31
        have LP33 : ∀ (n : Nat) (f_latestOfKind_34 : Nat → Int32) (f_grid_35 : Nat → Nat → Int32) (v2_36 : Int32) (z33 : (Nat → Int32) × (Nat → Nat → Int32)) (H37 : Heap) (lc37 : List Loc) (ls37 : Array Slot), f_X0_addGuesses_L32 f_columns f_modes v1_25 n f_latestOfKind_34 f_grid_35 v2_36 = some z33 → va_P D vwCl (wf [oB (r0 0) 0 [.ref (r0 1), .ref (r0 2), .ref (r0 3), .ref (r0 4), .ref (r0 5), .ref (r0 6), .int f_columns, .int f_rows, .int f_scale, .int f_toEnd, .int f_between, .int f_kept], aI (r0 1) cI 36 f_modes, aQ (r0 4) cQ r0, aI (r0 6) cI 5 f_latestOfKind_34] [rowsW cI r0 f_grid_35]) H37 → va_D A (wf [oB (r0 0) 0 [.ref (r0 1), .ref (r0 2), .ref (r0 3), .ref (r0 4), .ref (r0 5), .ref (r0 6), .int f_columns, .int f_rows, .int f_scale, .int f_toEnd, .int f_between, .int f_kept], aI (r0 1) cI 36 f_modes, aQ (r0 4) cQ r0, aI (r0 6) cI 5 f_latestOfKind_34] [rowsW cI r0 f_grid_35]) → va_S A s.heap H37 lc37 → lv_has ls37 4 [(0, .ref (r0 0)), (1, .int v1_25), (2, .int v2_36)] → (∀ (H : Heap) (lc : List Loc) (ls : Array Slot), va_P D vwCl (wf [oB (r0 0) 0 [.ref (r0 1), .ref (r0 2), .ref (r0 3), .ref (r0 4), .ref (r0 5), .ref (r0 6), .int f_columns, .int f_rows, .int f_scale, .int f_toEnd, .int f_between, .int f_kept], aI (r0 1) cI 36 f_modes, aQ (r0 4) cQ r0, aI (r0 6) cI 5 (z33.1)] [rowsW cI r0 (z33.2)]) H → va_D A (wf [oB (r0 0) 0 [.ref (r0 1), .ref (r0 2), .ref (r0 3), .ref (r0 4), .ref (r0 5), .ref (r0 6), .int f_columns, .int f_rows, .int f_scale, .int f_toEnd, .int f_between, .int f_kept], aI (r0 1) cI 36 f_modes, aQ (r0 4) cQ r0, aI (r0 6) cI 5 (z33.1)] [rowsW cI r0 (z33.2)]) → va_S A s.heap H lc → lv_has ls 4 [(0, .ref (r0 0)), (1, .int v1_25)] → W p l e rm_X0_addGuesses s m args below meth c H lc 0 0 QQ (F0 m 96 ls [])) → W p l e rm_X0_addGuesses s m args below meth c H37 lc37 0 0 QQ (F0 m 32 ls37 []) := by
          intro n
          induction n with
          | zero =>
            intro f_latestOfKind_34 f_grid_35 v2_36 z33 H37 lc37 ls37 hm39; simp [f_X0_addGuesses_L32] at hm39
          | succ n ih =>
            intro f_latestOfKind_34 f_grid_35 v2_36 z33 H37 lc37 ls37 hm39 hP37 hD37 hS37 hl37 kx
            rw [f_X0_addGuesses_L32] at hm39
            refine lv_iload_n hx hb dX0_addGuesses_32 rfl (lv_at hl37 2 rfl) ?_
            refine lv_aload_n hx hb dX0_addGuesses_33 rfl (lv_at hl37 0 rfl) ?_
            refine va_get (D := D) (ci := 0) (v := .int f_columns) (C := RX0) (T := TX0) (N := 12) hx hb hts hi_X0_addGuesses_0 hown E.1 hP37 0 rfl rfl 6 (by decide) (hts _ (List.mem_of_getElem? (i := 3) rfl)) (fun _ h9 => h9) rfl dX0_addGuesses_34 ?_
            refine lv_icmp_ge (tgt := 96) hx hb dX0_addGuesses_37 (by decide) (fun hc40 => ?_) (fun hc40 => ?_)
            · have hm41 := bq_t hm39 hc40; clear hm39
              obtain rfl := Option.some.inj hm41
              exact kx _ _ _ hP37 hD37 hS37 (lv_sub hl37 [0, 1] rfl)
            · have hm42 := bq_f hm39 hc40; clear hm39
              refine lv_aload_n hx hb dX0_addGuesses_40 rfl (lv_at hl37 0 rfl) ?_
              refine lv_iload_n hx hb dX0_addGuesses_41 rfl (lv_at hl37 2 rfl) ?_
              refine lv_iload_n hx hb dX0_addGuesses_42 rfl (lv_at hl37 1 rfl) ?_
              obtain ⟨y_43, hcl44, hm44⟩ := bd1_some hm42; clear hm42
              have sb45 := ctS.mk (pre := [oB (r0 0) 0 [.ref (r0 1), .ref (r0 2), .ref (r0 3), .ref (r0 4), .ref (r0 5), .ref (r0 6), .int f_columns, .int f_rows, .int f_scale, .int f_toEnd, .int f_between, .int f_kept], aI (r0 1) cI 36 f_modes, aQ (r0 4) cQ r0, aI (r0 6) cI 5 f_latestOfKind_34]) (tl := [rowsW cI r0 f_grid_35]) [0] [1, 2, 3] [] [0] rfl rfl rfl rfl
              refine ct_calli (r := y_43) E sb45 hP37 hD37 hS37 (va_runV (As := [.int v2_36, .int v1_25]) (rest := []) ⟨hx, hb, hml, hown, hts⟩ (c_X0_index l D cB cI cJ cQ N r0 H37.size v2_36 v1_25 f_columns f_rows f_scale f_toEnd f_between f_kept (y_43) hcl44) (cwV 2 hts gX0_addGuesses_X0_index rfl rfl rfl cdV_X0_index ⟨Nat.le_of_ble_eq_true rfl, Nat.le_of_ble_eq_true rfl⟩) (ct_preV (q0 := 0) (ci := 0) E sb45 hP37 hD37 hS37 rfl rfl) rfl rfl hl37.1 rfl (lv_room (Nat.le_of_ble_eq_true rfl)) dX0_addGuesses_43 ⟨Nat.zero_le _, Nat.zero_le _⟩) (fun H46 lc46 hP46 hD46 hS46 => ?_); clear sb45 hcl44
              clear hP37 hD37 hS37
              have hP46 : va_P D vwCl (wf [aI (r0 1) cI 36 f_modes, aQ (r0 4) cQ r0, aI (r0 6) cI 5 f_latestOfKind_34, oB (r0 0) 0 [.ref (r0 1), .ref (r0 2), .ref (r0 3), .ref (r0 4), .ref (r0 5), .ref (r0 6), .int f_columns, .int f_rows, .int f_scale, .int f_toEnd, .int f_between, .int f_kept]] [rowsW cI r0 f_grid_35]) H46 := hP46
              have hD46 : va_D A (wf [aI (r0 1) cI 36 f_modes, aQ (r0 4) cQ r0, aI (r0 6) cI 5 f_latestOfKind_34, oB (r0 0) 0 [.ref (r0 1), .ref (r0 2), .ref (r0 3), .ref (r0 4), .ref (r0 5), .ref (r0 6), .int f_columns, .int f_rows, .int f_scale, .int f_toEnd, .int f_between, .int f_kept]] [rowsW cI r0 f_grid_35]) := hD46
              refine lv_istore_n (lv' := [(3, .int y_43), (0, .ref (r0 0)), (1, .int v1_25), (2, .int v2_36)]) hx hb dX0_addGuesses_46 rfl hl37 (by decide) rfl (fun ls47 hl47 => ?_); clear hl37
              refine lv_aload_n hx hb dX0_addGuesses_47 rfl (lv_at hl47 1 rfl) ?_
              refine lv_iload_n hx hb dX0_addGuesses_48 rfl (lv_at hl47 0 rfl) ?_
              obtain ⟨y_48, hcl49, hm49⟩ := bd1_some hm44; clear hm44
              have sb50 := ctS.mk (pre := [aI (r0 1) cI 36 f_modes, aQ (r0 4) cQ r0, aI (r0 6) cI 5 f_latestOfKind_34, oB (r0 0) 0 [.ref (r0 1), .ref (r0 2), .ref (r0 3), .ref (r0 4), .ref (r0 5), .ref (r0 6), .int f_columns, .int f_rows, .int f_scale, .int f_toEnd, .int f_between, .int f_kept]]) (tl := [rowsW cI r0 f_grid_35]) [3, 0] [1, 2] [] [0] rfl rfl rfl rfl
              refine ct_calli (r := y_48) E sb50 hP46 hD46 hS46 (va_runV (As := [.int y_43]) (rest := []) ⟨hx, hb, hml, hown, hts⟩ (c_X0_isCoded l D cB cI cJ cQ N r0 H46.size y_43 f_columns f_rows f_scale f_toEnd f_between f_kept f_modes (y_48) hcl49) (cwV 1 hts gX0_addGuesses_X0_isCoded rfl rfl rfl cdV_X0_isCoded ⟨Nat.le_of_ble_eq_true rfl, Nat.le_of_ble_eq_true rfl⟩) (ct_preV (q0 := 3) (ci := 0) E sb50 hP46 hD46 hS46 rfl rfl) rfl rfl hl47.1 rfl (lv_room (Nat.le_of_ble_eq_true rfl)) dX0_addGuesses_49 ⟨Nat.zero_le _, Nat.zero_le _⟩) (fun H51 lc51 hP51 hD51 hS51 => ?_); clear sb50 hcl49
              clear hP46 hD46 hS46
              have hP51 : va_P D vwCl (wf [aQ (r0 4) cQ r0, aI (r0 6) cI 5 f_latestOfKind_34, oB (r0 0) 0 [.ref (r0 1), .ref (r0 2), .ref (r0 3), .ref (r0 4), .ref (r0 5), .ref (r0 6), .int f_columns, .int f_rows, .int f_scale, .int f_toEnd, .int f_between, .int f_kept], aI (r0 1) cI 36 f_modes] [rowsW cI r0 f_grid_35]) H51 := hP51
              have hD51 : va_D A (wf [aQ (r0 4) cQ r0, aI (r0 6) cI 5 f_latestOfKind_34, oB (r0 0) 0 [.ref (r0 1), .ref (r0 2), .ref (r0 3), .ref (r0 4), .ref (r0 5), .ref (r0 6), .int f_columns, .int f_rows, .int f_scale, .int f_toEnd, .int f_between, .int f_kept], aI (r0 1) cI 36 f_modes] [rowsW cI r0 f_grid_35]) := hD51
              obtain ⟨k53, ek53, hm53⟩ := jn_some hm49; clear hm49
              have KJ53 : ∀ (f_latestOfKind_54 : Nat → Int32) (f_grid_55 : Nat → Nat → Int32) (H56 : Heap) (lc56 : List Loc) (ls56 : Array Slot), k53 f_latestOfKind_54 f_grid_55 = some z33 → va_P D vwCl (wf [aQ (r0 4) cQ r0, aI (r0 6) cI 5 f_latestOfKind_54, oB (r0 0) 0 [.ref (r0 1), .ref (r0 2), .ref (r0 3), .ref (r0 4), .ref (r0 5), .ref (r0 6), .int f_columns, .int f_rows, .int f_scale, .int f_toEnd, .int f_between, .int f_kept], aI (r0 1) cI 36 f_modes] [rowsW cI r0 f_grid_55]) H56 → va_D A (wf [aQ (r0 4) cQ r0, aI (r0 6) cI 5 f_latestOfKind_54, oB (r0 0) 0 [.ref (r0 1), .ref (r0 2), .ref (r0 3), .ref (r0 4), .ref (r0 5), .ref (r0 6), .int f_columns, .int f_rows, .int f_scale, .int f_toEnd, .int f_between, .int f_kept], aI (r0 1) cI 36 f_modes] [rowsW cI r0 f_grid_55]) → va_S A s.heap H56 lc56 → lv_has ls56 4 [(0, .ref (r0 0)), (1, .int v1_25), (2, .int v2_36)] → W p l e rm_X0_addGuesses s m args below meth c H56 lc56 0 0 QQ (F0 m 90 ls56 []) := by
                intro f_latestOfKind_54 f_grid_55 H56 lc56 ls56 hm57 hP56 hD56 hS56 hl56
                rw [ek53] at hm57
                obtain ⟨v2_58, ev2_58, hm59⟩ := nm_some hm57; clear hm57
                refine lv_iinc (v := v2_58) (lv' := [(2, .int v2_58), (0, .ref (r0 0)), (1, .int v1_25)]) hx hb dX0_addGuesses_90 hl56 (k := 2) rfl (by rw [ev2_58]; rfl) (by decide) rfl (fun ls60 hl60 => ?_); clear hl56
                refine lv_goto (tgt := 32) hx hb dX0_addGuesses_93 (by decide) ?_
                obtain ⟨hP61, hD61⟩ := ct_ord [2, 3, 0, 1] [0] hP56 hD56 rfl rfl rfl rfl
                have hS61 := hS56
                have hP61 : va_P D vwCl (wf [oB (r0 0) 0 [.ref (r0 1), .ref (r0 2), .ref (r0 3), .ref (r0 4), .ref (r0 5), .ref (r0 6), .int f_columns, .int f_rows, .int f_scale, .int f_toEnd, .int f_between, .int f_kept], aI (r0 1) cI 36 f_modes, aQ (r0 4) cQ r0, aI (r0 6) cI 5 f_latestOfKind_54] [rowsW cI r0 f_grid_55]) H56 := hP61
                have hD61 : va_D A (wf [oB (r0 0) 0 [.ref (r0 1), .ref (r0 2), .ref (r0 3), .ref (r0 4), .ref (r0 5), .ref (r0 6), .int f_columns, .int f_rows, .int f_scale, .int f_toEnd, .int f_between, .int f_kept], aI (r0 1) cI 36 f_modes, aQ (r0 4) cQ r0, aI (r0 6) cI 5 f_latestOfKind_54] [rowsW cI r0 f_grid_55]) := hD61
                exact ih f_latestOfKind_54 f_grid_55 v2_58 _ _ _ _ hm59 hP61 hD61 hS61 (lv_sub hl60 [1, 2, 0] rfl) kx
              refine lv_if_eq (tgt := 90) hx hb dX0_addGuesses_52 (by decide) (fun hc62 => ?_) (fun hc62 => ?_)
              · have hm63 := bq_t hm53 hc62; clear hm53
                exact KJ53 f_latestOfKind_34 f_grid_35 _ _ _ hm63 hP51 hD51 hS51 (lv_sub hl47 [1, 2, 3] rfl)
              · have hm64 := bq_f hm53 hc62; clear hm53
                refine lv_aload_n hx hb dX0_addGuesses_55 rfl (lv_at hl47 1 rfl) ?_
                refine va_get (D := D) (ci := 0) (v := .ref (r0 4)) (C := RX0) (T := TX0) (N := 12) hx hb hts hi_X0_addGuesses_0 hown E.1 hP51 2 rfl rfl 3 (by decide) (hts _ (List.mem_of_getElem? (i := 4) rfl)) (fun _ h9 => h9) rfl dX0_addGuesses_56 ?_
                refine lv_iload_n hx hb dX0_addGuesses_59 rfl (lv_at hl47 0 rfl) ?_
                obtain ⟨hin65, hm65⟩ := gi_some hm64; clear hm64
                refine ct_aald hx hb E.1 hP51 0 rfl hin65 dX0_addGuesses_60 ?_
                refine lv_iconst (v := 0) hx hb dX0_addGuesses_61 (by decide) ?_
                refine lv_dup2_11 hx hb dX0_addGuesses_62 rfl rfl ?_
                obtain ⟨hin66, hm66⟩ := gi_some hm65; clear hm65
                refine ct_rld hx hb E.1 hP51 (vp_row hin65) hin66 dX0_addGuesses_63 ?_
                refine lv_aload_n hx hb dX0_addGuesses_64 rfl (lv_at hl47 1 rfl) ?_
                refine lv_iload_n hx hb dX0_addGuesses_65 rfl (lv_at hl47 3 rfl) ?_
                refine lv_iload_n hx hb dX0_addGuesses_66 rfl (lv_at hl47 2 rfl) ?_
                obtain ⟨y_67, hcl68, hm68⟩ := bd1_some hm66; clear hm66
                have sb69 := ctS.mk (pre := [aQ (r0 4) cQ r0, aI (r0 6) cI 5 f_latestOfKind_34, oB (r0 0) 0 [.ref (r0 1), .ref (r0 2), .ref (r0 3), .ref (r0 4), .ref (r0 5), .ref (r0 6), .int f_columns, .int f_rows, .int f_scale, .int f_toEnd, .int f_between, .int f_kept], aI (r0 1) cI 36 f_modes]) (tl := [rowsW cI r0 f_grid_35]) [2, 3, 0, 1] [] [0] [] rfl rfl rfl rfl
                refine ct_calli (r := y_67) E sb69 hP51 hD51 hS51 (va_runV (As := [.int v2_36, .int v1_25]) (rest := [.int (f_grid_35 y_43.toNatClampNeg (0 : Int32).toNatClampNeg), .int (0 : Int32), .ref (r0 (7 + y_43.toNatClampNeg))]) ⟨hx, hb, hml, hown, hts⟩ (c_X0_guess l D cB cI cJ cQ N r0 H51.size v2_36 v1_25 f_columns f_rows f_scale f_toEnd f_between f_kept f_modes f_latestOfKind_34 f_grid_35 (y_67) hcl68) (cwV 2 hts gX0_addGuesses_X0_guess rfl rfl rfl cdV_X0_guess ⟨Nat.le_of_ble_eq_true rfl, Nat.le_of_ble_eq_true rfl⟩) (ct_preV (q0 := 2) (ci := 0) E sb69 hP51 hD51 hS51 rfl rfl) rfl rfl hl47.1 rfl (lv_room (Nat.le_of_ble_eq_true rfl)) dX0_addGuesses_67 ⟨Nat.zero_le _, Nat.zero_le _⟩) (fun H70 lc70 hP70 hD70 hS70 => ?_); clear sb69 hcl68
                clear hP51 hD51 hS51
                have hP70 : va_P D vwCl (wf [oB (r0 0) 0 [.ref (r0 1), .ref (r0 2), .ref (r0 3), .ref (r0 4), .ref (r0 5), .ref (r0 6), .int f_columns, .int f_rows, .int f_scale, .int f_toEnd, .int f_between, .int f_kept], aI (r0 1) cI 36 f_modes, aQ (r0 4) cQ r0, aI (r0 6) cI 5 f_latestOfKind_34] [rowsW cI r0 f_grid_35]) H70 := hP70
                have hD70 : va_D A (wf [oB (r0 0) 0 [.ref (r0 1), .ref (r0 2), .ref (r0 3), .ref (r0 4), .ref (r0 5), .ref (r0 6), .int f_columns, .int f_rows, .int f_scale, .int f_toEnd, .int f_between, .int f_kept], aI (r0 1) cI 36 f_modes, aQ (r0 4) cQ r0, aI (r0 6) cI 5 f_latestOfKind_34] [rowsW cI r0 f_grid_35]) := hD70
                refine lv_iadd hx hb dX0_addGuesses_70 ?_
                obtain ⟨hin71, hm71⟩ := gi_some hm68; clear hm68
                obtain ⟨f_grid_72, ef_grid_72, hm73⟩ := nm_some hm71; clear hm71
                refine ct_rst hx hb E.1 hP70 hD70 hS70 (vp_row hin65) hin71 ef_grid_72 dX0_addGuesses_71 (fun H74 lc74 hP74 hD74 hS74 => ?_)
                clear hP70 hD70 hS70
                have hP74 : va_P D vwCl (wf [oB (r0 0) 0 [.ref (r0 1), .ref (r0 2), .ref (r0 3), .ref (r0 4), .ref (r0 5), .ref (r0 6), .int f_columns, .int f_rows, .int f_scale, .int f_toEnd, .int f_between, .int f_kept], aI (r0 1) cI 36 f_modes, aQ (r0 4) cQ r0, aI (r0 6) cI 5 f_latestOfKind_34] [rowsW cI r0 f_grid_72]) H74 := hP74
                have hD74 : va_D A (wf [oB (r0 0) 0 [.ref (r0 1), .ref (r0 2), .ref (r0 3), .ref (r0 4), .ref (r0 5), .ref (r0 6), .int f_columns, .int f_rows, .int f_scale, .int f_toEnd, .int f_between, .int f_kept], aI (r0 1) cI 36 f_modes, aQ (r0 4) cQ r0, aI (r0 6) cI 5 f_latestOfKind_34] [rowsW cI r0 f_grid_72]) := hD74
                refine lv_aload_n hx hb dX0_addGuesses_72 rfl (lv_at hl47 1 rfl) ?_
                refine va_get (D := D) (ci := 0) (v := .ref (r0 6)) (C := RX0) (T := TX0) (N := 12) hx hb hts hi_X0_addGuesses_0 hown E.1 hP74 0 rfl rfl 5 (by decide) (hts _ (List.mem_of_getElem? (i := 1) rfl)) (fun _ h9 => h9) rfl dX0_addGuesses_73 ?_
                refine lv_aload_n hx hb dX0_addGuesses_76 rfl (lv_at hl47 1 rfl) ?_
                refine lv_iload_n hx hb dX0_addGuesses_77 rfl (lv_at hl47 0 rfl) ?_
                obtain ⟨y_75, hcl76, hm76⟩ := bd1_some hm73; clear hm73
                have sb77 := ctS.mk (pre := [oB (r0 0) 0 [.ref (r0 1), .ref (r0 2), .ref (r0 3), .ref (r0 4), .ref (r0 5), .ref (r0 6), .int f_columns, .int f_rows, .int f_scale, .int f_toEnd, .int f_between, .int f_kept], aI (r0 1) cI 36 f_modes, aQ (r0 4) cQ r0, aI (r0 6) cI 5 f_latestOfKind_34]) (tl := [rowsW cI r0 f_grid_72]) [0, 1] [2, 3] [] [0] rfl rfl rfl rfl
                refine ct_calli (r := y_75) E sb77 hP74 hD74 hS74 (va_runV (As := [.int y_43]) (rest := [.ref (r0 6)]) ⟨hx, hb, hml, hown, hts⟩ (c_X0_kind l D cB cI cJ cQ N r0 H74.size y_43 f_columns f_rows f_scale f_toEnd f_between f_kept f_modes (y_75) hcl76) (cwV 1 hts gX0_addGuesses_X0_kind rfl rfl rfl cdV_X0_kind ⟨Nat.le_of_ble_eq_true rfl, Nat.le_of_ble_eq_true rfl⟩) (ct_preV (q0 := 0) (ci := 0) E sb77 hP74 hD74 hS74 rfl rfl) rfl rfl hl47.1 rfl (lv_room (Nat.le_of_ble_eq_true rfl)) dX0_addGuesses_78 ⟨Nat.zero_le _, Nat.zero_le _⟩) (fun H78 lc78 hP78 hD78 hS78 => ?_); clear sb77 hcl76
                clear hP74 hD74 hS74
                have hP78 : va_P D vwCl (wf [aQ (r0 4) cQ r0, aI (r0 6) cI 5 f_latestOfKind_34, oB (r0 0) 0 [.ref (r0 1), .ref (r0 2), .ref (r0 3), .ref (r0 4), .ref (r0 5), .ref (r0 6), .int f_columns, .int f_rows, .int f_scale, .int f_toEnd, .int f_between, .int f_kept], aI (r0 1) cI 36 f_modes] [rowsW cI r0 f_grid_72]) H78 := hP78
                have hD78 : va_D A (wf [aQ (r0 4) cQ r0, aI (r0 6) cI 5 f_latestOfKind_34, oB (r0 0) 0 [.ref (r0 1), .ref (r0 2), .ref (r0 3), .ref (r0 4), .ref (r0 5), .ref (r0 6), .int f_columns, .int f_rows, .int f_scale, .int f_toEnd, .int f_between, .int f_kept], aI (r0 1) cI 36 f_modes] [rowsW cI r0 f_grid_72]) := hD78
                refine lv_aload_n hx hb dX0_addGuesses_81 rfl (lv_at hl47 1 rfl) ?_
                refine va_get (D := D) (ci := 0) (v := .ref (r0 4)) (C := RX0) (T := TX0) (N := 12) hx hb hts hi_X0_addGuesses_0 hown E.1 hP78 2 rfl rfl 3 (by decide) (hts _ (List.mem_of_getElem? (i := 4) rfl)) (fun _ h9 => h9) rfl dX0_addGuesses_82 ?_
                refine lv_iload_n hx hb dX0_addGuesses_85 rfl (lv_at hl47 0 rfl) ?_
                obtain ⟨hin79, hm79⟩ := gi_some hm76; clear hm76
                refine ct_aald hx hb E.1 hP78 0 rfl hin79 dX0_addGuesses_86 ?_
                refine lv_iconst (v := 0) hx hb dX0_addGuesses_87 (by decide) ?_
                obtain ⟨hin80, hm80⟩ := gi_some hm79; clear hm79
                refine ct_rld hx hb E.1 hP78 (vp_row hin79) hin80 dX0_addGuesses_88 ?_
                obtain ⟨hin81, hm81⟩ := gi_some hm80; clear hm80
                obtain ⟨f_latestOfKind_82, ef_latestOfKind_82, hm83⟩ := nm_some hm81; clear hm81
                refine ct_iast (g := f_latestOfKind_82) (ws' := (wf [aQ (r0 4) cQ r0, aI (r0 6) cI 5 f_latestOfKind_82, oB (r0 0) 0 [.ref (r0 1), .ref (r0 2), .ref (r0 3), .ref (r0 4), .ref (r0 5), .ref (r0 6), .int f_columns, .int f_rows, .int f_scale, .int f_toEnd, .int f_between, .int f_kept], aI (r0 1) cI 36 f_modes] [rowsW cI r0 f_grid_72])) hx hb E.1 hP78 hD78 hS78 1 0 rfl rfl hin81 ef_latestOfKind_82 rfl dX0_addGuesses_89 (fun H84 lc84 hP84 hD84 hS84 => ?_)
                clear hP78 hD78 hS78
                exact KJ53 f_latestOfKind_82 f_grid_72 _ _ _ hm83 hP84 hD84 hS84 (lv_sub hl47 [1, 2, 3] rfl)
        refine LP33 4000 f_latestOfKind_23 f_grid_24 (0 : Int32) (f_latestOfKind_85, f_grid_86) _ _ _ hlp33 hP26 hD26 hS26 (lv_sub hl32 [1, 2, 0] rfl) (fun H88 lc88 ls88 hP88 hD88 hS88 hl88 => ?_); clear LP33 hlp33
        clear hP26 hD26 hS26
        have hl88 : lv_has ls88 4 [(0, .ref (r0 0)), (1, .int v1_25)] := hl88
        have hP88 : va_P D vwCl (wf [oB (r0 0) 0 [.ref (r0 1), .ref (r0 2), .ref (r0 3), .ref (r0 4), .ref (r0 5), .ref (r0 6), .int f_columns, .int f_rows, .int f_scale, .int f_toEnd, .int f_between, .int f_kept], aI (r0 1) cI 36 f_modes, aQ (r0 4) cQ r0, aI (r0 6) cI 5 f_latestOfKind_85] [rowsW cI r0 f_grid_86]) H88 := hP88
        have hD88 : va_D A (wf [oB (r0 0) 0 [.ref (r0 1), .ref (r0 2), .ref (r0 3), .ref (r0 4), .ref (r0 5), .ref (r0 6), .int f_columns, .int f_rows, .int f_scale, .int f_toEnd, .int f_between, .int f_kept], aI (r0 1) cI 36 f_modes, aQ (r0 4) cQ r0, aI (r0 6) cI 5 f_latestOfKind_85] [rowsW cI r0 f_grid_86]) := hD88
        obtain ⟨v1_89, ev1_89, hm90⟩ := nm_some hm87; clear hm87
        refine lv_iinc (v := v1_89) (lv' := [(1, .int v1_89), (0, .ref (r0 0))]) hx hb dX0_addGuesses_96 hl88 (k := 1) rfl (by rw [ev1_89]; rfl) (by decide) rfl (fun ls91 hl91 => ?_); clear hl88
        refine lv_goto (tgt := 22) hx hb dX0_addGuesses_99 (by decide) ?_
        exact ih f_latestOfKind_85 f_grid_86 v1_89 _ _ _ _ hm90 hP88 hD88 hS88 (lv_sub hl91 [1, 0] rfl) kx
  refine LP22 4000 f_latestOfKind_18 f_grid (0 : Int32) (f_latestOfKind_92, f_grid_93) _ _ _ hlp22 hP20 hD20 hS20 (lv_sub hl21 [1, 0] rfl) (fun H95 lc95 ls95 hP95 hD95 hS95 hl95 => ?_); clear LP22 hlp22
  clear hP20 hD20 hS20
  have hl95 : lv_has ls95 4 [] := hl95
  have hP95 : va_P D vwCl (wf [oB (r0 0) 0 [.ref (r0 1), .ref (r0 2), .ref (r0 3), .ref (r0 4), .ref (r0 5), .ref (r0 6), .int f_columns, .int f_rows, .int f_scale, .int f_toEnd, .int f_between, .int f_kept], aI (r0 1) cI 36 f_modes, aQ (r0 4) cQ r0, aI (r0 6) cI 5 f_latestOfKind_92] [rowsW cI r0 f_grid_93]) H95 := hP95
  have hD95 : va_D A (wf [oB (r0 0) 0 [.ref (r0 1), .ref (r0 2), .ref (r0 3), .ref (r0 4), .ref (r0 5), .ref (r0 6), .int f_columns, .int f_rows, .int f_scale, .int f_toEnd, .int f_between, .int f_kept], aI (r0 1) cI 36 f_modes, aQ (r0 4) cQ r0, aI (r0 6) cI 5 f_latestOfKind_92] [rowsW cI r0 f_grid_93]) := hD95
  obtain rfl := Option.some.inj hm94
  rw [hQ]
  exact ct_vret hx hb hr hlk hP95 hD95 hS95 dX0_addGuesses_102

def f_X0_read (x3 : Int32) (f_columns : Int32) (f_rows : Int32) (f_scale : Int32) (f_toEnd : Int32) (f_between : Int32) (f_kept : Int32) (f_modes : Nat → Int32) (f_across : Nat → Int32) (f_down : Nat → Int32) (f_places : Nat → Int32) (f_latestOfKind : Nat → Int32) (f_grid : Nat → Nat → Int32) (t_size : Int32) (t_position : Int32) (t_fault : Int32) (t_bytes : Nat → Int32) (h_columns : Int32) (h_rows : Int32) (h_h1_root : Int32) (h_h1_branches : Nat → Int32) (h_h2_root : Int32) (h_h2_branches : Nat → Int32) (h_order : Nat → Int32) : Option (Int32 × Int32 × Int32 × Int32 × Int32 × Int32 × (Nat → Int32) × (Nat → Int32) × (Nat → Int32) × (Nat → Int32) × (Nat → Int32) × (Nat → Nat → Int32) × Int32 × Int32) :=
  bd1 (f_X1_columns h_columns) fun y_1 =>
  bd1 (f_X1_rows h_rows) fun y_6 =>
  bd4 (f_X0_clear y_1 y_6 f_modes f_across f_down f_grid) fun f_modes_11 f_across_12 f_down_13 f_grid_14 =>
  bd3 (f_X4_bit t_size t_position t_fault t_bytes) fun y_18 t_position_19 t_fault_20 =>
  jn (fun (k25 : Int32 → Option (Int32 × Int32 × Int32 × Int32 × Int32 × Int32 × (Nat → Int32) × (Nat → Int32) × (Nat → Int32) × (Nat → Int32) × (Nat → Int32) × (Nat → Nat → Int32) × Int32 × Int32)) => (if y_18 = (1 : Int32) then
  (k25 (1 : Int32))
  else
  (k25 (0 : Int32)))) fun k0_26 =>
  gz k0_26 (jn (fun (k32 : Int32 → Option (Int32 × Int32 × Int32 × Int32 × Int32 × Int32 × (Nat → Int32) × (Nat → Int32) × (Nat → Int32) × (Nat → Int32) × (Nat → Int32) × (Nat → Nat → Int32) × Int32 × Int32)) => (if k0_26 = (0 : Int32) then
  (k32 t_fault_20)
  else
  ((if x3 = (0 : Int32) then
  (bd1 (f_X4_fail (4 : Int32) t_fault_20) fun t_fault_131 =>
  k32 t_fault_131)
  else
  (k32 t_fault_20))))) fun t_fault_33 =>
  bd3 (f_X4_number (3 : Int32) t_size t_position_19 t_fault_33 t_bytes) fun y_36 t_position_37 t_fault_38 =>
  bd3 (f_X4_bit t_size t_position_37 t_fault_38 t_bytes) fun y_43 t_position_44 t_fault_45 =>
  jn (fun (k50 : Int32 → Option (Int32 × Int32 × Int32 × Int32 × Int32 × Int32 × (Nat → Int32) × (Nat → Int32) × (Nat → Int32) × (Nat → Int32) × (Nat → Int32) × (Nat → Nat → Int32) × Int32 × Int32)) => (if y_43 = (1 : Int32) then
  (k50 (1 : Int32))
  else
  (k50 (0 : Int32)))) fun k0_51 =>
  gz k0_51 (jn (fun (k57 : (Nat → Int32) → (Nat → Int32) → (Nat → Int32) → Int32 → Int32 → Option (Int32 × Int32 × Int32 × Int32 × Int32 × Int32 × (Nat → Int32) × (Nat → Int32) × (Nat → Int32) × (Nat → Int32) × (Nat → Int32) × (Nat → Nat → Int32) × Int32 × Int32)) => (if k0_26 = (0 : Int32) then
  (k57 f_modes_11 f_across_12 f_down_13 t_position_44 t_fault_45)
  else
  (bd3 (f_X0_readFlags y_1 y_6 f_modes_11 t_size t_position_44 t_fault_45 t_bytes h_order) fun f_modes_107 t_position_108 t_fault_109 =>
  bd5 (f_X0_readModes y_1 y_6 f_modes_107 f_across_12 f_down_13 t_size t_position_108 t_fault_109 t_bytes h_order) fun f_modes_113 f_across_114 f_down_115 t_position_116 t_fault_117 =>
  k57 f_modes_113 f_across_114 f_down_115 t_position_116 t_fault_117))) fun f_modes_58 f_across_59 f_down_60 t_position_61 t_fault_62 =>
  bd1 (f_X4_isSound t_fault_62) fun y_65 =>
  jn (fun (k70 : Int32 → (Nat → Int32) → (Nat → Nat → Int32) → Int32 → Int32 → Option (Int32 × Int32 × Int32 × Int32 × Int32 × Int32 × (Nat → Int32) × (Nat → Int32) × (Nat → Int32) × (Nat → Int32) × (Nat → Int32) × (Nat → Nat → Int32) × Int32 × Int32)) => (if y_65 = (0 : Int32) then
  (k70 f_toEnd f_places f_grid_14 t_position_61 t_fault_62)
  else
  (bd5 (f_X0_readTokens y_1 y_6 f_toEnd f_modes_58 f_places f_grid_14 t_size t_position_61 t_fault_62 t_bytes h_h1_root h_h1_branches h_h2_root h_h2_branches h_order) fun f_toEnd_95 f_places_96 f_grid_97 t_position_98 t_fault_99 =>
  k70 f_toEnd_95 f_places_96 f_grid_97 t_position_98 t_fault_99))) fun f_toEnd_71 f_places_72 f_grid_73 t_position_74 t_fault_75 =>
  bd1 (f_X4_isSound t_fault_75) fun y_78 =>
  (if y_78 = (0 : Int32) then
  (some (y_1, y_6, y_36, f_toEnd_71, k0_26, k0_51, f_modes_58, f_across_59, f_down_60, f_places_72, f_latestOfKind, f_grid_73, t_position_74, t_fault_75))
  else
  (bd2 (f_X0_addGuesses y_1 y_6 f_modes_58 f_latestOfKind f_grid_73) fun f_latestOfKind_86 f_grid_87 =>
  some (y_1, y_6, y_36, f_toEnd_71, k0_26, k0_51, f_modes_58, f_across_59, f_down_60, f_places_72, f_latestOfKind_86, f_grid_87, t_position_74, t_fault_75)))

abbrev rm_X0_read : Room := { frames := 6, cells := 0, slots := 0, locals := 143 }

theorem cdS_X0_read : yX0_read.cls ≠ "java/lang/invoke/MethodHandle" ∧ yX0_read.cls ≠ "java/lang/invoke/VarHandle" ∧ (parseMethodDescriptor yX0_read.desc).map (fun d => d.parameters.length) = some 3 := by decide +kernel

theorem cdV_X0_read : yX0_read.cls = RX0 ∧ yX0_read.cls ≠ "java/lang/invoke/MethodHandle" ∧ yX0_read.cls ≠ "java/lang/invoke/VarHandle" ∧ (parseMethodDescriptor yX0_read.desc).map (fun d => d.parameters.length) = some 3 := ⟨rfl, cdS_X0_read⟩

theorem hi_X0_read_0 : ∀ w ∈ u_ws RX0 TX0 12, w ∈ wsX0_read := fun _ h => List.mem_cons_of_mem _ (List.mem_append_left _ (List.mem_append_left _ (List.mem_append_left _ (List.mem_append_right _ h))))

set_option maxHeartbeats 40000000 in
set_option maxRecDepth 100000 in
theorem c_X0_read (l : Launch) (D : va_G) (cB cI cJ cQ : ClassId) (N : Nat) (r0 : Nat → Nat) (r1 : Nat → Nat) (r2 : Nat → Nat) (sz : Nat) (x3 : Int32) (f_columns : Int32) (f_rows : Int32) (f_scale : Int32) (f_toEnd : Int32) (f_between : Int32) (f_kept : Int32) (f_modes : Nat → Int32) (f_across : Nat → Int32) (f_down : Nat → Int32) (f_places : Nat → Int32) (f_latestOfKind : Nat → Int32) (t_size : Int32) (t_position : Int32) (t_fault : Int32) (t_bytes : Nat → Int32) (h_columns : Int32) (h_rows : Int32) (h_limit : Int32) (h_h1_nodeCount : Int32) (h_h1_tokenCount : Int32) (h_h1_root : Int32) (h_h1_branches : Nat → Int32) (h_h2_nodeCount : Int32) (h_h2_tokenCount : Int32) (h_h2_root : Int32) (h_h2_branches : Nat → Int32) (h_order : Nat → Int32) (f_grid : Nat → Nat → Int32) (o : Int32 × Int32 × Int32 × Int32 × Int32 × Int32 × (Nat → Int32) × (Nat → Int32) × (Nat → Int32) × (Nat → Int32) × (Nat → Int32) × (Nat → Nat → Int32) × Int32 × Int32) (hm0 : f_X0_read x3 f_columns f_rows f_scale f_toEnd f_between f_kept f_modes f_across f_down f_places f_latestOfKind f_grid t_size t_position t_fault t_bytes h_columns h_rows h_h1_root h_h1_branches h_h2_root h_h2_branches h_order = some o) : Met l yX0_read wsX0_read rm_X0_read (ctP D cB cI cJ cQ N sz [.ref (r0 0), .ref (r1 0), .ref (r2 0), .int x3] (wf [oB (r0 0) 0 [.ref (r0 1), .ref (r0 2), .ref (r0 3), .ref (r0 4), .ref (r0 5), .ref (r0 6), .int f_columns, .int f_rows, .int f_scale, .int f_toEnd, .int f_between, .int f_kept], aI (r0 1) cI 36 f_modes, aI (r0 2) cI 36 f_across, aI (r0 3) cI 36 f_down, aQ (r0 4) cQ r0, aI (r0 5) cI 36 f_places, aI (r0 6) cI 5 f_latestOfKind, oB (r1 0) 4 [.ref (r1 1), .int t_size, .int t_position, .int t_fault], aI (r1 1) cB 6000 t_bytes, oB (r2 0) 1 [.ref (r2 1), .ref (r2 2), .ref (r2 3), .ref (r2 5), .ref (r2 7), .int h_columns, .int h_rows, .int h_limit], oB (r2 3) 5 [.ref (r2 4), .int h_h1_nodeCount, .int h_h1_tokenCount, .int h_h1_root], aI (r2 4) cI 88 h_h1_branches, oB (r2 5) 5 [.ref (r2 6), .int h_h2_nodeCount, .int h_h2_tokenCount, .int h_h2_root], aI (r2 6) cI 88 h_h2_branches, aI (r2 7) cI 36 h_order] [rowsW cI r0 f_grid])) (ctQv D (wf [oB (r0 0) 0 [.ref (r0 1), .ref (r0 2), .ref (r0 3), .ref (r0 4), .ref (r0 5), .ref (r0 6), .int (o.1), .int (o.2.1), .int (o.2.2.1), .int (o.2.2.2.1), .int (o.2.2.2.2.1), .int (o.2.2.2.2.2.1)], aI (r0 1) cI 36 (o.2.2.2.2.2.2.1), aI (r0 2) cI 36 (o.2.2.2.2.2.2.2.1), aI (r0 3) cI 36 (o.2.2.2.2.2.2.2.2.1), aQ (r0 4) cQ r0, aI (r0 5) cI 36 (o.2.2.2.2.2.2.2.2.2.1), aI (r0 6) cI 5 (o.2.2.2.2.2.2.2.2.2.2.1), oB (r1 0) 4 [.ref (r1 1), .int t_size, .int (o.2.2.2.2.2.2.2.2.2.2.2.2.1), .int (o.2.2.2.2.2.2.2.2.2.2.2.2.2)], aI (r1 1) cB 6000 t_bytes, oB (r2 0) 1 [.ref (r2 1), .ref (r2 2), .ref (r2 3), .ref (r2 5), .ref (r2 7), .int h_columns, .int h_rows, .int h_limit], oB (r2 3) 5 [.ref (r2 4), .int h_h1_nodeCount, .int h_h1_tokenCount, .int h_h1_root], aI (r2 4) cI 88 h_h1_branches, oB (r2 5) 5 [.ref (r2 6), .int h_h2_nodeCount, .int h_h2_tokenCount, .int h_h2_root], aI (r2 6) cI 88 h_h2_branches, aI (r2 7) cI 36 h_order] [rowsW cI r0 (o.2.2.2.2.2.2.2.2.2.2.2.1)]) (va_A (wf [oB (r0 0) 0 [.ref (r0 1), .ref (r0 2), .ref (r0 3), .ref (r0 4), .ref (r0 5), .ref (r0 6), .int f_columns, .int f_rows, .int f_scale, .int f_toEnd, .int f_between, .int f_kept], aI (r0 1) cI 36 f_modes, aI (r0 2) cI 36 f_across, aI (r0 3) cI 36 f_down, aQ (r0 4) cQ r0, aI (r0 5) cI 36 f_places, aI (r0 6) cI 5 f_latestOfKind, oB (r1 0) 4 [.ref (r1 1), .int t_size, .int t_position, .int t_fault], aI (r1 1) cB 6000 t_bytes, oB (r2 0) 1 [.ref (r2 1), .ref (r2 2), .ref (r2 3), .ref (r2 5), .ref (r2 7), .int h_columns, .int h_rows, .int h_limit], oB (r2 3) 5 [.ref (r2 4), .int h_h1_nodeCount, .int h_h1_tokenCount, .int h_h1_root], aI (r2 4) cI 88 h_h1_branches, oB (r2 5) 5 [.ref (r2 6), .int h_h2_nodeCount, .int h_h2_tokenCount, .int h_h2_root], aI (r2 6) cI 88 h_h2_branches, aI (r2 7) cI 36 h_order] [rowsW cI r0 f_grid]) sz)) 0 0 (va_A (wf [oB (r0 0) 0 [.ref (r0 1), .ref (r0 2), .ref (r0 3), .ref (r0 4), .ref (r0 5), .ref (r0 6), .int f_columns, .int f_rows, .int f_scale, .int f_toEnd, .int f_between, .int f_kept], aI (r0 1) cI 36 f_modes, aI (r0 2) cI 36 f_across, aI (r0 3) cI 36 f_down, aQ (r0 4) cQ r0, aI (r0 5) cI 36 f_places, aI (r0 6) cI 5 f_latestOfKind, oB (r1 0) 4 [.ref (r1 1), .int t_size, .int t_position, .int t_fault], aI (r1 1) cB 6000 t_bytes, oB (r2 0) 1 [.ref (r2 1), .ref (r2 2), .ref (r2 3), .ref (r2 5), .ref (r2 7), .int h_columns, .int h_rows, .int h_limit], oB (r2 3) 5 [.ref (r2 4), .int h_h1_nodeCount, .int h_h1_tokenCount, .int h_h1_root], aI (r2 4) cI 88 h_h1_branches, oB (r2 5) 5 [.ref (r2 6), .int h_h2_nodeCount, .int h_h2_tokenCount, .int h_h2_root], aI (r2 6) cI 88 h_h2_branches, aI (r2 7) cI 36 h_order] [rowsW cI r0 f_grid]) sz) := by
  refine ct_of (cc := cX0_read) (maxL := 4) (ret := none) (own := RX0) (Qp := ctQv D (wf [oB (r0 0) 0 [.ref (r0 1), .ref (r0 2), .ref (r0 3), .ref (r0 4), .ref (r0 5), .ref (r0 6), .int (o.1), .int (o.2.1), .int (o.2.2.1), .int (o.2.2.2.1), .int (o.2.2.2.2.1), .int (o.2.2.2.2.2.1)], aI (r0 1) cI 36 (o.2.2.2.2.2.2.1), aI (r0 2) cI 36 (o.2.2.2.2.2.2.2.1), aI (r0 3) cI 36 (o.2.2.2.2.2.2.2.2.1), aQ (r0 4) cQ r0, aI (r0 5) cI 36 (o.2.2.2.2.2.2.2.2.2.1), aI (r0 6) cI 5 (o.2.2.2.2.2.2.2.2.2.2.1), oB (r1 0) 4 [.ref (r1 1), .int t_size, .int (o.2.2.2.2.2.2.2.2.2.2.2.2.1), .int (o.2.2.2.2.2.2.2.2.2.2.2.2.2)], aI (r1 1) cB 6000 t_bytes, oB (r2 0) 1 [.ref (r2 1), .ref (r2 2), .ref (r2 3), .ref (r2 5), .ref (r2 7), .int h_columns, .int h_rows, .int h_limit], oB (r2 3) 5 [.ref (r2 4), .int h_h1_nodeCount, .int h_h1_tokenCount, .int h_h1_root], aI (r2 4) cI 88 h_h1_branches, oB (r2 5) 5 [.ref (r2 6), .int h_h2_nodeCount, .int h_h2_tokenCount, .int h_h2_root], aI (r2 6) cI 88 h_h2_branches, aI (r2 7) cI 36 h_order] [rowsW cI r0 (o.2.2.2.2.2.2.2.2.2.2.2.1)])) (by decide) rfl rfl (Nat.le_of_ble_eq_true rfl) ?_
  intro p e s m args below meth c A hx hb hr hml hown hts hlk hnm hsz hAe E hP0 hD0 hS0 ls0 hl0
  subst hsz
  have hl0 : lv_has ls0 4 [(0, .ref (r0 0)), (1, .ref (r1 0)), (2, .ref (r2 0)), (3, .int x3)] := hl0
  obtain ⟨QQ, hQ⟩ : ∃ Q : State → Prop, Q = MQ below (ctQv D (wf [oB (r0 0) 0 [.ref (r0 1), .ref (r0 2), .ref (r0 3), .ref (r0 4), .ref (r0 5), .ref (r0 6), .int (o.1), .int (o.2.1), .int (o.2.2.1), .int (o.2.2.2.1), .int (o.2.2.2.2.1), .int (o.2.2.2.2.2.1)], aI (r0 1) cI 36 (o.2.2.2.2.2.2.1), aI (r0 2) cI 36 (o.2.2.2.2.2.2.2.1), aI (r0 3) cI 36 (o.2.2.2.2.2.2.2.2.1), aQ (r0 4) cQ r0, aI (r0 5) cI 36 (o.2.2.2.2.2.2.2.2.2.1), aI (r0 6) cI 5 (o.2.2.2.2.2.2.2.2.2.2.1), oB (r1 0) 4 [.ref (r1 1), .int t_size, .int (o.2.2.2.2.2.2.2.2.2.2.2.2.1), .int (o.2.2.2.2.2.2.2.2.2.2.2.2.2)], aI (r1 1) cB 6000 t_bytes, oB (r2 0) 1 [.ref (r2 1), .ref (r2 2), .ref (r2 3), .ref (r2 5), .ref (r2 7), .int h_columns, .int h_rows, .int h_limit], oB (r2 3) 5 [.ref (r2 4), .int h_h1_nodeCount, .int h_h1_tokenCount, .int h_h1_root], aI (r2 4) cI 88 h_h1_branches, oB (r2 5) 5 [.ref (r2 6), .int h_h2_nodeCount, .int h_h2_tokenCount, .int h_h2_root], aI (r2 6) cI 88 h_h2_branches, aI (r2 7) cI 36 h_order] [rowsW cI r0 (o.2.2.2.2.2.2.2.2.2.2.2.1)]) A) args s 0 0 A := ⟨_, rfl⟩
  rw [← hQ]
  unfold f_X0_read at hm0
  refine lv_aload_n hx hb dX0_read_0 rfl (lv_at hl0 0 rfl) ?_
  refine lv_aload_n hx hb dX0_read_1 rfl (lv_at hl0 2 rfl) ?_
  obtain ⟨y_1, hcl2, hm2⟩ := bd1_some hm0; clear hm0
  have sb3 := ctS.mk (pre := [oB (r0 0) 0 [.ref (r0 1), .ref (r0 2), .ref (r0 3), .ref (r0 4), .ref (r0 5), .ref (r0 6), .int f_columns, .int f_rows, .int f_scale, .int f_toEnd, .int f_between, .int f_kept], aI (r0 1) cI 36 f_modes, aI (r0 2) cI 36 f_across, aI (r0 3) cI 36 f_down, aQ (r0 4) cQ r0, aI (r0 5) cI 36 f_places, aI (r0 6) cI 5 f_latestOfKind, oB (r1 0) 4 [.ref (r1 1), .int t_size, .int t_position, .int t_fault], aI (r1 1) cB 6000 t_bytes, oB (r2 0) 1 [.ref (r2 1), .ref (r2 2), .ref (r2 3), .ref (r2 5), .ref (r2 7), .int h_columns, .int h_rows, .int h_limit], oB (r2 3) 5 [.ref (r2 4), .int h_h1_nodeCount, .int h_h1_tokenCount, .int h_h1_root], aI (r2 4) cI 88 h_h1_branches, oB (r2 5) 5 [.ref (r2 6), .int h_h2_nodeCount, .int h_h2_tokenCount, .int h_h2_root], aI (r2 6) cI 88 h_h2_branches, aI (r2 7) cI 36 h_order]) (tl := [rowsW cI r0 f_grid]) [9] [0, 1, 2, 3, 4, 5, 6, 7, 8, 10, 11, 12, 13, 14] [] [0] rfl rfl rfl rfl
  refine ct_calli (r := y_1) E sb3 hP0 hD0 hS0 (va_runV (As := []) (rest := [.ref (r0 0)]) ⟨hx, hb, hml, hown, hts⟩ (c_X1_columns l D cB cI cJ cQ N r2 s.heap.size h_columns h_rows h_limit (y_1) hcl2) (cwV 0 hts gX0_read_X1_columns rfl rfl rfl cdV_X1_columns ⟨Nat.le_of_ble_eq_true rfl, Nat.le_of_ble_eq_true rfl⟩) (ct_preV (q0 := 9) (ci := 1) E sb3 hP0 hD0 hS0 rfl rfl) rfl rfl hl0.1 rfl (lv_room (Nat.le_of_ble_eq_true rfl)) dX0_read_2 ⟨Nat.zero_le _, Nat.zero_le _⟩) (fun H4 lc4 hP4 hD4 hS4 => ?_); clear sb3 hcl2
  clear hP0 hD0 hS0
  have hP4 : va_P D vwCl (wf [oB (r0 0) 0 [.ref (r0 1), .ref (r0 2), .ref (r0 3), .ref (r0 4), .ref (r0 5), .ref (r0 6), .int f_columns, .int f_rows, .int f_scale, .int f_toEnd, .int f_between, .int f_kept], aI (r0 1) cI 36 f_modes, aI (r0 2) cI 36 f_across, aI (r0 3) cI 36 f_down, aQ (r0 4) cQ r0, aI (r0 5) cI 36 f_places, aI (r0 6) cI 5 f_latestOfKind, oB (r1 0) 4 [.ref (r1 1), .int t_size, .int t_position, .int t_fault], aI (r1 1) cB 6000 t_bytes, oB (r2 3) 5 [.ref (r2 4), .int h_h1_nodeCount, .int h_h1_tokenCount, .int h_h1_root], aI (r2 4) cI 88 h_h1_branches, oB (r2 5) 5 [.ref (r2 6), .int h_h2_nodeCount, .int h_h2_tokenCount, .int h_h2_root], aI (r2 6) cI 88 h_h2_branches, aI (r2 7) cI 36 h_order, oB (r2 0) 1 [.ref (r2 1), .ref (r2 2), .ref (r2 3), .ref (r2 5), .ref (r2 7), .int h_columns, .int h_rows, .int h_limit]] [rowsW cI r0 f_grid]) H4 := hP4
  have hD4 : va_D A (wf [oB (r0 0) 0 [.ref (r0 1), .ref (r0 2), .ref (r0 3), .ref (r0 4), .ref (r0 5), .ref (r0 6), .int f_columns, .int f_rows, .int f_scale, .int f_toEnd, .int f_between, .int f_kept], aI (r0 1) cI 36 f_modes, aI (r0 2) cI 36 f_across, aI (r0 3) cI 36 f_down, aQ (r0 4) cQ r0, aI (r0 5) cI 36 f_places, aI (r0 6) cI 5 f_latestOfKind, oB (r1 0) 4 [.ref (r1 1), .int t_size, .int t_position, .int t_fault], aI (r1 1) cB 6000 t_bytes, oB (r2 3) 5 [.ref (r2 4), .int h_h1_nodeCount, .int h_h1_tokenCount, .int h_h1_root], aI (r2 4) cI 88 h_h1_branches, oB (r2 5) 5 [.ref (r2 6), .int h_h2_nodeCount, .int h_h2_tokenCount, .int h_h2_root], aI (r2 6) cI 88 h_h2_branches, aI (r2 7) cI 36 h_order, oB (r2 0) 1 [.ref (r2 1), .ref (r2 2), .ref (r2 3), .ref (r2 5), .ref (r2 7), .int h_columns, .int h_rows, .int h_limit]] [rowsW cI r0 f_grid]) := hD4
  refine ct_put (D := D) (ci := 0) (v := .int y_1) (ty := .int) (C := RX0) (T := TX0) (N := 12) (ws' := (wf [oB (r0 0) 0 [.ref (r0 1), .ref (r0 2), .ref (r0 3), .ref (r0 4), .ref (r0 5), .ref (r0 6), .int y_1, .int f_rows, .int f_scale, .int f_toEnd, .int f_between, .int f_kept], aI (r0 1) cI 36 f_modes, aI (r0 2) cI 36 f_across, aI (r0 3) cI 36 f_down, aQ (r0 4) cQ r0, aI (r0 5) cI 36 f_places, aI (r0 6) cI 5 f_latestOfKind, oB (r1 0) 4 [.ref (r1 1), .int t_size, .int t_position, .int t_fault], aI (r1 1) cB 6000 t_bytes, oB (r2 3) 5 [.ref (r2 4), .int h_h1_nodeCount, .int h_h1_tokenCount, .int h_h1_root], aI (r2 4) cI 88 h_h1_branches, oB (r2 5) 5 [.ref (r2 6), .int h_h2_nodeCount, .int h_h2_tokenCount, .int h_h2_root], aI (r2 6) cI 88 h_h2_branches, aI (r2 7) cI 36 h_order, oB (r2 0) 1 [.ref (r2 1), .ref (r2 2), .ref (r2 3), .ref (r2 5), .ref (r2 7), .int h_columns, .int h_rows, .int h_limit]] [rowsW cI r0 f_grid])) hx hb hts hi_X0_read_0 tyX0 tyX0_ok nmX0 hown E.1 hP4 hD4 hS4 0 rfl rfl 6 (by decide) (hts _ (List.mem_of_getElem? (i := 1) rfl)) (fun _ h9 => h9) rfl (by decide +kernel) rfl rfl (Nat.le_of_ble_eq_true rfl) rfl dX0_read_5 (fun H5 lc5 hP5 hD5 hS5 => ?_)
  clear hP4 hD4 hS4
  refine lv_aload_n hx hb dX0_read_8 rfl (lv_at hl0 0 rfl) ?_
  refine lv_aload_n hx hb dX0_read_9 rfl (lv_at hl0 2 rfl) ?_
  obtain ⟨y_6, hcl7, hm7⟩ := bd1_some hm2; clear hm2
  have sb8 := ctS.mk (pre := [oB (r0 0) 0 [.ref (r0 1), .ref (r0 2), .ref (r0 3), .ref (r0 4), .ref (r0 5), .ref (r0 6), .int y_1, .int f_rows, .int f_scale, .int f_toEnd, .int f_between, .int f_kept], aI (r0 1) cI 36 f_modes, aI (r0 2) cI 36 f_across, aI (r0 3) cI 36 f_down, aQ (r0 4) cQ r0, aI (r0 5) cI 36 f_places, aI (r0 6) cI 5 f_latestOfKind, oB (r1 0) 4 [.ref (r1 1), .int t_size, .int t_position, .int t_fault], aI (r1 1) cB 6000 t_bytes, oB (r2 3) 5 [.ref (r2 4), .int h_h1_nodeCount, .int h_h1_tokenCount, .int h_h1_root], aI (r2 4) cI 88 h_h1_branches, oB (r2 5) 5 [.ref (r2 6), .int h_h2_nodeCount, .int h_h2_tokenCount, .int h_h2_root], aI (r2 6) cI 88 h_h2_branches, aI (r2 7) cI 36 h_order, oB (r2 0) 1 [.ref (r2 1), .ref (r2 2), .ref (r2 3), .ref (r2 5), .ref (r2 7), .int h_columns, .int h_rows, .int h_limit]]) (tl := [rowsW cI r0 f_grid]) [14] [0, 1, 2, 3, 4, 5, 6, 7, 8, 9, 10, 11, 12, 13] [] [0] rfl rfl rfl rfl
  refine ct_calli (r := y_6) E sb8 hP5 hD5 hS5 (va_runV (As := []) (rest := [.ref (r0 0)]) ⟨hx, hb, hml, hown, hts⟩ (c_X1_rows l D cB cI cJ cQ N r2 H5.size h_columns h_rows h_limit (y_6) hcl7) (cwV 0 hts gX0_read_X1_rows rfl rfl rfl cdV_X1_rows ⟨Nat.le_of_ble_eq_true rfl, Nat.le_of_ble_eq_true rfl⟩) (ct_preV (q0 := 14) (ci := 1) E sb8 hP5 hD5 hS5 rfl rfl) rfl rfl hl0.1 rfl (lv_room (Nat.le_of_ble_eq_true rfl)) dX0_read_10 ⟨Nat.zero_le _, Nat.zero_le _⟩) (fun H9 lc9 hP9 hD9 hS9 => ?_); clear sb8 hcl7
  clear hP5 hD5 hS5
  have hP9 : va_P D vwCl (wf [oB (r0 0) 0 [.ref (r0 1), .ref (r0 2), .ref (r0 3), .ref (r0 4), .ref (r0 5), .ref (r0 6), .int y_1, .int f_rows, .int f_scale, .int f_toEnd, .int f_between, .int f_kept], aI (r0 1) cI 36 f_modes, aI (r0 2) cI 36 f_across, aI (r0 3) cI 36 f_down, aQ (r0 4) cQ r0, aI (r0 5) cI 36 f_places, aI (r0 6) cI 5 f_latestOfKind, oB (r1 0) 4 [.ref (r1 1), .int t_size, .int t_position, .int t_fault], aI (r1 1) cB 6000 t_bytes, oB (r2 3) 5 [.ref (r2 4), .int h_h1_nodeCount, .int h_h1_tokenCount, .int h_h1_root], aI (r2 4) cI 88 h_h1_branches, oB (r2 5) 5 [.ref (r2 6), .int h_h2_nodeCount, .int h_h2_tokenCount, .int h_h2_root], aI (r2 6) cI 88 h_h2_branches, aI (r2 7) cI 36 h_order, oB (r2 0) 1 [.ref (r2 1), .ref (r2 2), .ref (r2 3), .ref (r2 5), .ref (r2 7), .int h_columns, .int h_rows, .int h_limit]] [rowsW cI r0 f_grid]) H9 := hP9
  have hD9 : va_D A (wf [oB (r0 0) 0 [.ref (r0 1), .ref (r0 2), .ref (r0 3), .ref (r0 4), .ref (r0 5), .ref (r0 6), .int y_1, .int f_rows, .int f_scale, .int f_toEnd, .int f_between, .int f_kept], aI (r0 1) cI 36 f_modes, aI (r0 2) cI 36 f_across, aI (r0 3) cI 36 f_down, aQ (r0 4) cQ r0, aI (r0 5) cI 36 f_places, aI (r0 6) cI 5 f_latestOfKind, oB (r1 0) 4 [.ref (r1 1), .int t_size, .int t_position, .int t_fault], aI (r1 1) cB 6000 t_bytes, oB (r2 3) 5 [.ref (r2 4), .int h_h1_nodeCount, .int h_h1_tokenCount, .int h_h1_root], aI (r2 4) cI 88 h_h1_branches, oB (r2 5) 5 [.ref (r2 6), .int h_h2_nodeCount, .int h_h2_tokenCount, .int h_h2_root], aI (r2 6) cI 88 h_h2_branches, aI (r2 7) cI 36 h_order, oB (r2 0) 1 [.ref (r2 1), .ref (r2 2), .ref (r2 3), .ref (r2 5), .ref (r2 7), .int h_columns, .int h_rows, .int h_limit]] [rowsW cI r0 f_grid]) := hD9
  refine ct_put (D := D) (ci := 0) (v := .int y_6) (ty := .int) (C := RX0) (T := TX0) (N := 12) (ws' := (wf [oB (r0 0) 0 [.ref (r0 1), .ref (r0 2), .ref (r0 3), .ref (r0 4), .ref (r0 5), .ref (r0 6), .int y_1, .int y_6, .int f_scale, .int f_toEnd, .int f_between, .int f_kept], aI (r0 1) cI 36 f_modes, aI (r0 2) cI 36 f_across, aI (r0 3) cI 36 f_down, aQ (r0 4) cQ r0, aI (r0 5) cI 36 f_places, aI (r0 6) cI 5 f_latestOfKind, oB (r1 0) 4 [.ref (r1 1), .int t_size, .int t_position, .int t_fault], aI (r1 1) cB 6000 t_bytes, oB (r2 3) 5 [.ref (r2 4), .int h_h1_nodeCount, .int h_h1_tokenCount, .int h_h1_root], aI (r2 4) cI 88 h_h1_branches, oB (r2 5) 5 [.ref (r2 6), .int h_h2_nodeCount, .int h_h2_tokenCount, .int h_h2_root], aI (r2 6) cI 88 h_h2_branches, aI (r2 7) cI 36 h_order, oB (r2 0) 1 [.ref (r2 1), .ref (r2 2), .ref (r2 3), .ref (r2 5), .ref (r2 7), .int h_columns, .int h_rows, .int h_limit]] [rowsW cI r0 f_grid])) hx hb hts hi_X0_read_0 tyX0 tyX0_ok nmX0 hown E.1 hP9 hD9 hS9 0 rfl rfl 7 (by decide) (hts _ (List.mem_of_getElem? (i := 2) rfl)) (fun _ h9 => h9) rfl (by decide +kernel) rfl rfl (Nat.le_of_ble_eq_true rfl) rfl dX0_read_13 (fun H10 lc10 hP10 hD10 hS10 => ?_)
  clear hP9 hD9 hS9
  refine lv_aload_n hx hb dX0_read_16 rfl (lv_at hl0 0 rfl) ?_
  obtain ⟨f_modes_11, f_across_12, f_down_13, f_grid_14, hcl15, hm15⟩ := bd4_some hm7; clear hm7
  have sb16 := ctS.mk (pre := [oB (r0 0) 0 [.ref (r0 1), .ref (r0 2), .ref (r0 3), .ref (r0 4), .ref (r0 5), .ref (r0 6), .int y_1, .int y_6, .int f_scale, .int f_toEnd, .int f_between, .int f_kept], aI (r0 1) cI 36 f_modes, aI (r0 2) cI 36 f_across, aI (r0 3) cI 36 f_down, aQ (r0 4) cQ r0, aI (r0 5) cI 36 f_places, aI (r0 6) cI 5 f_latestOfKind, oB (r1 0) 4 [.ref (r1 1), .int t_size, .int t_position, .int t_fault], aI (r1 1) cB 6000 t_bytes, oB (r2 3) 5 [.ref (r2 4), .int h_h1_nodeCount, .int h_h1_tokenCount, .int h_h1_root], aI (r2 4) cI 88 h_h1_branches, oB (r2 5) 5 [.ref (r2 6), .int h_h2_nodeCount, .int h_h2_tokenCount, .int h_h2_root], aI (r2 6) cI 88 h_h2_branches, aI (r2 7) cI 36 h_order, oB (r2 0) 1 [.ref (r2 1), .ref (r2 2), .ref (r2 3), .ref (r2 5), .ref (r2 7), .int h_columns, .int h_rows, .int h_limit]]) (tl := [rowsW cI r0 f_grid]) [0, 1, 2, 3, 4] [5, 6, 7, 8, 9, 10, 11, 12, 13, 14] [0] [] rfl rfl rfl rfl
  refine ct_callv E sb16 hP10 hD10 hS10 (va_runV (As := []) (rest := []) ⟨hx, hb, hml, hown, hts⟩ (c_X0_clear l D cB cI cJ cQ N r0 H10.size y_1 y_6 f_scale f_toEnd f_between f_kept f_modes f_across f_down f_grid (f_modes_11, f_across_12, f_down_13, f_grid_14) hcl15) (cwV 0 hts gX0_read_X0_clear rfl rfl rfl cdV_X0_clear ⟨Nat.le_of_ble_eq_true rfl, Nat.le_of_ble_eq_true rfl⟩) (ct_preV (q0 := 0) (ci := 0) E sb16 hP10 hD10 hS10 rfl rfl) rfl rfl hl0.1 rfl (lv_room (Nat.le_of_ble_eq_true rfl)) dX0_read_17 ⟨Nat.zero_le _, Nat.zero_le _⟩) (fun H17 lc17 hP17 hD17 hS17 => ?_); clear sb16 hcl15
  clear hP10 hD10 hS10
  have hP17 : va_P D vwCl (wf [aI (r0 5) cI 36 f_places, aI (r0 6) cI 5 f_latestOfKind, oB (r1 0) 4 [.ref (r1 1), .int t_size, .int t_position, .int t_fault], aI (r1 1) cB 6000 t_bytes, oB (r2 3) 5 [.ref (r2 4), .int h_h1_nodeCount, .int h_h1_tokenCount, .int h_h1_root], aI (r2 4) cI 88 h_h1_branches, oB (r2 5) 5 [.ref (r2 6), .int h_h2_nodeCount, .int h_h2_tokenCount, .int h_h2_root], aI (r2 6) cI 88 h_h2_branches, aI (r2 7) cI 36 h_order, oB (r2 0) 1 [.ref (r2 1), .ref (r2 2), .ref (r2 3), .ref (r2 5), .ref (r2 7), .int h_columns, .int h_rows, .int h_limit], oB (r0 0) 0 [.ref (r0 1), .ref (r0 2), .ref (r0 3), .ref (r0 4), .ref (r0 5), .ref (r0 6), .int y_1, .int y_6, .int f_scale, .int f_toEnd, .int f_between, .int f_kept], aI (r0 1) cI 36 f_modes_11, aI (r0 2) cI 36 f_across_12, aI (r0 3) cI 36 f_down_13, aQ (r0 4) cQ r0] [rowsW cI r0 f_grid_14]) H17 := hP17
  have hD17 : va_D A (wf [aI (r0 5) cI 36 f_places, aI (r0 6) cI 5 f_latestOfKind, oB (r1 0) 4 [.ref (r1 1), .int t_size, .int t_position, .int t_fault], aI (r1 1) cB 6000 t_bytes, oB (r2 3) 5 [.ref (r2 4), .int h_h1_nodeCount, .int h_h1_tokenCount, .int h_h1_root], aI (r2 4) cI 88 h_h1_branches, oB (r2 5) 5 [.ref (r2 6), .int h_h2_nodeCount, .int h_h2_tokenCount, .int h_h2_root], aI (r2 6) cI 88 h_h2_branches, aI (r2 7) cI 36 h_order, oB (r2 0) 1 [.ref (r2 1), .ref (r2 2), .ref (r2 3), .ref (r2 5), .ref (r2 7), .int h_columns, .int h_rows, .int h_limit], oB (r0 0) 0 [.ref (r0 1), .ref (r0 2), .ref (r0 3), .ref (r0 4), .ref (r0 5), .ref (r0 6), .int y_1, .int y_6, .int f_scale, .int f_toEnd, .int f_between, .int f_kept], aI (r0 1) cI 36 f_modes_11, aI (r0 2) cI 36 f_across_12, aI (r0 3) cI 36 f_down_13, aQ (r0 4) cQ r0] [rowsW cI r0 f_grid_14]) := hD17
  refine lv_aload_n hx hb dX0_read_20 rfl (lv_at hl0 0 rfl) ?_
  refine lv_aload_n hx hb dX0_read_21 rfl (lv_at hl0 1 rfl) ?_
  obtain ⟨y_18, t_position_19, t_fault_20, hcl21, hm21⟩ := bd3_some hm15; clear hm15
  have sb22 := ctS.mk (pre := [aI (r0 5) cI 36 f_places, aI (r0 6) cI 5 f_latestOfKind, oB (r1 0) 4 [.ref (r1 1), .int t_size, .int t_position, .int t_fault], aI (r1 1) cB 6000 t_bytes, oB (r2 3) 5 [.ref (r2 4), .int h_h1_nodeCount, .int h_h1_tokenCount, .int h_h1_root], aI (r2 4) cI 88 h_h1_branches, oB (r2 5) 5 [.ref (r2 6), .int h_h2_nodeCount, .int h_h2_tokenCount, .int h_h2_root], aI (r2 6) cI 88 h_h2_branches, aI (r2 7) cI 36 h_order, oB (r2 0) 1 [.ref (r2 1), .ref (r2 2), .ref (r2 3), .ref (r2 5), .ref (r2 7), .int h_columns, .int h_rows, .int h_limit], oB (r0 0) 0 [.ref (r0 1), .ref (r0 2), .ref (r0 3), .ref (r0 4), .ref (r0 5), .ref (r0 6), .int y_1, .int y_6, .int f_scale, .int f_toEnd, .int f_between, .int f_kept], aI (r0 1) cI 36 f_modes_11, aI (r0 2) cI 36 f_across_12, aI (r0 3) cI 36 f_down_13, aQ (r0 4) cQ r0]) (tl := [rowsW cI r0 f_grid_14]) [2, 3] [0, 1, 4, 5, 6, 7, 8, 9, 10, 11, 12, 13, 14] [] [0] rfl rfl rfl rfl
  refine ct_calli (r := y_18) E sb22 hP17 hD17 hS17 (va_runV (As := []) (rest := [.ref (r0 0)]) ⟨hx, hb, hml, hown, hts⟩ (c_X4_bit l D cB cI cJ cQ N r1 H17.size t_size t_position t_fault t_bytes (y_18, t_position_19, t_fault_20) hcl21) (cwV 0 hts gX0_read_X4_bit rfl rfl rfl cdV_X4_bit ⟨Nat.le_of_ble_eq_true rfl, Nat.le_of_ble_eq_true rfl⟩) (ct_preV (q0 := 2) (ci := 4) E sb22 hP17 hD17 hS17 rfl rfl) rfl rfl hl0.1 rfl (lv_room (Nat.le_of_ble_eq_true rfl)) dX0_read_22 ⟨Nat.zero_le _, Nat.zero_le _⟩) (fun H23 lc23 hP23 hD23 hS23 => ?_); clear sb22 hcl21
  clear hP17 hD17 hS17
  have hP23 : va_P D vwCl (wf [aI (r0 5) cI 36 f_places, aI (r0 6) cI 5 f_latestOfKind, oB (r2 3) 5 [.ref (r2 4), .int h_h1_nodeCount, .int h_h1_tokenCount, .int h_h1_root], aI (r2 4) cI 88 h_h1_branches, oB (r2 5) 5 [.ref (r2 6), .int h_h2_nodeCount, .int h_h2_tokenCount, .int h_h2_root], aI (r2 6) cI 88 h_h2_branches, aI (r2 7) cI 36 h_order, oB (r2 0) 1 [.ref (r2 1), .ref (r2 2), .ref (r2 3), .ref (r2 5), .ref (r2 7), .int h_columns, .int h_rows, .int h_limit], oB (r0 0) 0 [.ref (r0 1), .ref (r0 2), .ref (r0 3), .ref (r0 4), .ref (r0 5), .ref (r0 6), .int y_1, .int y_6, .int f_scale, .int f_toEnd, .int f_between, .int f_kept], aI (r0 1) cI 36 f_modes_11, aI (r0 2) cI 36 f_across_12, aI (r0 3) cI 36 f_down_13, aQ (r0 4) cQ r0, oB (r1 0) 4 [.ref (r1 1), .int t_size, .int t_position_19, .int t_fault_20], aI (r1 1) cB 6000 t_bytes] [rowsW cI r0 f_grid_14]) H23 := hP23
  have hD23 : va_D A (wf [aI (r0 5) cI 36 f_places, aI (r0 6) cI 5 f_latestOfKind, oB (r2 3) 5 [.ref (r2 4), .int h_h1_nodeCount, .int h_h1_tokenCount, .int h_h1_root], aI (r2 4) cI 88 h_h1_branches, oB (r2 5) 5 [.ref (r2 6), .int h_h2_nodeCount, .int h_h2_tokenCount, .int h_h2_root], aI (r2 6) cI 88 h_h2_branches, aI (r2 7) cI 36 h_order, oB (r2 0) 1 [.ref (r2 1), .ref (r2 2), .ref (r2 3), .ref (r2 5), .ref (r2 7), .int h_columns, .int h_rows, .int h_limit], oB (r0 0) 0 [.ref (r0 1), .ref (r0 2), .ref (r0 3), .ref (r0 4), .ref (r0 5), .ref (r0 6), .int y_1, .int y_6, .int f_scale, .int f_toEnd, .int f_between, .int f_kept], aI (r0 1) cI 36 f_modes_11, aI (r0 2) cI 36 f_across_12, aI (r0 3) cI 36 f_down_13, aQ (r0 4) cQ r0, oB (r1 0) 4 [.ref (r1 1), .int t_size, .int t_position_19, .int t_fault_20], aI (r1 1) cB 6000 t_bytes] [rowsW cI r0 f_grid_14]) := hD23
  refine lv_iconst (v := 1) hx hb dX0_read_25 (by decide) ?_
  obtain ⟨k25, ek25, hm25⟩ := jn_some hm21; clear hm21
  have KJ25 : ∀ (k0_26 : Int32) (H27 : Heap) (lc27 : List Loc) (ls27 : Array Slot), k25 k0_26 = some o → va_P D vwCl (wf [aI (r0 5) cI 36 f_places, aI (r0 6) cI 5 f_latestOfKind, oB (r2 3) 5 [.ref (r2 4), .int h_h1_nodeCount, .int h_h1_tokenCount, .int h_h1_root], aI (r2 4) cI 88 h_h1_branches, oB (r2 5) 5 [.ref (r2 6), .int h_h2_nodeCount, .int h_h2_tokenCount, .int h_h2_root], aI (r2 6) cI 88 h_h2_branches, aI (r2 7) cI 36 h_order, oB (r2 0) 1 [.ref (r2 1), .ref (r2 2), .ref (r2 3), .ref (r2 5), .ref (r2 7), .int h_columns, .int h_rows, .int h_limit], oB (r0 0) 0 [.ref (r0 1), .ref (r0 2), .ref (r0 3), .ref (r0 4), .ref (r0 5), .ref (r0 6), .int y_1, .int y_6, .int f_scale, .int f_toEnd, .int f_between, .int f_kept], aI (r0 1) cI 36 f_modes_11, aI (r0 2) cI 36 f_across_12, aI (r0 3) cI 36 f_down_13, aQ (r0 4) cQ r0, oB (r1 0) 4 [.ref (r1 1), .int t_size, .int t_position_19, .int t_fault_20], aI (r1 1) cB 6000 t_bytes] [rowsW cI r0 f_grid_14]) H27 → va_D A (wf [aI (r0 5) cI 36 f_places, aI (r0 6) cI 5 f_latestOfKind, oB (r2 3) 5 [.ref (r2 4), .int h_h1_nodeCount, .int h_h1_tokenCount, .int h_h1_root], aI (r2 4) cI 88 h_h1_branches, oB (r2 5) 5 [.ref (r2 6), .int h_h2_nodeCount, .int h_h2_tokenCount, .int h_h2_root], aI (r2 6) cI 88 h_h2_branches, aI (r2 7) cI 36 h_order, oB (r2 0) 1 [.ref (r2 1), .ref (r2 2), .ref (r2 3), .ref (r2 5), .ref (r2 7), .int h_columns, .int h_rows, .int h_limit], oB (r0 0) 0 [.ref (r0 1), .ref (r0 2), .ref (r0 3), .ref (r0 4), .ref (r0 5), .ref (r0 6), .int y_1, .int y_6, .int f_scale, .int f_toEnd, .int f_between, .int f_kept], aI (r0 1) cI 36 f_modes_11, aI (r0 2) cI 36 f_across_12, aI (r0 3) cI 36 f_down_13, aQ (r0 4) cQ r0, oB (r1 0) 4 [.ref (r1 1), .int t_size, .int t_position_19, .int t_fault_20], aI (r1 1) cB 6000 t_bytes] [rowsW cI r0 f_grid_14]) → va_S A s.heap H27 lc27 → lv_has ls27 4 [(0, .ref (r0 0)), (1, .ref (r1 0)), (2, .ref (r2 0)), (3, .int x3)] → W p l e rm_X0_read s m args below meth c H27 lc27 0 0 QQ (F0 m 34 ls27 [.int k0_26, .ref (r0 0)]) := by
    intro k0_26 H27 lc27 ls27 hm28 hP27 hD27 hS27 hl27
    rw [ek25] at hm28
    obtain ⟨hz29, hm29⟩ := gz_some hm28; clear hm28
    refine ct_put (D := D) (ci := 0) (v := .int k0_26) (ty := .boolean) (C := RX0) (T := TX0) (N := 12) (ws' := (wf [aI (r0 5) cI 36 f_places, aI (r0 6) cI 5 f_latestOfKind, oB (r2 3) 5 [.ref (r2 4), .int h_h1_nodeCount, .int h_h1_tokenCount, .int h_h1_root], aI (r2 4) cI 88 h_h1_branches, oB (r2 5) 5 [.ref (r2 6), .int h_h2_nodeCount, .int h_h2_tokenCount, .int h_h2_root], aI (r2 6) cI 88 h_h2_branches, aI (r2 7) cI 36 h_order, oB (r2 0) 1 [.ref (r2 1), .ref (r2 2), .ref (r2 3), .ref (r2 5), .ref (r2 7), .int h_columns, .int h_rows, .int h_limit], oB (r0 0) 0 [.ref (r0 1), .ref (r0 2), .ref (r0 3), .ref (r0 4), .ref (r0 5), .ref (r0 6), .int y_1, .int y_6, .int f_scale, .int f_toEnd, .int k0_26, .int f_kept], aI (r0 1) cI 36 f_modes_11, aI (r0 2) cI 36 f_across_12, aI (r0 3) cI 36 f_down_13, aQ (r0 4) cQ r0, oB (r1 0) 4 [.ref (r1 1), .int t_size, .int t_position_19, .int t_fault_20], aI (r1 1) cB 6000 t_bytes] [rowsW cI r0 f_grid_14])) hx hb hts hi_X0_read_0 tyX0 tyX0_ok nmX0 hown E.1 hP27 hD27 hS27 8 rfl rfl 10 (by decide) (hts _ (List.mem_of_getElem? (i := 3) rfl)) (fun _ h9 => h9) rfl (by decide +kernel) (gz_nar hz29) (gz_fit hz29) (Nat.le_of_ble_eq_true rfl) rfl dX0_read_34 (fun H30 lc30 hP30 hD30 hS30 => ?_)
    clear hP27 hD27 hS27
    refine lv_aload_n hx hb dX0_read_37 rfl (lv_at hl27 0 rfl) ?_
    refine va_get (D := D) (ci := 0) (v := .int k0_26) (C := RX0) (T := TX0) (N := 12) hx hb hts hi_X0_read_0 hown E.1 hP30 8 rfl rfl 10 (by decide) (hts _ (List.mem_of_getElem? (i := 3) rfl)) (fun _ h9 => h9) rfl dX0_read_38 ?_
    obtain ⟨k32, ek32, hm32⟩ := jn_some hm29; clear hm29
    have KJ32 : ∀ (t_fault_33 : Int32) (H34 : Heap) (lc34 : List Loc) (ls34 : Array Slot), k32 t_fault_33 = some o → va_P D vwCl (wf [aI (r0 5) cI 36 f_places, aI (r0 6) cI 5 f_latestOfKind, oB (r2 3) 5 [.ref (r2 4), .int h_h1_nodeCount, .int h_h1_tokenCount, .int h_h1_root], aI (r2 4) cI 88 h_h1_branches, oB (r2 5) 5 [.ref (r2 6), .int h_h2_nodeCount, .int h_h2_tokenCount, .int h_h2_root], aI (r2 6) cI 88 h_h2_branches, aI (r2 7) cI 36 h_order, oB (r2 0) 1 [.ref (r2 1), .ref (r2 2), .ref (r2 3), .ref (r2 5), .ref (r2 7), .int h_columns, .int h_rows, .int h_limit], oB (r0 0) 0 [.ref (r0 1), .ref (r0 2), .ref (r0 3), .ref (r0 4), .ref (r0 5), .ref (r0 6), .int y_1, .int y_6, .int f_scale, .int f_toEnd, .int k0_26, .int f_kept], aI (r0 1) cI 36 f_modes_11, aI (r0 2) cI 36 f_across_12, aI (r0 3) cI 36 f_down_13, aQ (r0 4) cQ r0, oB (r1 0) 4 [.ref (r1 1), .int t_size, .int t_position_19, .int t_fault_33], aI (r1 1) cB 6000 t_bytes] [rowsW cI r0 f_grid_14]) H34 → va_D A (wf [aI (r0 5) cI 36 f_places, aI (r0 6) cI 5 f_latestOfKind, oB (r2 3) 5 [.ref (r2 4), .int h_h1_nodeCount, .int h_h1_tokenCount, .int h_h1_root], aI (r2 4) cI 88 h_h1_branches, oB (r2 5) 5 [.ref (r2 6), .int h_h2_nodeCount, .int h_h2_tokenCount, .int h_h2_root], aI (r2 6) cI 88 h_h2_branches, aI (r2 7) cI 36 h_order, oB (r2 0) 1 [.ref (r2 1), .ref (r2 2), .ref (r2 3), .ref (r2 5), .ref (r2 7), .int h_columns, .int h_rows, .int h_limit], oB (r0 0) 0 [.ref (r0 1), .ref (r0 2), .ref (r0 3), .ref (r0 4), .ref (r0 5), .ref (r0 6), .int y_1, .int y_6, .int f_scale, .int f_toEnd, .int k0_26, .int f_kept], aI (r0 1) cI 36 f_modes_11, aI (r0 2) cI 36 f_across_12, aI (r0 3) cI 36 f_down_13, aQ (r0 4) cQ r0, oB (r1 0) 4 [.ref (r1 1), .int t_size, .int t_position_19, .int t_fault_33], aI (r1 1) cB 6000 t_bytes] [rowsW cI r0 f_grid_14]) → va_S A s.heap H34 lc34 → lv_has ls34 4 [(0, .ref (r0 0)), (1, .ref (r1 0)), (2, .ref (r2 0))] → W p l e rm_X0_read s m args below meth c H34 lc34 0 0 QQ (F0 m 53 ls34 []) := by
      intro t_fault_33 H34 lc34 ls34 hm35 hP34 hD34 hS34 hl34
      rw [ek32] at hm35
      refine lv_aload_n hx hb dX0_read_53 rfl (lv_at hl34 0 rfl) ?_
      refine lv_aload_n hx hb dX0_read_54 rfl (lv_at hl34 1 rfl) ?_
      refine lv_iconst (v := 3) hx hb dX0_read_55 (by decide) ?_
      obtain ⟨y_36, t_position_37, t_fault_38, hcl39, hm39⟩ := bd3_some hm35; clear hm35
      have sb40 := ctS.mk (pre := [aI (r0 5) cI 36 f_places, aI (r0 6) cI 5 f_latestOfKind, oB (r2 3) 5 [.ref (r2 4), .int h_h1_nodeCount, .int h_h1_tokenCount, .int h_h1_root], aI (r2 4) cI 88 h_h1_branches, oB (r2 5) 5 [.ref (r2 6), .int h_h2_nodeCount, .int h_h2_tokenCount, .int h_h2_root], aI (r2 6) cI 88 h_h2_branches, aI (r2 7) cI 36 h_order, oB (r2 0) 1 [.ref (r2 1), .ref (r2 2), .ref (r2 3), .ref (r2 5), .ref (r2 7), .int h_columns, .int h_rows, .int h_limit], oB (r0 0) 0 [.ref (r0 1), .ref (r0 2), .ref (r0 3), .ref (r0 4), .ref (r0 5), .ref (r0 6), .int y_1, .int y_6, .int f_scale, .int f_toEnd, .int k0_26, .int f_kept], aI (r0 1) cI 36 f_modes_11, aI (r0 2) cI 36 f_across_12, aI (r0 3) cI 36 f_down_13, aQ (r0 4) cQ r0, oB (r1 0) 4 [.ref (r1 1), .int t_size, .int t_position_19, .int t_fault_33], aI (r1 1) cB 6000 t_bytes]) (tl := [rowsW cI r0 f_grid_14]) [13, 14] [0, 1, 2, 3, 4, 5, 6, 7, 8, 9, 10, 11, 12] [] [0] rfl rfl rfl rfl
      refine ct_calli (r := y_36) E sb40 hP34 hD34 hS34 (va_runV (As := [.int (3 : Int32)]) (rest := [.ref (r0 0)]) ⟨hx, hb, hml, hown, hts⟩ (c_X4_number l D cB cI cJ cQ N r1 H34.size (3 : Int32) t_size t_position_19 t_fault_33 t_bytes (y_36, t_position_37, t_fault_38) hcl39) (cwV 1 hts gX0_read_X4_number rfl rfl rfl cdV_X4_number ⟨Nat.le_of_ble_eq_true rfl, Nat.le_of_ble_eq_true rfl⟩) (ct_preV (q0 := 13) (ci := 4) E sb40 hP34 hD34 hS34 rfl rfl) rfl rfl hl34.1 rfl (lv_room (Nat.le_of_ble_eq_true rfl)) dX0_read_56 ⟨Nat.zero_le _, Nat.zero_le _⟩) (fun H41 lc41 hP41 hD41 hS41 => ?_); clear sb40 hcl39
      clear hP34 hD34 hS34
      have hP41 : va_P D vwCl (wf [aI (r0 5) cI 36 f_places, aI (r0 6) cI 5 f_latestOfKind, oB (r2 3) 5 [.ref (r2 4), .int h_h1_nodeCount, .int h_h1_tokenCount, .int h_h1_root], aI (r2 4) cI 88 h_h1_branches, oB (r2 5) 5 [.ref (r2 6), .int h_h2_nodeCount, .int h_h2_tokenCount, .int h_h2_root], aI (r2 6) cI 88 h_h2_branches, aI (r2 7) cI 36 h_order, oB (r2 0) 1 [.ref (r2 1), .ref (r2 2), .ref (r2 3), .ref (r2 5), .ref (r2 7), .int h_columns, .int h_rows, .int h_limit], oB (r0 0) 0 [.ref (r0 1), .ref (r0 2), .ref (r0 3), .ref (r0 4), .ref (r0 5), .ref (r0 6), .int y_1, .int y_6, .int f_scale, .int f_toEnd, .int k0_26, .int f_kept], aI (r0 1) cI 36 f_modes_11, aI (r0 2) cI 36 f_across_12, aI (r0 3) cI 36 f_down_13, aQ (r0 4) cQ r0, oB (r1 0) 4 [.ref (r1 1), .int t_size, .int t_position_37, .int t_fault_38], aI (r1 1) cB 6000 t_bytes] [rowsW cI r0 f_grid_14]) H41 := hP41
      have hD41 : va_D A (wf [aI (r0 5) cI 36 f_places, aI (r0 6) cI 5 f_latestOfKind, oB (r2 3) 5 [.ref (r2 4), .int h_h1_nodeCount, .int h_h1_tokenCount, .int h_h1_root], aI (r2 4) cI 88 h_h1_branches, oB (r2 5) 5 [.ref (r2 6), .int h_h2_nodeCount, .int h_h2_tokenCount, .int h_h2_root], aI (r2 6) cI 88 h_h2_branches, aI (r2 7) cI 36 h_order, oB (r2 0) 1 [.ref (r2 1), .ref (r2 2), .ref (r2 3), .ref (r2 5), .ref (r2 7), .int h_columns, .int h_rows, .int h_limit], oB (r0 0) 0 [.ref (r0 1), .ref (r0 2), .ref (r0 3), .ref (r0 4), .ref (r0 5), .ref (r0 6), .int y_1, .int y_6, .int f_scale, .int f_toEnd, .int k0_26, .int f_kept], aI (r0 1) cI 36 f_modes_11, aI (r0 2) cI 36 f_across_12, aI (r0 3) cI 36 f_down_13, aQ (r0 4) cQ r0, oB (r1 0) 4 [.ref (r1 1), .int t_size, .int t_position_37, .int t_fault_38], aI (r1 1) cB 6000 t_bytes] [rowsW cI r0 f_grid_14]) := hD41
      refine ct_put (D := D) (ci := 0) (v := .int y_36) (ty := .int) (C := RX0) (T := TX0) (N := 12) (ws' := (wf [aI (r0 5) cI 36 f_places, aI (r0 6) cI 5 f_latestOfKind, oB (r2 3) 5 [.ref (r2 4), .int h_h1_nodeCount, .int h_h1_tokenCount, .int h_h1_root], aI (r2 4) cI 88 h_h1_branches, oB (r2 5) 5 [.ref (r2 6), .int h_h2_nodeCount, .int h_h2_tokenCount, .int h_h2_root], aI (r2 6) cI 88 h_h2_branches, aI (r2 7) cI 36 h_order, oB (r2 0) 1 [.ref (r2 1), .ref (r2 2), .ref (r2 3), .ref (r2 5), .ref (r2 7), .int h_columns, .int h_rows, .int h_limit], oB (r0 0) 0 [.ref (r0 1), .ref (r0 2), .ref (r0 3), .ref (r0 4), .ref (r0 5), .ref (r0 6), .int y_1, .int y_6, .int y_36, .int f_toEnd, .int k0_26, .int f_kept], aI (r0 1) cI 36 f_modes_11, aI (r0 2) cI 36 f_across_12, aI (r0 3) cI 36 f_down_13, aQ (r0 4) cQ r0, oB (r1 0) 4 [.ref (r1 1), .int t_size, .int t_position_37, .int t_fault_38], aI (r1 1) cB 6000 t_bytes] [rowsW cI r0 f_grid_14])) hx hb hts hi_X0_read_0 tyX0 tyX0_ok nmX0 hown E.1 hP41 hD41 hS41 8 rfl rfl 8 (by decide) (hts _ (List.mem_of_getElem? (i := 4) rfl)) (fun _ h9 => h9) rfl (by decide +kernel) rfl rfl (Nat.le_of_ble_eq_true rfl) rfl dX0_read_59 (fun H42 lc42 hP42 hD42 hS42 => ?_)
      clear hP41 hD41 hS41
      refine lv_aload_n hx hb dX0_read_62 rfl (lv_at hl34 0 rfl) ?_
      refine lv_aload_n hx hb dX0_read_63 rfl (lv_at hl34 1 rfl) ?_
      obtain ⟨y_43, t_position_44, t_fault_45, hcl46, hm46⟩ := bd3_some hm39; clear hm39
      have sb47 := ctS.mk (pre := [aI (r0 5) cI 36 f_places, aI (r0 6) cI 5 f_latestOfKind, oB (r2 3) 5 [.ref (r2 4), .int h_h1_nodeCount, .int h_h1_tokenCount, .int h_h1_root], aI (r2 4) cI 88 h_h1_branches, oB (r2 5) 5 [.ref (r2 6), .int h_h2_nodeCount, .int h_h2_tokenCount, .int h_h2_root], aI (r2 6) cI 88 h_h2_branches, aI (r2 7) cI 36 h_order, oB (r2 0) 1 [.ref (r2 1), .ref (r2 2), .ref (r2 3), .ref (r2 5), .ref (r2 7), .int h_columns, .int h_rows, .int h_limit], oB (r0 0) 0 [.ref (r0 1), .ref (r0 2), .ref (r0 3), .ref (r0 4), .ref (r0 5), .ref (r0 6), .int y_1, .int y_6, .int y_36, .int f_toEnd, .int k0_26, .int f_kept], aI (r0 1) cI 36 f_modes_11, aI (r0 2) cI 36 f_across_12, aI (r0 3) cI 36 f_down_13, aQ (r0 4) cQ r0, oB (r1 0) 4 [.ref (r1 1), .int t_size, .int t_position_37, .int t_fault_38], aI (r1 1) cB 6000 t_bytes]) (tl := [rowsW cI r0 f_grid_14]) [13, 14] [0, 1, 2, 3, 4, 5, 6, 7, 8, 9, 10, 11, 12] [] [0] rfl rfl rfl rfl
      refine ct_calli (r := y_43) E sb47 hP42 hD42 hS42 (va_runV (As := []) (rest := [.ref (r0 0)]) ⟨hx, hb, hml, hown, hts⟩ (c_X4_bit l D cB cI cJ cQ N r1 H42.size t_size t_position_37 t_fault_38 t_bytes (y_43, t_position_44, t_fault_45) hcl46) (cwV 0 hts gX0_read_X4_bit rfl rfl rfl cdV_X4_bit ⟨Nat.le_of_ble_eq_true rfl, Nat.le_of_ble_eq_true rfl⟩) (ct_preV (q0 := 13) (ci := 4) E sb47 hP42 hD42 hS42 rfl rfl) rfl rfl hl34.1 rfl (lv_room (Nat.le_of_ble_eq_true rfl)) dX0_read_64 ⟨Nat.zero_le _, Nat.zero_le _⟩) (fun H48 lc48 hP48 hD48 hS48 => ?_); clear sb47 hcl46
      clear hP42 hD42 hS42
      have hP48 : va_P D vwCl (wf [aI (r0 5) cI 36 f_places, aI (r0 6) cI 5 f_latestOfKind, oB (r2 3) 5 [.ref (r2 4), .int h_h1_nodeCount, .int h_h1_tokenCount, .int h_h1_root], aI (r2 4) cI 88 h_h1_branches, oB (r2 5) 5 [.ref (r2 6), .int h_h2_nodeCount, .int h_h2_tokenCount, .int h_h2_root], aI (r2 6) cI 88 h_h2_branches, aI (r2 7) cI 36 h_order, oB (r2 0) 1 [.ref (r2 1), .ref (r2 2), .ref (r2 3), .ref (r2 5), .ref (r2 7), .int h_columns, .int h_rows, .int h_limit], oB (r0 0) 0 [.ref (r0 1), .ref (r0 2), .ref (r0 3), .ref (r0 4), .ref (r0 5), .ref (r0 6), .int y_1, .int y_6, .int y_36, .int f_toEnd, .int k0_26, .int f_kept], aI (r0 1) cI 36 f_modes_11, aI (r0 2) cI 36 f_across_12, aI (r0 3) cI 36 f_down_13, aQ (r0 4) cQ r0, oB (r1 0) 4 [.ref (r1 1), .int t_size, .int t_position_44, .int t_fault_45], aI (r1 1) cB 6000 t_bytes] [rowsW cI r0 f_grid_14]) H48 := hP48
      have hD48 : va_D A (wf [aI (r0 5) cI 36 f_places, aI (r0 6) cI 5 f_latestOfKind, oB (r2 3) 5 [.ref (r2 4), .int h_h1_nodeCount, .int h_h1_tokenCount, .int h_h1_root], aI (r2 4) cI 88 h_h1_branches, oB (r2 5) 5 [.ref (r2 6), .int h_h2_nodeCount, .int h_h2_tokenCount, .int h_h2_root], aI (r2 6) cI 88 h_h2_branches, aI (r2 7) cI 36 h_order, oB (r2 0) 1 [.ref (r2 1), .ref (r2 2), .ref (r2 3), .ref (r2 5), .ref (r2 7), .int h_columns, .int h_rows, .int h_limit], oB (r0 0) 0 [.ref (r0 1), .ref (r0 2), .ref (r0 3), .ref (r0 4), .ref (r0 5), .ref (r0 6), .int y_1, .int y_6, .int y_36, .int f_toEnd, .int k0_26, .int f_kept], aI (r0 1) cI 36 f_modes_11, aI (r0 2) cI 36 f_across_12, aI (r0 3) cI 36 f_down_13, aQ (r0 4) cQ r0, oB (r1 0) 4 [.ref (r1 1), .int t_size, .int t_position_44, .int t_fault_45], aI (r1 1) cB 6000 t_bytes] [rowsW cI r0 f_grid_14]) := hD48
      refine lv_iconst (v := 1) hx hb dX0_read_67 (by decide) ?_
      obtain ⟨k50, ek50, hm50⟩ := jn_some hm46; clear hm46
      have KJ50 : ∀ (k0_51 : Int32) (H52 : Heap) (lc52 : List Loc) (ls52 : Array Slot), k50 k0_51 = some o → va_P D vwCl (wf [aI (r0 5) cI 36 f_places, aI (r0 6) cI 5 f_latestOfKind, oB (r2 3) 5 [.ref (r2 4), .int h_h1_nodeCount, .int h_h1_tokenCount, .int h_h1_root], aI (r2 4) cI 88 h_h1_branches, oB (r2 5) 5 [.ref (r2 6), .int h_h2_nodeCount, .int h_h2_tokenCount, .int h_h2_root], aI (r2 6) cI 88 h_h2_branches, aI (r2 7) cI 36 h_order, oB (r2 0) 1 [.ref (r2 1), .ref (r2 2), .ref (r2 3), .ref (r2 5), .ref (r2 7), .int h_columns, .int h_rows, .int h_limit], oB (r0 0) 0 [.ref (r0 1), .ref (r0 2), .ref (r0 3), .ref (r0 4), .ref (r0 5), .ref (r0 6), .int y_1, .int y_6, .int y_36, .int f_toEnd, .int k0_26, .int f_kept], aI (r0 1) cI 36 f_modes_11, aI (r0 2) cI 36 f_across_12, aI (r0 3) cI 36 f_down_13, aQ (r0 4) cQ r0, oB (r1 0) 4 [.ref (r1 1), .int t_size, .int t_position_44, .int t_fault_45], aI (r1 1) cB 6000 t_bytes] [rowsW cI r0 f_grid_14]) H52 → va_D A (wf [aI (r0 5) cI 36 f_places, aI (r0 6) cI 5 f_latestOfKind, oB (r2 3) 5 [.ref (r2 4), .int h_h1_nodeCount, .int h_h1_tokenCount, .int h_h1_root], aI (r2 4) cI 88 h_h1_branches, oB (r2 5) 5 [.ref (r2 6), .int h_h2_nodeCount, .int h_h2_tokenCount, .int h_h2_root], aI (r2 6) cI 88 h_h2_branches, aI (r2 7) cI 36 h_order, oB (r2 0) 1 [.ref (r2 1), .ref (r2 2), .ref (r2 3), .ref (r2 5), .ref (r2 7), .int h_columns, .int h_rows, .int h_limit], oB (r0 0) 0 [.ref (r0 1), .ref (r0 2), .ref (r0 3), .ref (r0 4), .ref (r0 5), .ref (r0 6), .int y_1, .int y_6, .int y_36, .int f_toEnd, .int k0_26, .int f_kept], aI (r0 1) cI 36 f_modes_11, aI (r0 2) cI 36 f_across_12, aI (r0 3) cI 36 f_down_13, aQ (r0 4) cQ r0, oB (r1 0) 4 [.ref (r1 1), .int t_size, .int t_position_44, .int t_fault_45], aI (r1 1) cB 6000 t_bytes] [rowsW cI r0 f_grid_14]) → va_S A s.heap H52 lc52 → lv_has ls52 4 [(0, .ref (r0 0)), (1, .ref (r1 0)), (2, .ref (r2 0))] → W p l e rm_X0_read s m args below meth c H52 lc52 0 0 QQ (F0 m 76 ls52 [.int k0_51, .ref (r0 0)]) := by
        intro k0_51 H52 lc52 ls52 hm53 hP52 hD52 hS52 hl52
        rw [ek50] at hm53
        obtain ⟨hz54, hm54⟩ := gz_some hm53; clear hm53
        refine ct_put (D := D) (ci := 0) (v := .int k0_51) (ty := .boolean) (C := RX0) (T := TX0) (N := 12) (ws' := (wf [aI (r0 5) cI 36 f_places, aI (r0 6) cI 5 f_latestOfKind, oB (r2 3) 5 [.ref (r2 4), .int h_h1_nodeCount, .int h_h1_tokenCount, .int h_h1_root], aI (r2 4) cI 88 h_h1_branches, oB (r2 5) 5 [.ref (r2 6), .int h_h2_nodeCount, .int h_h2_tokenCount, .int h_h2_root], aI (r2 6) cI 88 h_h2_branches, aI (r2 7) cI 36 h_order, oB (r2 0) 1 [.ref (r2 1), .ref (r2 2), .ref (r2 3), .ref (r2 5), .ref (r2 7), .int h_columns, .int h_rows, .int h_limit], oB (r0 0) 0 [.ref (r0 1), .ref (r0 2), .ref (r0 3), .ref (r0 4), .ref (r0 5), .ref (r0 6), .int y_1, .int y_6, .int y_36, .int f_toEnd, .int k0_26, .int k0_51], aI (r0 1) cI 36 f_modes_11, aI (r0 2) cI 36 f_across_12, aI (r0 3) cI 36 f_down_13, aQ (r0 4) cQ r0, oB (r1 0) 4 [.ref (r1 1), .int t_size, .int t_position_44, .int t_fault_45], aI (r1 1) cB 6000 t_bytes] [rowsW cI r0 f_grid_14])) hx hb hts hi_X0_read_0 tyX0 tyX0_ok nmX0 hown E.1 hP52 hD52 hS52 8 rfl rfl 11 (by decide) (hts _ (List.mem_of_getElem? (i := 5) rfl)) (fun _ h9 => h9) rfl (by decide +kernel) (gz_nar hz54) (gz_fit hz54) (Nat.le_of_ble_eq_true rfl) rfl dX0_read_76 (fun H55 lc55 hP55 hD55 hS55 => ?_)
        clear hP52 hD52 hS52
        refine lv_aload_n hx hb dX0_read_79 rfl (lv_at hl52 0 rfl) ?_
        refine va_get (D := D) (ci := 0) (v := .int k0_26) (C := RX0) (T := TX0) (N := 12) hx hb hts hi_X0_read_0 hown E.1 hP55 8 rfl rfl 10 (by decide) (hts _ (List.mem_of_getElem? (i := 3) rfl)) (fun _ h9 => h9) rfl dX0_read_80 ?_
        obtain ⟨k57, ek57, hm57⟩ := jn_some hm54; clear hm54
        have KJ57 : ∀ (f_modes_58 : Nat → Int32) (f_across_59 : Nat → Int32) (f_down_60 : Nat → Int32) (t_position_61 : Int32) (t_fault_62 : Int32) (H63 : Heap) (lc63 : List Loc) (ls63 : Array Slot), k57 f_modes_58 f_across_59 f_down_60 t_position_61 t_fault_62 = some o → va_P D vwCl (wf [aI (r0 5) cI 36 f_places, aI (r0 6) cI 5 f_latestOfKind, oB (r2 3) 5 [.ref (r2 4), .int h_h1_nodeCount, .int h_h1_tokenCount, .int h_h1_root], aI (r2 4) cI 88 h_h1_branches, oB (r2 5) 5 [.ref (r2 6), .int h_h2_nodeCount, .int h_h2_tokenCount, .int h_h2_root], aI (r2 6) cI 88 h_h2_branches, aI (r2 7) cI 36 h_order, oB (r2 0) 1 [.ref (r2 1), .ref (r2 2), .ref (r2 3), .ref (r2 5), .ref (r2 7), .int h_columns, .int h_rows, .int h_limit], oB (r0 0) 0 [.ref (r0 1), .ref (r0 2), .ref (r0 3), .ref (r0 4), .ref (r0 5), .ref (r0 6), .int y_1, .int y_6, .int y_36, .int f_toEnd, .int k0_26, .int k0_51], aI (r0 1) cI 36 f_modes_58, aI (r0 2) cI 36 f_across_59, aI (r0 3) cI 36 f_down_60, aQ (r0 4) cQ r0, oB (r1 0) 4 [.ref (r1 1), .int t_size, .int t_position_61, .int t_fault_62], aI (r1 1) cB 6000 t_bytes] [rowsW cI r0 f_grid_14]) H63 → va_D A (wf [aI (r0 5) cI 36 f_places, aI (r0 6) cI 5 f_latestOfKind, oB (r2 3) 5 [.ref (r2 4), .int h_h1_nodeCount, .int h_h1_tokenCount, .int h_h1_root], aI (r2 4) cI 88 h_h1_branches, oB (r2 5) 5 [.ref (r2 6), .int h_h2_nodeCount, .int h_h2_tokenCount, .int h_h2_root], aI (r2 6) cI 88 h_h2_branches, aI (r2 7) cI 36 h_order, oB (r2 0) 1 [.ref (r2 1), .ref (r2 2), .ref (r2 3), .ref (r2 5), .ref (r2 7), .int h_columns, .int h_rows, .int h_limit], oB (r0 0) 0 [.ref (r0 1), .ref (r0 2), .ref (r0 3), .ref (r0 4), .ref (r0 5), .ref (r0 6), .int y_1, .int y_6, .int y_36, .int f_toEnd, .int k0_26, .int k0_51], aI (r0 1) cI 36 f_modes_58, aI (r0 2) cI 36 f_across_59, aI (r0 3) cI 36 f_down_60, aQ (r0 4) cQ r0, oB (r1 0) 4 [.ref (r1 1), .int t_size, .int t_position_61, .int t_fault_62], aI (r1 1) cB 6000 t_bytes] [rowsW cI r0 f_grid_14]) → va_S A s.heap H63 lc63 → lv_has ls63 4 [(0, .ref (r0 0)), (1, .ref (r1 0)), (2, .ref (r2 0))] → W p l e rm_X0_read s m args below meth c H63 lc63 0 0 QQ (F0 m 98 ls63 []) := by
          intro f_modes_58 f_across_59 f_down_60 t_position_61 t_fault_62 H63 lc63 ls63 hm64 hP63 hD63 hS63 hl63
          rw [ek57] at hm64
          refine lv_aload_n hx hb dX0_read_98 rfl (lv_at hl63 1 rfl) ?_
          obtain ⟨y_65, hcl66, hm66⟩ := bd1_some hm64; clear hm64
          have sb67 := ctS.mk (pre := [aI (r0 5) cI 36 f_places, aI (r0 6) cI 5 f_latestOfKind, oB (r2 3) 5 [.ref (r2 4), .int h_h1_nodeCount, .int h_h1_tokenCount, .int h_h1_root], aI (r2 4) cI 88 h_h1_branches, oB (r2 5) 5 [.ref (r2 6), .int h_h2_nodeCount, .int h_h2_tokenCount, .int h_h2_root], aI (r2 6) cI 88 h_h2_branches, aI (r2 7) cI 36 h_order, oB (r2 0) 1 [.ref (r2 1), .ref (r2 2), .ref (r2 3), .ref (r2 5), .ref (r2 7), .int h_columns, .int h_rows, .int h_limit], oB (r0 0) 0 [.ref (r0 1), .ref (r0 2), .ref (r0 3), .ref (r0 4), .ref (r0 5), .ref (r0 6), .int y_1, .int y_6, .int y_36, .int f_toEnd, .int k0_26, .int k0_51], aI (r0 1) cI 36 f_modes_58, aI (r0 2) cI 36 f_across_59, aI (r0 3) cI 36 f_down_60, aQ (r0 4) cQ r0, oB (r1 0) 4 [.ref (r1 1), .int t_size, .int t_position_61, .int t_fault_62], aI (r1 1) cB 6000 t_bytes]) (tl := [rowsW cI r0 f_grid_14]) [13] [0, 1, 2, 3, 4, 5, 6, 7, 8, 9, 10, 11, 12, 14] [] [0] rfl rfl rfl rfl
          refine ct_calli (r := y_65) E sb67 hP63 hD63 hS63 (va_runV (As := []) (rest := []) ⟨hx, hb, hml, hown, hts⟩ (c_X4_isSound l D cB cI cJ cQ N r1 H63.size t_size t_position_61 t_fault_62 (y_65) hcl66) (cwV 0 hts gX0_read_X4_isSound rfl rfl rfl cdV_X4_isSound ⟨Nat.le_of_ble_eq_true rfl, Nat.le_of_ble_eq_true rfl⟩) (ct_preV (q0 := 13) (ci := 4) E sb67 hP63 hD63 hS63 rfl rfl) rfl rfl hl63.1 rfl (lv_room (Nat.le_of_ble_eq_true rfl)) dX0_read_99 ⟨Nat.zero_le _, Nat.zero_le _⟩) (fun H68 lc68 hP68 hD68 hS68 => ?_); clear sb67 hcl66
          clear hP63 hD63 hS63
          have hP68 : va_P D vwCl (wf [aI (r0 5) cI 36 f_places, aI (r0 6) cI 5 f_latestOfKind, oB (r2 3) 5 [.ref (r2 4), .int h_h1_nodeCount, .int h_h1_tokenCount, .int h_h1_root], aI (r2 4) cI 88 h_h1_branches, oB (r2 5) 5 [.ref (r2 6), .int h_h2_nodeCount, .int h_h2_tokenCount, .int h_h2_root], aI (r2 6) cI 88 h_h2_branches, aI (r2 7) cI 36 h_order, oB (r2 0) 1 [.ref (r2 1), .ref (r2 2), .ref (r2 3), .ref (r2 5), .ref (r2 7), .int h_columns, .int h_rows, .int h_limit], oB (r0 0) 0 [.ref (r0 1), .ref (r0 2), .ref (r0 3), .ref (r0 4), .ref (r0 5), .ref (r0 6), .int y_1, .int y_6, .int y_36, .int f_toEnd, .int k0_26, .int k0_51], aI (r0 1) cI 36 f_modes_58, aI (r0 2) cI 36 f_across_59, aI (r0 3) cI 36 f_down_60, aQ (r0 4) cQ r0, aI (r1 1) cB 6000 t_bytes, oB (r1 0) 4 [.ref (r1 1), .int t_size, .int t_position_61, .int t_fault_62]] [rowsW cI r0 f_grid_14]) H68 := hP68
          have hD68 : va_D A (wf [aI (r0 5) cI 36 f_places, aI (r0 6) cI 5 f_latestOfKind, oB (r2 3) 5 [.ref (r2 4), .int h_h1_nodeCount, .int h_h1_tokenCount, .int h_h1_root], aI (r2 4) cI 88 h_h1_branches, oB (r2 5) 5 [.ref (r2 6), .int h_h2_nodeCount, .int h_h2_tokenCount, .int h_h2_root], aI (r2 6) cI 88 h_h2_branches, aI (r2 7) cI 36 h_order, oB (r2 0) 1 [.ref (r2 1), .ref (r2 2), .ref (r2 3), .ref (r2 5), .ref (r2 7), .int h_columns, .int h_rows, .int h_limit], oB (r0 0) 0 [.ref (r0 1), .ref (r0 2), .ref (r0 3), .ref (r0 4), .ref (r0 5), .ref (r0 6), .int y_1, .int y_6, .int y_36, .int f_toEnd, .int k0_26, .int k0_51], aI (r0 1) cI 36 f_modes_58, aI (r0 2) cI 36 f_across_59, aI (r0 3) cI 36 f_down_60, aQ (r0 4) cQ r0, aI (r1 1) cB 6000 t_bytes, oB (r1 0) 4 [.ref (r1 1), .int t_size, .int t_position_61, .int t_fault_62]] [rowsW cI r0 f_grid_14]) := hD68
          obtain ⟨k70, ek70, hm70⟩ := jn_some hm66; clear hm66
          have KJ70 : ∀ (f_toEnd_71 : Int32) (f_places_72 : Nat → Int32) (f_grid_73 : Nat → Nat → Int32) (t_position_74 : Int32) (t_fault_75 : Int32) (H76 : Heap) (lc76 : List Loc) (ls76 : Array Slot), k70 f_toEnd_71 f_places_72 f_grid_73 t_position_74 t_fault_75 = some o → va_P D vwCl (wf [aI (r0 5) cI 36 f_places_72, aI (r0 6) cI 5 f_latestOfKind, oB (r2 3) 5 [.ref (r2 4), .int h_h1_nodeCount, .int h_h1_tokenCount, .int h_h1_root], aI (r2 4) cI 88 h_h1_branches, oB (r2 5) 5 [.ref (r2 6), .int h_h2_nodeCount, .int h_h2_tokenCount, .int h_h2_root], aI (r2 6) cI 88 h_h2_branches, aI (r2 7) cI 36 h_order, oB (r2 0) 1 [.ref (r2 1), .ref (r2 2), .ref (r2 3), .ref (r2 5), .ref (r2 7), .int h_columns, .int h_rows, .int h_limit], oB (r0 0) 0 [.ref (r0 1), .ref (r0 2), .ref (r0 3), .ref (r0 4), .ref (r0 5), .ref (r0 6), .int y_1, .int y_6, .int y_36, .int f_toEnd_71, .int k0_26, .int k0_51], aI (r0 1) cI 36 f_modes_58, aI (r0 2) cI 36 f_across_59, aI (r0 3) cI 36 f_down_60, aQ (r0 4) cQ r0, aI (r1 1) cB 6000 t_bytes, oB (r1 0) 4 [.ref (r1 1), .int t_size, .int t_position_74, .int t_fault_75]] [rowsW cI r0 f_grid_73]) H76 → va_D A (wf [aI (r0 5) cI 36 f_places_72, aI (r0 6) cI 5 f_latestOfKind, oB (r2 3) 5 [.ref (r2 4), .int h_h1_nodeCount, .int h_h1_tokenCount, .int h_h1_root], aI (r2 4) cI 88 h_h1_branches, oB (r2 5) 5 [.ref (r2 6), .int h_h2_nodeCount, .int h_h2_tokenCount, .int h_h2_root], aI (r2 6) cI 88 h_h2_branches, aI (r2 7) cI 36 h_order, oB (r2 0) 1 [.ref (r2 1), .ref (r2 2), .ref (r2 3), .ref (r2 5), .ref (r2 7), .int h_columns, .int h_rows, .int h_limit], oB (r0 0) 0 [.ref (r0 1), .ref (r0 2), .ref (r0 3), .ref (r0 4), .ref (r0 5), .ref (r0 6), .int y_1, .int y_6, .int y_36, .int f_toEnd_71, .int k0_26, .int k0_51], aI (r0 1) cI 36 f_modes_58, aI (r0 2) cI 36 f_across_59, aI (r0 3) cI 36 f_down_60, aQ (r0 4) cQ r0, aI (r1 1) cB 6000 t_bytes, oB (r1 0) 4 [.ref (r1 1), .int t_size, .int t_position_74, .int t_fault_75]] [rowsW cI r0 f_grid_73]) → va_S A s.heap H76 lc76 → lv_has ls76 4 [(0, .ref (r0 0)), (1, .ref (r1 0))] → W p l e rm_X0_read s m args below meth c H76 lc76 0 0 QQ (F0 m 111 ls76 []) := by
            intro f_toEnd_71 f_places_72 f_grid_73 t_position_74 t_fault_75 H76 lc76 ls76 hm77 hP76 hD76 hS76 hl76
            rw [ek70] at hm77
            refine lv_aload_n hx hb dX0_read_111 rfl (lv_at hl76 1 rfl) ?_
            obtain ⟨y_78, hcl79, hm79⟩ := bd1_some hm77; clear hm77
            have sb80 := ctS.mk (pre := [aI (r0 5) cI 36 f_places_72, aI (r0 6) cI 5 f_latestOfKind, oB (r2 3) 5 [.ref (r2 4), .int h_h1_nodeCount, .int h_h1_tokenCount, .int h_h1_root], aI (r2 4) cI 88 h_h1_branches, oB (r2 5) 5 [.ref (r2 6), .int h_h2_nodeCount, .int h_h2_tokenCount, .int h_h2_root], aI (r2 6) cI 88 h_h2_branches, aI (r2 7) cI 36 h_order, oB (r2 0) 1 [.ref (r2 1), .ref (r2 2), .ref (r2 3), .ref (r2 5), .ref (r2 7), .int h_columns, .int h_rows, .int h_limit], oB (r0 0) 0 [.ref (r0 1), .ref (r0 2), .ref (r0 3), .ref (r0 4), .ref (r0 5), .ref (r0 6), .int y_1, .int y_6, .int y_36, .int f_toEnd_71, .int k0_26, .int k0_51], aI (r0 1) cI 36 f_modes_58, aI (r0 2) cI 36 f_across_59, aI (r0 3) cI 36 f_down_60, aQ (r0 4) cQ r0, aI (r1 1) cB 6000 t_bytes, oB (r1 0) 4 [.ref (r1 1), .int t_size, .int t_position_74, .int t_fault_75]]) (tl := [rowsW cI r0 f_grid_73]) [14] [0, 1, 2, 3, 4, 5, 6, 7, 8, 9, 10, 11, 12, 13] [] [0] rfl rfl rfl rfl
            refine ct_calli (r := y_78) E sb80 hP76 hD76 hS76 (va_runV (As := []) (rest := []) ⟨hx, hb, hml, hown, hts⟩ (c_X4_isSound l D cB cI cJ cQ N r1 H76.size t_size t_position_74 t_fault_75 (y_78) hcl79) (cwV 0 hts gX0_read_X4_isSound rfl rfl rfl cdV_X4_isSound ⟨Nat.le_of_ble_eq_true rfl, Nat.le_of_ble_eq_true rfl⟩) (ct_preV (q0 := 14) (ci := 4) E sb80 hP76 hD76 hS76 rfl rfl) rfl rfl hl76.1 rfl (lv_room (Nat.le_of_ble_eq_true rfl)) dX0_read_112 ⟨Nat.zero_le _, Nat.zero_le _⟩) (fun H81 lc81 hP81 hD81 hS81 => ?_); clear sb80 hcl79
            clear hP76 hD76 hS76
            have hP81 : va_P D vwCl (wf [aI (r0 5) cI 36 f_places_72, aI (r0 6) cI 5 f_latestOfKind, oB (r2 3) 5 [.ref (r2 4), .int h_h1_nodeCount, .int h_h1_tokenCount, .int h_h1_root], aI (r2 4) cI 88 h_h1_branches, oB (r2 5) 5 [.ref (r2 6), .int h_h2_nodeCount, .int h_h2_tokenCount, .int h_h2_root], aI (r2 6) cI 88 h_h2_branches, aI (r2 7) cI 36 h_order, oB (r2 0) 1 [.ref (r2 1), .ref (r2 2), .ref (r2 3), .ref (r2 5), .ref (r2 7), .int h_columns, .int h_rows, .int h_limit], oB (r0 0) 0 [.ref (r0 1), .ref (r0 2), .ref (r0 3), .ref (r0 4), .ref (r0 5), .ref (r0 6), .int y_1, .int y_6, .int y_36, .int f_toEnd_71, .int k0_26, .int k0_51], aI (r0 1) cI 36 f_modes_58, aI (r0 2) cI 36 f_across_59, aI (r0 3) cI 36 f_down_60, aQ (r0 4) cQ r0, aI (r1 1) cB 6000 t_bytes, oB (r1 0) 4 [.ref (r1 1), .int t_size, .int t_position_74, .int t_fault_75]] [rowsW cI r0 f_grid_73]) H81 := hP81
            have hD81 : va_D A (wf [aI (r0 5) cI 36 f_places_72, aI (r0 6) cI 5 f_latestOfKind, oB (r2 3) 5 [.ref (r2 4), .int h_h1_nodeCount, .int h_h1_tokenCount, .int h_h1_root], aI (r2 4) cI 88 h_h1_branches, oB (r2 5) 5 [.ref (r2 6), .int h_h2_nodeCount, .int h_h2_tokenCount, .int h_h2_root], aI (r2 6) cI 88 h_h2_branches, aI (r2 7) cI 36 h_order, oB (r2 0) 1 [.ref (r2 1), .ref (r2 2), .ref (r2 3), .ref (r2 5), .ref (r2 7), .int h_columns, .int h_rows, .int h_limit], oB (r0 0) 0 [.ref (r0 1), .ref (r0 2), .ref (r0 3), .ref (r0 4), .ref (r0 5), .ref (r0 6), .int y_1, .int y_6, .int y_36, .int f_toEnd_71, .int k0_26, .int k0_51], aI (r0 1) cI 36 f_modes_58, aI (r0 2) cI 36 f_across_59, aI (r0 3) cI 36 f_down_60, aQ (r0 4) cQ r0, aI (r1 1) cB 6000 t_bytes, oB (r1 0) 4 [.ref (r1 1), .int t_size, .int t_position_74, .int t_fault_75]] [rowsW cI r0 f_grid_73]) := hD81
            refine lv_if_eq (tgt := 122) hx hb dX0_read_115 (by decide) (fun hc82 => ?_) (fun hc82 => ?_)
            · have hm83 := bq_t hm79 hc82; clear hm79
              obtain ⟨hP84, hD84⟩ := ct_ord [8, 9, 10, 11, 12, 0, 1, 14, 13, 7, 2, 3, 4, 5, 6] [0] hP81 hD81 rfl rfl rfl rfl
              have hS84 := hS81
              have hP84 : va_P D vwCl (wf [oB (r0 0) 0 [.ref (r0 1), .ref (r0 2), .ref (r0 3), .ref (r0 4), .ref (r0 5), .ref (r0 6), .int y_1, .int y_6, .int y_36, .int f_toEnd_71, .int k0_26, .int k0_51], aI (r0 1) cI 36 f_modes_58, aI (r0 2) cI 36 f_across_59, aI (r0 3) cI 36 f_down_60, aQ (r0 4) cQ r0, aI (r0 5) cI 36 f_places_72, aI (r0 6) cI 5 f_latestOfKind, oB (r1 0) 4 [.ref (r1 1), .int t_size, .int t_position_74, .int t_fault_75], aI (r1 1) cB 6000 t_bytes, oB (r2 0) 1 [.ref (r2 1), .ref (r2 2), .ref (r2 3), .ref (r2 5), .ref (r2 7), .int h_columns, .int h_rows, .int h_limit], oB (r2 3) 5 [.ref (r2 4), .int h_h1_nodeCount, .int h_h1_tokenCount, .int h_h1_root], aI (r2 4) cI 88 h_h1_branches, oB (r2 5) 5 [.ref (r2 6), .int h_h2_nodeCount, .int h_h2_tokenCount, .int h_h2_root], aI (r2 6) cI 88 h_h2_branches, aI (r2 7) cI 36 h_order] [rowsW cI r0 f_grid_73]) H81 := hP84
              have hD84 : va_D A (wf [oB (r0 0) 0 [.ref (r0 1), .ref (r0 2), .ref (r0 3), .ref (r0 4), .ref (r0 5), .ref (r0 6), .int y_1, .int y_6, .int y_36, .int f_toEnd_71, .int k0_26, .int k0_51], aI (r0 1) cI 36 f_modes_58, aI (r0 2) cI 36 f_across_59, aI (r0 3) cI 36 f_down_60, aQ (r0 4) cQ r0, aI (r0 5) cI 36 f_places_72, aI (r0 6) cI 5 f_latestOfKind, oB (r1 0) 4 [.ref (r1 1), .int t_size, .int t_position_74, .int t_fault_75], aI (r1 1) cB 6000 t_bytes, oB (r2 0) 1 [.ref (r2 1), .ref (r2 2), .ref (r2 3), .ref (r2 5), .ref (r2 7), .int h_columns, .int h_rows, .int h_limit], oB (r2 3) 5 [.ref (r2 4), .int h_h1_nodeCount, .int h_h1_tokenCount, .int h_h1_root], aI (r2 4) cI 88 h_h1_branches, oB (r2 5) 5 [.ref (r2 6), .int h_h2_nodeCount, .int h_h2_tokenCount, .int h_h2_root], aI (r2 6) cI 88 h_h2_branches, aI (r2 7) cI 36 h_order] [rowsW cI r0 f_grid_73]) := hD84
              obtain rfl := Option.some.inj hm83
              rw [hQ]
              exact ct_vret hx hb hr hlk hP84 hD84 hS84 dX0_read_122
            · have hm85 := bq_f hm79 hc82; clear hm79
              refine lv_aload_n hx hb dX0_read_118 rfl (lv_at hl76 0 rfl) ?_
              obtain ⟨f_latestOfKind_86, f_grid_87, hcl88, hm88⟩ := bd2_some hm85; clear hm85
              have sb89 := ctS.mk (pre := [aI (r0 5) cI 36 f_places_72, aI (r0 6) cI 5 f_latestOfKind, oB (r2 3) 5 [.ref (r2 4), .int h_h1_nodeCount, .int h_h1_tokenCount, .int h_h1_root], aI (r2 4) cI 88 h_h1_branches, oB (r2 5) 5 [.ref (r2 6), .int h_h2_nodeCount, .int h_h2_tokenCount, .int h_h2_root], aI (r2 6) cI 88 h_h2_branches, aI (r2 7) cI 36 h_order, oB (r2 0) 1 [.ref (r2 1), .ref (r2 2), .ref (r2 3), .ref (r2 5), .ref (r2 7), .int h_columns, .int h_rows, .int h_limit], oB (r0 0) 0 [.ref (r0 1), .ref (r0 2), .ref (r0 3), .ref (r0 4), .ref (r0 5), .ref (r0 6), .int y_1, .int y_6, .int y_36, .int f_toEnd_71, .int k0_26, .int k0_51], aI (r0 1) cI 36 f_modes_58, aI (r0 2) cI 36 f_across_59, aI (r0 3) cI 36 f_down_60, aQ (r0 4) cQ r0, aI (r1 1) cB 6000 t_bytes, oB (r1 0) 4 [.ref (r1 1), .int t_size, .int t_position_74, .int t_fault_75]]) (tl := [rowsW cI r0 f_grid_73]) [8, 9, 12, 1] [0, 2, 3, 4, 5, 6, 7, 10, 11, 13, 14] [0] [] rfl rfl rfl rfl
              refine ct_callv E sb89 hP81 hD81 hS81 (va_runV (As := []) (rest := []) ⟨hx, hb, hml, hown, hts⟩ (c_X0_addGuesses l D cB cI cJ cQ N r0 H81.size y_1 y_6 y_36 f_toEnd_71 k0_26 k0_51 f_modes_58 f_latestOfKind f_grid_73 (f_latestOfKind_86, f_grid_87) hcl88) (cwV 0 hts gX0_read_X0_addGuesses rfl rfl rfl cdV_X0_addGuesses ⟨Nat.le_of_ble_eq_true rfl, Nat.le_of_ble_eq_true rfl⟩) (ct_preV (q0 := 8) (ci := 0) E sb89 hP81 hD81 hS81 rfl rfl) rfl rfl hl76.1 rfl (lv_room (Nat.le_of_ble_eq_true rfl)) dX0_read_119 ⟨Nat.zero_le _, Nat.zero_le _⟩) (fun H90 lc90 hP90 hD90 hS90 => ?_); clear sb89 hcl88
              clear hP81 hD81 hS81
              have hP90 : va_P D vwCl (wf [aI (r0 5) cI 36 f_places_72, oB (r2 3) 5 [.ref (r2 4), .int h_h1_nodeCount, .int h_h1_tokenCount, .int h_h1_root], aI (r2 4) cI 88 h_h1_branches, oB (r2 5) 5 [.ref (r2 6), .int h_h2_nodeCount, .int h_h2_tokenCount, .int h_h2_root], aI (r2 6) cI 88 h_h2_branches, aI (r2 7) cI 36 h_order, oB (r2 0) 1 [.ref (r2 1), .ref (r2 2), .ref (r2 3), .ref (r2 5), .ref (r2 7), .int h_columns, .int h_rows, .int h_limit], aI (r0 2) cI 36 f_across_59, aI (r0 3) cI 36 f_down_60, aI (r1 1) cB 6000 t_bytes, oB (r1 0) 4 [.ref (r1 1), .int t_size, .int t_position_74, .int t_fault_75], oB (r0 0) 0 [.ref (r0 1), .ref (r0 2), .ref (r0 3), .ref (r0 4), .ref (r0 5), .ref (r0 6), .int y_1, .int y_6, .int y_36, .int f_toEnd_71, .int k0_26, .int k0_51], aI (r0 1) cI 36 f_modes_58, aQ (r0 4) cQ r0, aI (r0 6) cI 5 f_latestOfKind_86] [rowsW cI r0 f_grid_87]) H90 := hP90
              have hD90 : va_D A (wf [aI (r0 5) cI 36 f_places_72, oB (r2 3) 5 [.ref (r2 4), .int h_h1_nodeCount, .int h_h1_tokenCount, .int h_h1_root], aI (r2 4) cI 88 h_h1_branches, oB (r2 5) 5 [.ref (r2 6), .int h_h2_nodeCount, .int h_h2_tokenCount, .int h_h2_root], aI (r2 6) cI 88 h_h2_branches, aI (r2 7) cI 36 h_order, oB (r2 0) 1 [.ref (r2 1), .ref (r2 2), .ref (r2 3), .ref (r2 5), .ref (r2 7), .int h_columns, .int h_rows, .int h_limit], aI (r0 2) cI 36 f_across_59, aI (r0 3) cI 36 f_down_60, aI (r1 1) cB 6000 t_bytes, oB (r1 0) 4 [.ref (r1 1), .int t_size, .int t_position_74, .int t_fault_75], oB (r0 0) 0 [.ref (r0 1), .ref (r0 2), .ref (r0 3), .ref (r0 4), .ref (r0 5), .ref (r0 6), .int y_1, .int y_6, .int y_36, .int f_toEnd_71, .int k0_26, .int k0_51], aI (r0 1) cI 36 f_modes_58, aQ (r0 4) cQ r0, aI (r0 6) cI 5 f_latestOfKind_86] [rowsW cI r0 f_grid_87]) := hD90
              obtain ⟨hP91, hD91⟩ := ct_ord [11, 12, 7, 8, 13, 0, 14, 10, 9, 6, 1, 2, 3, 4, 5] [0] hP90 hD90 rfl rfl rfl rfl
              have hS91 := hS90
              have hP91 : va_P D vwCl (wf [oB (r0 0) 0 [.ref (r0 1), .ref (r0 2), .ref (r0 3), .ref (r0 4), .ref (r0 5), .ref (r0 6), .int y_1, .int y_6, .int y_36, .int f_toEnd_71, .int k0_26, .int k0_51], aI (r0 1) cI 36 f_modes_58, aI (r0 2) cI 36 f_across_59, aI (r0 3) cI 36 f_down_60, aQ (r0 4) cQ r0, aI (r0 5) cI 36 f_places_72, aI (r0 6) cI 5 f_latestOfKind_86, oB (r1 0) 4 [.ref (r1 1), .int t_size, .int t_position_74, .int t_fault_75], aI (r1 1) cB 6000 t_bytes, oB (r2 0) 1 [.ref (r2 1), .ref (r2 2), .ref (r2 3), .ref (r2 5), .ref (r2 7), .int h_columns, .int h_rows, .int h_limit], oB (r2 3) 5 [.ref (r2 4), .int h_h1_nodeCount, .int h_h1_tokenCount, .int h_h1_root], aI (r2 4) cI 88 h_h1_branches, oB (r2 5) 5 [.ref (r2 6), .int h_h2_nodeCount, .int h_h2_tokenCount, .int h_h2_root], aI (r2 6) cI 88 h_h2_branches, aI (r2 7) cI 36 h_order] [rowsW cI r0 f_grid_87]) H90 := hP91
              have hD91 : va_D A (wf [oB (r0 0) 0 [.ref (r0 1), .ref (r0 2), .ref (r0 3), .ref (r0 4), .ref (r0 5), .ref (r0 6), .int y_1, .int y_6, .int y_36, .int f_toEnd_71, .int k0_26, .int k0_51], aI (r0 1) cI 36 f_modes_58, aI (r0 2) cI 36 f_across_59, aI (r0 3) cI 36 f_down_60, aQ (r0 4) cQ r0, aI (r0 5) cI 36 f_places_72, aI (r0 6) cI 5 f_latestOfKind_86, oB (r1 0) 4 [.ref (r1 1), .int t_size, .int t_position_74, .int t_fault_75], aI (r1 1) cB 6000 t_bytes, oB (r2 0) 1 [.ref (r2 1), .ref (r2 2), .ref (r2 3), .ref (r2 5), .ref (r2 7), .int h_columns, .int h_rows, .int h_limit], oB (r2 3) 5 [.ref (r2 4), .int h_h1_nodeCount, .int h_h1_tokenCount, .int h_h1_root], aI (r2 4) cI 88 h_h1_branches, oB (r2 5) 5 [.ref (r2 6), .int h_h2_nodeCount, .int h_h2_tokenCount, .int h_h2_root], aI (r2 6) cI 88 h_h2_branches, aI (r2 7) cI 36 h_order] [rowsW cI r0 f_grid_87]) := hD91
              obtain rfl := Option.some.inj hm88
              rw [hQ]
              exact ct_vret hx hb hr hlk hP91 hD91 hS91 dX0_read_122
          refine lv_if_eq (tgt := 111) hx hb dX0_read_102 (by decide) (fun hc92 => ?_) (fun hc92 => ?_)
          · have hm93 := bq_t hm70 hc92; clear hm70
            exact KJ70 f_toEnd f_places f_grid_14 t_position_61 t_fault_62 _ _ _ hm93 hP68 hD68 hS68 (lv_sub hl63 [0, 1] rfl)
          · have hm94 := bq_f hm70 hc92; clear hm70
            refine lv_aload_n hx hb dX0_read_105 rfl (lv_at hl63 0 rfl) ?_
            refine lv_aload_n hx hb dX0_read_106 rfl (lv_at hl63 1 rfl) ?_
            refine lv_aload_n hx hb dX0_read_107 rfl (lv_at hl63 2 rfl) ?_
            obtain ⟨f_toEnd_95, f_places_96, f_grid_97, t_position_98, t_fault_99, hcl100, hm100⟩ := bd5_some hm94; clear hm94
            have sb101 := ctS.mk (pre := [aI (r0 5) cI 36 f_places, aI (r0 6) cI 5 f_latestOfKind, oB (r2 3) 5 [.ref (r2 4), .int h_h1_nodeCount, .int h_h1_tokenCount, .int h_h1_root], aI (r2 4) cI 88 h_h1_branches, oB (r2 5) 5 [.ref (r2 6), .int h_h2_nodeCount, .int h_h2_tokenCount, .int h_h2_root], aI (r2 6) cI 88 h_h2_branches, aI (r2 7) cI 36 h_order, oB (r2 0) 1 [.ref (r2 1), .ref (r2 2), .ref (r2 3), .ref (r2 5), .ref (r2 7), .int h_columns, .int h_rows, .int h_limit], oB (r0 0) 0 [.ref (r0 1), .ref (r0 2), .ref (r0 3), .ref (r0 4), .ref (r0 5), .ref (r0 6), .int y_1, .int y_6, .int y_36, .int f_toEnd, .int k0_26, .int k0_51], aI (r0 1) cI 36 f_modes_58, aI (r0 2) cI 36 f_across_59, aI (r0 3) cI 36 f_down_60, aQ (r0 4) cQ r0, aI (r1 1) cB 6000 t_bytes, oB (r1 0) 4 [.ref (r1 1), .int t_size, .int t_position_61, .int t_fault_62]]) (tl := [rowsW cI r0 f_grid_14]) [8, 9, 12, 0, 14, 13, 7, 2, 3, 4, 5, 6] [1, 10, 11] [0] [] rfl rfl rfl rfl
            refine ct_callv E sb101 hP68 hD68 hS68 (va_runV (As := [.ref (r1 0), .ref (r2 0)]) (rest := []) ⟨hx, hb, hml, hown, hts⟩ (c_X0_readTokens l D cB cI cJ cQ N r0 r1 r2 H68.size y_1 y_6 y_36 f_toEnd k0_26 k0_51 f_modes_58 f_places t_size t_position_61 t_fault_62 t_bytes h_columns h_rows h_limit h_h1_nodeCount h_h1_tokenCount h_h1_root h_h1_branches h_h2_nodeCount h_h2_tokenCount h_h2_root h_h2_branches h_order f_grid_14 (f_toEnd_95, f_places_96, f_grid_97, t_position_98, t_fault_99) hcl100) (cwV 2 hts gX0_read_X0_readTokens rfl rfl rfl cdV_X0_readTokens ⟨Nat.le_of_ble_eq_true rfl, Nat.le_of_ble_eq_true rfl⟩) (ct_preV (q0 := 8) (ci := 0) E sb101 hP68 hD68 hS68 rfl rfl) rfl rfl hl63.1 rfl (lv_room (Nat.le_of_ble_eq_true rfl)) dX0_read_108 ⟨Nat.zero_le _, Nat.zero_le _⟩) (fun H102 lc102 hP102 hD102 hS102 => ?_); clear sb101 hcl100
            clear hP68 hD68 hS68
            have hP102 : va_P D vwCl (wf [aI (r0 6) cI 5 f_latestOfKind, aI (r0 2) cI 36 f_across_59, aI (r0 3) cI 36 f_down_60, oB (r0 0) 0 [.ref (r0 1), .ref (r0 2), .ref (r0 3), .ref (r0 4), .ref (r0 5), .ref (r0 6), .int y_1, .int y_6, .int y_36, .int f_toEnd_95, .int k0_26, .int k0_51], aI (r0 1) cI 36 f_modes_58, aQ (r0 4) cQ r0, aI (r0 5) cI 36 f_places_96, oB (r1 0) 4 [.ref (r1 1), .int t_size, .int t_position_98, .int t_fault_99], aI (r1 1) cB 6000 t_bytes, oB (r2 0) 1 [.ref (r2 1), .ref (r2 2), .ref (r2 3), .ref (r2 5), .ref (r2 7), .int h_columns, .int h_rows, .int h_limit], oB (r2 3) 5 [.ref (r2 4), .int h_h1_nodeCount, .int h_h1_tokenCount, .int h_h1_root], aI (r2 4) cI 88 h_h1_branches, oB (r2 5) 5 [.ref (r2 6), .int h_h2_nodeCount, .int h_h2_tokenCount, .int h_h2_root], aI (r2 6) cI 88 h_h2_branches, aI (r2 7) cI 36 h_order] [rowsW cI r0 f_grid_97]) H102 := hP102
            have hD102 : va_D A (wf [aI (r0 6) cI 5 f_latestOfKind, aI (r0 2) cI 36 f_across_59, aI (r0 3) cI 36 f_down_60, oB (r0 0) 0 [.ref (r0 1), .ref (r0 2), .ref (r0 3), .ref (r0 4), .ref (r0 5), .ref (r0 6), .int y_1, .int y_6, .int y_36, .int f_toEnd_95, .int k0_26, .int k0_51], aI (r0 1) cI 36 f_modes_58, aQ (r0 4) cQ r0, aI (r0 5) cI 36 f_places_96, oB (r1 0) 4 [.ref (r1 1), .int t_size, .int t_position_98, .int t_fault_99], aI (r1 1) cB 6000 t_bytes, oB (r2 0) 1 [.ref (r2 1), .ref (r2 2), .ref (r2 3), .ref (r2 5), .ref (r2 7), .int h_columns, .int h_rows, .int h_limit], oB (r2 3) 5 [.ref (r2 4), .int h_h1_nodeCount, .int h_h1_tokenCount, .int h_h1_root], aI (r2 4) cI 88 h_h1_branches, oB (r2 5) 5 [.ref (r2 6), .int h_h2_nodeCount, .int h_h2_tokenCount, .int h_h2_root], aI (r2 6) cI 88 h_h2_branches, aI (r2 7) cI 36 h_order] [rowsW cI r0 f_grid_97]) := hD102
            obtain ⟨hP103, hD103⟩ := ct_ord [6, 0, 10, 11, 12, 13, 14, 9, 3, 4, 1, 2, 5, 8, 7] [0] hP102 hD102 rfl rfl rfl rfl
            have hS103 := hS102
            have hP103 : va_P D vwCl (wf [aI (r0 5) cI 36 f_places_96, aI (r0 6) cI 5 f_latestOfKind, oB (r2 3) 5 [.ref (r2 4), .int h_h1_nodeCount, .int h_h1_tokenCount, .int h_h1_root], aI (r2 4) cI 88 h_h1_branches, oB (r2 5) 5 [.ref (r2 6), .int h_h2_nodeCount, .int h_h2_tokenCount, .int h_h2_root], aI (r2 6) cI 88 h_h2_branches, aI (r2 7) cI 36 h_order, oB (r2 0) 1 [.ref (r2 1), .ref (r2 2), .ref (r2 3), .ref (r2 5), .ref (r2 7), .int h_columns, .int h_rows, .int h_limit], oB (r0 0) 0 [.ref (r0 1), .ref (r0 2), .ref (r0 3), .ref (r0 4), .ref (r0 5), .ref (r0 6), .int y_1, .int y_6, .int y_36, .int f_toEnd_95, .int k0_26, .int k0_51], aI (r0 1) cI 36 f_modes_58, aI (r0 2) cI 36 f_across_59, aI (r0 3) cI 36 f_down_60, aQ (r0 4) cQ r0, aI (r1 1) cB 6000 t_bytes, oB (r1 0) 4 [.ref (r1 1), .int t_size, .int t_position_98, .int t_fault_99]] [rowsW cI r0 f_grid_97]) H102 := hP103
            have hD103 : va_D A (wf [aI (r0 5) cI 36 f_places_96, aI (r0 6) cI 5 f_latestOfKind, oB (r2 3) 5 [.ref (r2 4), .int h_h1_nodeCount, .int h_h1_tokenCount, .int h_h1_root], aI (r2 4) cI 88 h_h1_branches, oB (r2 5) 5 [.ref (r2 6), .int h_h2_nodeCount, .int h_h2_tokenCount, .int h_h2_root], aI (r2 6) cI 88 h_h2_branches, aI (r2 7) cI 36 h_order, oB (r2 0) 1 [.ref (r2 1), .ref (r2 2), .ref (r2 3), .ref (r2 5), .ref (r2 7), .int h_columns, .int h_rows, .int h_limit], oB (r0 0) 0 [.ref (r0 1), .ref (r0 2), .ref (r0 3), .ref (r0 4), .ref (r0 5), .ref (r0 6), .int y_1, .int y_6, .int y_36, .int f_toEnd_95, .int k0_26, .int k0_51], aI (r0 1) cI 36 f_modes_58, aI (r0 2) cI 36 f_across_59, aI (r0 3) cI 36 f_down_60, aQ (r0 4) cQ r0, aI (r1 1) cB 6000 t_bytes, oB (r1 0) 4 [.ref (r1 1), .int t_size, .int t_position_98, .int t_fault_99]] [rowsW cI r0 f_grid_97]) := hD103
            exact KJ70 f_toEnd_95 f_places_96 f_grid_97 t_position_98 t_fault_99 _ _ _ hm100 hP103 hD103 hS103 (lv_sub hl63 [0, 1] rfl)
        refine lv_if_eq (tgt := 98) hx hb dX0_read_83 (by decide) (fun hc104 => ?_) (fun hc104 => ?_)
        · have hm105 := bq_t hm57 hc104; clear hm57
          exact KJ57 f_modes_11 f_across_12 f_down_13 t_position_44 t_fault_45 _ _ _ hm105 hP55 hD55 hS55 (lv_sub hl52 [0, 1, 2] rfl)
        · have hm106 := bq_f hm57 hc104; clear hm57
          refine lv_aload_n hx hb dX0_read_86 rfl (lv_at hl52 0 rfl) ?_
          refine lv_aload_n hx hb dX0_read_87 rfl (lv_at hl52 1 rfl) ?_
          refine lv_aload_n hx hb dX0_read_88 rfl (lv_at hl52 2 rfl) ?_
          obtain ⟨f_modes_107, t_position_108, t_fault_109, hcl110, hm110⟩ := bd3_some hm106; clear hm106
          have sb111 := ctS.mk (pre := [aI (r0 5) cI 36 f_places, aI (r0 6) cI 5 f_latestOfKind, oB (r2 3) 5 [.ref (r2 4), .int h_h1_nodeCount, .int h_h1_tokenCount, .int h_h1_root], aI (r2 4) cI 88 h_h1_branches, oB (r2 5) 5 [.ref (r2 6), .int h_h2_nodeCount, .int h_h2_tokenCount, .int h_h2_root], aI (r2 6) cI 88 h_h2_branches, aI (r2 7) cI 36 h_order, oB (r2 0) 1 [.ref (r2 1), .ref (r2 2), .ref (r2 3), .ref (r2 5), .ref (r2 7), .int h_columns, .int h_rows, .int h_limit], oB (r0 0) 0 [.ref (r0 1), .ref (r0 2), .ref (r0 3), .ref (r0 4), .ref (r0 5), .ref (r0 6), .int y_1, .int y_6, .int y_36, .int f_toEnd, .int k0_26, .int k0_51], aI (r0 1) cI 36 f_modes_11, aI (r0 2) cI 36 f_across_12, aI (r0 3) cI 36 f_down_13, aQ (r0 4) cQ r0, oB (r1 0) 4 [.ref (r1 1), .int t_size, .int t_position_44, .int t_fault_45], aI (r1 1) cB 6000 t_bytes]) (tl := [rowsW cI r0 f_grid_14]) [8, 9, 13, 14, 7, 6] [0, 1, 2, 3, 4, 5, 10, 11, 12] [] [0] rfl rfl rfl rfl
          refine ct_callv E sb111 hP55 hD55 hS55 (va_runV (As := [.ref (r1 0), .ref (r2 0)]) (rest := []) ⟨hx, hb, hml, hown, hts⟩ (c_X0_readFlags l D cB cI cJ cQ N r0 r1 r2 H55.size y_1 y_6 y_36 f_toEnd k0_26 k0_51 f_modes_11 t_size t_position_44 t_fault_45 t_bytes h_columns h_rows h_limit h_order (f_modes_107, t_position_108, t_fault_109) hcl110) (cwV 2 hts gX0_read_X0_readFlags rfl rfl rfl cdV_X0_readFlags ⟨Nat.le_of_ble_eq_true rfl, Nat.le_of_ble_eq_true rfl⟩) (ct_preV (q0 := 8) (ci := 0) E sb111 hP55 hD55 hS55 rfl rfl) rfl rfl hl52.1 rfl (lv_room (Nat.le_of_ble_eq_true rfl)) dX0_read_89 ⟨Nat.zero_le _, Nat.zero_le _⟩) (fun H112 lc112 hP112 hD112 hS112 => ?_); clear sb111 hcl110
          clear hP55 hD55 hS55
          have hP112 : va_P D vwCl (wf [aI (r0 5) cI 36 f_places, aI (r0 6) cI 5 f_latestOfKind, oB (r2 3) 5 [.ref (r2 4), .int h_h1_nodeCount, .int h_h1_tokenCount, .int h_h1_root], aI (r2 4) cI 88 h_h1_branches, oB (r2 5) 5 [.ref (r2 6), .int h_h2_nodeCount, .int h_h2_tokenCount, .int h_h2_root], aI (r2 6) cI 88 h_h2_branches, aI (r0 2) cI 36 f_across_12, aI (r0 3) cI 36 f_down_13, aQ (r0 4) cQ r0, oB (r0 0) 0 [.ref (r0 1), .ref (r0 2), .ref (r0 3), .ref (r0 4), .ref (r0 5), .ref (r0 6), .int y_1, .int y_6, .int y_36, .int f_toEnd, .int k0_26, .int k0_51], aI (r0 1) cI 36 f_modes_107, oB (r1 0) 4 [.ref (r1 1), .int t_size, .int t_position_108, .int t_fault_109], aI (r1 1) cB 6000 t_bytes, oB (r2 0) 1 [.ref (r2 1), .ref (r2 2), .ref (r2 3), .ref (r2 5), .ref (r2 7), .int h_columns, .int h_rows, .int h_limit], aI (r2 7) cI 36 h_order] [rowsW cI r0 f_grid_14]) H112 := hP112
          have hD112 : va_D A (wf [aI (r0 5) cI 36 f_places, aI (r0 6) cI 5 f_latestOfKind, oB (r2 3) 5 [.ref (r2 4), .int h_h1_nodeCount, .int h_h1_tokenCount, .int h_h1_root], aI (r2 4) cI 88 h_h1_branches, oB (r2 5) 5 [.ref (r2 6), .int h_h2_nodeCount, .int h_h2_tokenCount, .int h_h2_root], aI (r2 6) cI 88 h_h2_branches, aI (r0 2) cI 36 f_across_12, aI (r0 3) cI 36 f_down_13, aQ (r0 4) cQ r0, oB (r0 0) 0 [.ref (r0 1), .ref (r0 2), .ref (r0 3), .ref (r0 4), .ref (r0 5), .ref (r0 6), .int y_1, .int y_6, .int y_36, .int f_toEnd, .int k0_26, .int k0_51], aI (r0 1) cI 36 f_modes_107, oB (r1 0) 4 [.ref (r1 1), .int t_size, .int t_position_108, .int t_fault_109], aI (r1 1) cB 6000 t_bytes, oB (r2 0) 1 [.ref (r2 1), .ref (r2 2), .ref (r2 3), .ref (r2 5), .ref (r2 7), .int h_columns, .int h_rows, .int h_limit], aI (r2 7) cI 36 h_order] [rowsW cI r0 f_grid_14]) := hD112
          refine lv_aload_n hx hb dX0_read_92 rfl (lv_at hl52 0 rfl) ?_
          refine lv_aload_n hx hb dX0_read_93 rfl (lv_at hl52 1 rfl) ?_
          refine lv_aload_n hx hb dX0_read_94 rfl (lv_at hl52 2 rfl) ?_
          obtain ⟨f_modes_113, f_across_114, f_down_115, t_position_116, t_fault_117, hcl118, hm118⟩ := bd5_some hm110; clear hm110
          have sb119 := ctS.mk (pre := [aI (r0 5) cI 36 f_places, aI (r0 6) cI 5 f_latestOfKind, oB (r2 3) 5 [.ref (r2 4), .int h_h1_nodeCount, .int h_h1_tokenCount, .int h_h1_root], aI (r2 4) cI 88 h_h1_branches, oB (r2 5) 5 [.ref (r2 6), .int h_h2_nodeCount, .int h_h2_tokenCount, .int h_h2_root], aI (r2 6) cI 88 h_h2_branches, aI (r0 2) cI 36 f_across_12, aI (r0 3) cI 36 f_down_13, aQ (r0 4) cQ r0, oB (r0 0) 0 [.ref (r0 1), .ref (r0 2), .ref (r0 3), .ref (r0 4), .ref (r0 5), .ref (r0 6), .int y_1, .int y_6, .int y_36, .int f_toEnd, .int k0_26, .int k0_51], aI (r0 1) cI 36 f_modes_107, oB (r1 0) 4 [.ref (r1 1), .int t_size, .int t_position_108, .int t_fault_109], aI (r1 1) cB 6000 t_bytes, oB (r2 0) 1 [.ref (r2 1), .ref (r2 2), .ref (r2 3), .ref (r2 5), .ref (r2 7), .int h_columns, .int h_rows, .int h_limit], aI (r2 7) cI 36 h_order]) (tl := [rowsW cI r0 f_grid_14]) [9, 10, 6, 7, 11, 12, 13, 14] [0, 1, 2, 3, 4, 5, 8] [] [0] rfl rfl rfl rfl
          refine ct_callv E sb119 hP112 hD112 hS112 (va_runV (As := [.ref (r1 0), .ref (r2 0)]) (rest := []) ⟨hx, hb, hml, hown, hts⟩ (c_X0_readModes l D cB cI cJ cQ N r0 r1 r2 H112.size y_1 y_6 y_36 f_toEnd k0_26 k0_51 f_modes_107 f_across_12 f_down_13 t_size t_position_108 t_fault_109 t_bytes h_columns h_rows h_limit h_order (f_modes_113, f_across_114, f_down_115, t_position_116, t_fault_117) hcl118) (cwV 2 hts gX0_read_X0_readModes rfl rfl rfl cdV_X0_readModes ⟨Nat.le_of_ble_eq_true rfl, Nat.le_of_ble_eq_true rfl⟩) (ct_preV (q0 := 9) (ci := 0) E sb119 hP112 hD112 hS112 rfl rfl) rfl rfl hl52.1 rfl (lv_room (Nat.le_of_ble_eq_true rfl)) dX0_read_95 ⟨Nat.zero_le _, Nat.zero_le _⟩) (fun H120 lc120 hP120 hD120 hS120 => ?_); clear sb119 hcl118
          clear hP112 hD112 hS112
          have hP120 : va_P D vwCl (wf [aI (r0 5) cI 36 f_places, aI (r0 6) cI 5 f_latestOfKind, oB (r2 3) 5 [.ref (r2 4), .int h_h1_nodeCount, .int h_h1_tokenCount, .int h_h1_root], aI (r2 4) cI 88 h_h1_branches, oB (r2 5) 5 [.ref (r2 6), .int h_h2_nodeCount, .int h_h2_tokenCount, .int h_h2_root], aI (r2 6) cI 88 h_h2_branches, aQ (r0 4) cQ r0, oB (r0 0) 0 [.ref (r0 1), .ref (r0 2), .ref (r0 3), .ref (r0 4), .ref (r0 5), .ref (r0 6), .int y_1, .int y_6, .int y_36, .int f_toEnd, .int k0_26, .int k0_51], aI (r0 1) cI 36 f_modes_113, aI (r0 2) cI 36 f_across_114, aI (r0 3) cI 36 f_down_115, oB (r1 0) 4 [.ref (r1 1), .int t_size, .int t_position_116, .int t_fault_117], aI (r1 1) cB 6000 t_bytes, oB (r2 0) 1 [.ref (r2 1), .ref (r2 2), .ref (r2 3), .ref (r2 5), .ref (r2 7), .int h_columns, .int h_rows, .int h_limit], aI (r2 7) cI 36 h_order] [rowsW cI r0 f_grid_14]) H120 := hP120
          have hD120 : va_D A (wf [aI (r0 5) cI 36 f_places, aI (r0 6) cI 5 f_latestOfKind, oB (r2 3) 5 [.ref (r2 4), .int h_h1_nodeCount, .int h_h1_tokenCount, .int h_h1_root], aI (r2 4) cI 88 h_h1_branches, oB (r2 5) 5 [.ref (r2 6), .int h_h2_nodeCount, .int h_h2_tokenCount, .int h_h2_root], aI (r2 6) cI 88 h_h2_branches, aQ (r0 4) cQ r0, oB (r0 0) 0 [.ref (r0 1), .ref (r0 2), .ref (r0 3), .ref (r0 4), .ref (r0 5), .ref (r0 6), .int y_1, .int y_6, .int y_36, .int f_toEnd, .int k0_26, .int k0_51], aI (r0 1) cI 36 f_modes_113, aI (r0 2) cI 36 f_across_114, aI (r0 3) cI 36 f_down_115, oB (r1 0) 4 [.ref (r1 1), .int t_size, .int t_position_116, .int t_fault_117], aI (r1 1) cB 6000 t_bytes, oB (r2 0) 1 [.ref (r2 1), .ref (r2 2), .ref (r2 3), .ref (r2 5), .ref (r2 7), .int h_columns, .int h_rows, .int h_limit], aI (r2 7) cI 36 h_order] [rowsW cI r0 f_grid_14]) := hD120
          obtain ⟨hP121, hD121⟩ := ct_ord [0, 1, 2, 3, 4, 5, 14, 13, 7, 8, 9, 10, 6, 11, 12] [0] hP120 hD120 rfl rfl rfl rfl
          have hS121 := hS120
          have hP121 : va_P D vwCl (wf [aI (r0 5) cI 36 f_places, aI (r0 6) cI 5 f_latestOfKind, oB (r2 3) 5 [.ref (r2 4), .int h_h1_nodeCount, .int h_h1_tokenCount, .int h_h1_root], aI (r2 4) cI 88 h_h1_branches, oB (r2 5) 5 [.ref (r2 6), .int h_h2_nodeCount, .int h_h2_tokenCount, .int h_h2_root], aI (r2 6) cI 88 h_h2_branches, aI (r2 7) cI 36 h_order, oB (r2 0) 1 [.ref (r2 1), .ref (r2 2), .ref (r2 3), .ref (r2 5), .ref (r2 7), .int h_columns, .int h_rows, .int h_limit], oB (r0 0) 0 [.ref (r0 1), .ref (r0 2), .ref (r0 3), .ref (r0 4), .ref (r0 5), .ref (r0 6), .int y_1, .int y_6, .int y_36, .int f_toEnd, .int k0_26, .int k0_51], aI (r0 1) cI 36 f_modes_113, aI (r0 2) cI 36 f_across_114, aI (r0 3) cI 36 f_down_115, aQ (r0 4) cQ r0, oB (r1 0) 4 [.ref (r1 1), .int t_size, .int t_position_116, .int t_fault_117], aI (r1 1) cB 6000 t_bytes] [rowsW cI r0 f_grid_14]) H120 := hP121
          have hD121 : va_D A (wf [aI (r0 5) cI 36 f_places, aI (r0 6) cI 5 f_latestOfKind, oB (r2 3) 5 [.ref (r2 4), .int h_h1_nodeCount, .int h_h1_tokenCount, .int h_h1_root], aI (r2 4) cI 88 h_h1_branches, oB (r2 5) 5 [.ref (r2 6), .int h_h2_nodeCount, .int h_h2_tokenCount, .int h_h2_root], aI (r2 6) cI 88 h_h2_branches, aI (r2 7) cI 36 h_order, oB (r2 0) 1 [.ref (r2 1), .ref (r2 2), .ref (r2 3), .ref (r2 5), .ref (r2 7), .int h_columns, .int h_rows, .int h_limit], oB (r0 0) 0 [.ref (r0 1), .ref (r0 2), .ref (r0 3), .ref (r0 4), .ref (r0 5), .ref (r0 6), .int y_1, .int y_6, .int y_36, .int f_toEnd, .int k0_26, .int k0_51], aI (r0 1) cI 36 f_modes_113, aI (r0 2) cI 36 f_across_114, aI (r0 3) cI 36 f_down_115, aQ (r0 4) cQ r0, oB (r1 0) 4 [.ref (r1 1), .int t_size, .int t_position_116, .int t_fault_117], aI (r1 1) cB 6000 t_bytes] [rowsW cI r0 f_grid_14]) := hD121
          exact KJ57 f_modes_113 f_across_114 f_down_115 t_position_116 t_fault_117 _ _ _ hm118 hP121 hD121 hS121 (lv_sub hl52 [0, 1, 2] rfl)
      refine lv_icmp_ne (tgt := 75) hx hb dX0_read_68 (by decide) (fun hc122 => ?_) (fun hc122 => ?_)
      · have hm123 := bq_f hm50 hc122; clear hm50
        refine lv_iconst (v := 0) hx hb dX0_read_75 (by decide) ?_
        exact KJ50 (0 : Int32) _ _ _ hm123 hP48 hD48 hS48 (lv_sub hl34 [0, 1, 2] rfl)
      · have hm124 := bq_t hm50 hc122; clear hm50
        refine lv_iconst (v := 1) hx hb dX0_read_71 (by decide) ?_
        refine lv_goto (tgt := 76) hx hb dX0_read_72 (by decide) ?_
        exact KJ50 (1 : Int32) _ _ _ hm124 hP48 hD48 hS48 (lv_sub hl34 [0, 1, 2] rfl)
    refine lv_if_eq (tgt := 53) hx hb dX0_read_41 (by decide) (fun hc125 => ?_) (fun hc125 => ?_)
    · have hm126 := bq_t hm32 hc125; clear hm32
      exact KJ32 t_fault_20 _ _ _ hm126 hP30 hD30 hS30 (lv_sub hl27 [0, 1, 2] rfl)
    · have hm127 := bq_f hm32 hc125; clear hm32
      refine lv_iload_n hx hb dX0_read_44 rfl (lv_at hl27 3 rfl) ?_
      refine lv_if_ne (tgt := 53) hx hb dX0_read_45 (by decide) (fun hc128 => ?_) (fun hc128 => ?_)
      · have hm129 := bq_f hm127 hc128; clear hm127
        exact KJ32 t_fault_20 _ _ _ hm129 hP30 hD30 hS30 (lv_sub hl27 [0, 1, 2] rfl)
      · have hm130 := bq_t hm127 hc128; clear hm127
        refine lv_aload_n hx hb dX0_read_48 rfl (lv_at hl27 1 rfl) ?_
        refine lv_iconst (v := 4) hx hb dX0_read_49 (by decide) ?_
        obtain ⟨t_fault_131, hcl132, hm132⟩ := bd1_some hm130; clear hm130
        have sb133 := ctS.mk (pre := [aI (r0 5) cI 36 f_places, aI (r0 6) cI 5 f_latestOfKind, oB (r2 3) 5 [.ref (r2 4), .int h_h1_nodeCount, .int h_h1_tokenCount, .int h_h1_root], aI (r2 4) cI 88 h_h1_branches, oB (r2 5) 5 [.ref (r2 6), .int h_h2_nodeCount, .int h_h2_tokenCount, .int h_h2_root], aI (r2 6) cI 88 h_h2_branches, aI (r2 7) cI 36 h_order, oB (r2 0) 1 [.ref (r2 1), .ref (r2 2), .ref (r2 3), .ref (r2 5), .ref (r2 7), .int h_columns, .int h_rows, .int h_limit], oB (r0 0) 0 [.ref (r0 1), .ref (r0 2), .ref (r0 3), .ref (r0 4), .ref (r0 5), .ref (r0 6), .int y_1, .int y_6, .int f_scale, .int f_toEnd, .int k0_26, .int f_kept], aI (r0 1) cI 36 f_modes_11, aI (r0 2) cI 36 f_across_12, aI (r0 3) cI 36 f_down_13, aQ (r0 4) cQ r0, oB (r1 0) 4 [.ref (r1 1), .int t_size, .int t_position_19, .int t_fault_20], aI (r1 1) cB 6000 t_bytes]) (tl := [rowsW cI r0 f_grid_14]) [13] [0, 1, 2, 3, 4, 5, 6, 7, 8, 9, 10, 11, 12, 14] [] [0] rfl rfl rfl rfl
        refine ct_callv E sb133 hP30 hD30 hS30 (va_runV (As := [.int (4 : Int32)]) (rest := []) ⟨hx, hb, hml, hown, hts⟩ (c_X4_fail l D cB cI cJ cQ N r1 H30.size (4 : Int32) t_size t_position_19 t_fault_20 (t_fault_131) hcl132) (cwV 1 hts gX0_read_X4_fail rfl rfl rfl cdV_X4_fail ⟨Nat.le_of_ble_eq_true rfl, Nat.le_of_ble_eq_true rfl⟩) (ct_preV (q0 := 13) (ci := 4) E sb133 hP30 hD30 hS30 rfl rfl) rfl rfl hl27.1 rfl (lv_room (Nat.le_of_ble_eq_true rfl)) dX0_read_50 ⟨Nat.zero_le _, Nat.zero_le _⟩) (fun H134 lc134 hP134 hD134 hS134 => ?_); clear sb133 hcl132
        clear hP30 hD30 hS30
        have hP134 : va_P D vwCl (wf [aI (r0 5) cI 36 f_places, aI (r0 6) cI 5 f_latestOfKind, oB (r2 3) 5 [.ref (r2 4), .int h_h1_nodeCount, .int h_h1_tokenCount, .int h_h1_root], aI (r2 4) cI 88 h_h1_branches, oB (r2 5) 5 [.ref (r2 6), .int h_h2_nodeCount, .int h_h2_tokenCount, .int h_h2_root], aI (r2 6) cI 88 h_h2_branches, aI (r2 7) cI 36 h_order, oB (r2 0) 1 [.ref (r2 1), .ref (r2 2), .ref (r2 3), .ref (r2 5), .ref (r2 7), .int h_columns, .int h_rows, .int h_limit], oB (r0 0) 0 [.ref (r0 1), .ref (r0 2), .ref (r0 3), .ref (r0 4), .ref (r0 5), .ref (r0 6), .int y_1, .int y_6, .int f_scale, .int f_toEnd, .int k0_26, .int f_kept], aI (r0 1) cI 36 f_modes_11, aI (r0 2) cI 36 f_across_12, aI (r0 3) cI 36 f_down_13, aQ (r0 4) cQ r0, aI (r1 1) cB 6000 t_bytes, oB (r1 0) 4 [.ref (r1 1), .int t_size, .int t_position_19, .int t_fault_131]] [rowsW cI r0 f_grid_14]) H134 := hP134
        have hD134 : va_D A (wf [aI (r0 5) cI 36 f_places, aI (r0 6) cI 5 f_latestOfKind, oB (r2 3) 5 [.ref (r2 4), .int h_h1_nodeCount, .int h_h1_tokenCount, .int h_h1_root], aI (r2 4) cI 88 h_h1_branches, oB (r2 5) 5 [.ref (r2 6), .int h_h2_nodeCount, .int h_h2_tokenCount, .int h_h2_root], aI (r2 6) cI 88 h_h2_branches, aI (r2 7) cI 36 h_order, oB (r2 0) 1 [.ref (r2 1), .ref (r2 2), .ref (r2 3), .ref (r2 5), .ref (r2 7), .int h_columns, .int h_rows, .int h_limit], oB (r0 0) 0 [.ref (r0 1), .ref (r0 2), .ref (r0 3), .ref (r0 4), .ref (r0 5), .ref (r0 6), .int y_1, .int y_6, .int f_scale, .int f_toEnd, .int k0_26, .int f_kept], aI (r0 1) cI 36 f_modes_11, aI (r0 2) cI 36 f_across_12, aI (r0 3) cI 36 f_down_13, aQ (r0 4) cQ r0, aI (r1 1) cB 6000 t_bytes, oB (r1 0) 4 [.ref (r1 1), .int t_size, .int t_position_19, .int t_fault_131]] [rowsW cI r0 f_grid_14]) := hD134
        obtain ⟨hP135, hD135⟩ := ct_ord [0, 1, 2, 3, 4, 5, 6, 7, 8, 9, 10, 11, 12, 14, 13] [0] hP134 hD134 rfl rfl rfl rfl
        have hS135 := hS134
        have hP135 : va_P D vwCl (wf [aI (r0 5) cI 36 f_places, aI (r0 6) cI 5 f_latestOfKind, oB (r2 3) 5 [.ref (r2 4), .int h_h1_nodeCount, .int h_h1_tokenCount, .int h_h1_root], aI (r2 4) cI 88 h_h1_branches, oB (r2 5) 5 [.ref (r2 6), .int h_h2_nodeCount, .int h_h2_tokenCount, .int h_h2_root], aI (r2 6) cI 88 h_h2_branches, aI (r2 7) cI 36 h_order, oB (r2 0) 1 [.ref (r2 1), .ref (r2 2), .ref (r2 3), .ref (r2 5), .ref (r2 7), .int h_columns, .int h_rows, .int h_limit], oB (r0 0) 0 [.ref (r0 1), .ref (r0 2), .ref (r0 3), .ref (r0 4), .ref (r0 5), .ref (r0 6), .int y_1, .int y_6, .int f_scale, .int f_toEnd, .int k0_26, .int f_kept], aI (r0 1) cI 36 f_modes_11, aI (r0 2) cI 36 f_across_12, aI (r0 3) cI 36 f_down_13, aQ (r0 4) cQ r0, oB (r1 0) 4 [.ref (r1 1), .int t_size, .int t_position_19, .int t_fault_131], aI (r1 1) cB 6000 t_bytes] [rowsW cI r0 f_grid_14]) H134 := hP135
        have hD135 : va_D A (wf [aI (r0 5) cI 36 f_places, aI (r0 6) cI 5 f_latestOfKind, oB (r2 3) 5 [.ref (r2 4), .int h_h1_nodeCount, .int h_h1_tokenCount, .int h_h1_root], aI (r2 4) cI 88 h_h1_branches, oB (r2 5) 5 [.ref (r2 6), .int h_h2_nodeCount, .int h_h2_tokenCount, .int h_h2_root], aI (r2 6) cI 88 h_h2_branches, aI (r2 7) cI 36 h_order, oB (r2 0) 1 [.ref (r2 1), .ref (r2 2), .ref (r2 3), .ref (r2 5), .ref (r2 7), .int h_columns, .int h_rows, .int h_limit], oB (r0 0) 0 [.ref (r0 1), .ref (r0 2), .ref (r0 3), .ref (r0 4), .ref (r0 5), .ref (r0 6), .int y_1, .int y_6, .int f_scale, .int f_toEnd, .int k0_26, .int f_kept], aI (r0 1) cI 36 f_modes_11, aI (r0 2) cI 36 f_across_12, aI (r0 3) cI 36 f_down_13, aQ (r0 4) cQ r0, oB (r1 0) 4 [.ref (r1 1), .int t_size, .int t_position_19, .int t_fault_131], aI (r1 1) cB 6000 t_bytes] [rowsW cI r0 f_grid_14]) := hD135
        exact KJ32 t_fault_131 _ _ _ hm132 hP135 hD135 hS135 (lv_sub hl27 [0, 1, 2] rfl)
  refine lv_icmp_ne (tgt := 33) hx hb dX0_read_26 (by decide) (fun hc136 => ?_) (fun hc136 => ?_)
  · have hm137 := bq_f hm25 hc136; clear hm25
    refine lv_iconst (v := 0) hx hb dX0_read_33 (by decide) ?_
    exact KJ25 (0 : Int32) _ _ _ hm137 hP23 hD23 hS23 (lv_sub hl0 [0, 1, 2, 3] rfl)
  · have hm138 := bq_t hm25 hc136; clear hm25
    refine lv_iconst (v := 1) hx hb dX0_read_29 (by decide) ?_
    refine lv_goto (tgt := 34) hx hb dX0_read_30 (by decide) ?_
    exact KJ25 (1 : Int32) _ _ _ hm138 hP23 hD23 hS23 (lv_sub hl0 [0, 1, 2, 3] rfl)
