def f_X0_goOn (x3 : Int32) (f_toEnd : Int32) (f_places : Nat → Int32) (f_grid : Nat → Nat → Int32) (t_size : Int32) (t_position : Int32) (t_fault : Int32) (t_bytes : Nat → Int32) (e_root : Int32) (e_branches : Nat → Int32) : Option (Int32 × (Nat → Int32) × (Nat → Nat → Int32) × Int32 × Int32) :=
  (if f_toEnd ≤ (0 : Int32) then
  (bd3 (f_X5_readToken e_root e_branches t_size t_position t_fault t_bytes) fun y_3 t_position_4 t_fault_5 =>
  (if (4 : Int32) < y_3 then
  (bd4 (f_X0_readNumber y_3 x3 f_places f_grid t_size t_position_4 t_fault_5 t_bytes) fun f_places_12 f_grid_13 t_position_14 t_fault_15 =>
  some (f_toEnd, f_places_12, f_grid_13, t_position_14, t_fault_15))
  else
  (gi y_3 5 <|
  gi y_3 5 <|
  bd3 (f_X4_number (sENDING_BITS y_3.toNatClampNeg) t_size t_position_4 t_fault_5 t_bytes) fun y_25 t_position_26 t_fault_27 =>
  nm (((sENDING y_3.toNatClampNeg) + y_25) : Int32) fun f_toEnd_31 =>
  gi x3 36 <|
  nm (upd f_places x3.toNatClampNeg (64 : Int32) : Nat → Int32) fun f_places_35 =>
  some (f_toEnd_31, f_places_35, f_grid, t_position_26, t_fault_27))))
  else
  (nm ((f_toEnd - (1 : Int32)) : Int32) fun f_toEnd_40 =>
  gi x3 36 <|
  nm (upd f_places x3.toNatClampNeg (64 : Int32) : Nat → Int32) fun f_places_44 =>
  some (f_toEnd_40, f_places_44, f_grid, t_position, t_fault)))

abbrev rm_X0_goOn : Room := { frames := 4, cells := 0, slots := 0, locals := 92 }

theorem cdS_X0_goOn : yX0_goOn.cls ≠ "java/lang/invoke/MethodHandle" ∧ yX0_goOn.cls ≠ "java/lang/invoke/VarHandle" ∧ (parseMethodDescriptor yX0_goOn.desc).map (fun d => d.parameters.length) = some 3 := by decide +kernel

theorem cdV_X0_goOn : yX0_goOn.cls = RX0 ∧ yX0_goOn.cls ≠ "java/lang/invoke/MethodHandle" ∧ yX0_goOn.cls ≠ "java/lang/invoke/VarHandle" ∧ (parseMethodDescriptor yX0_goOn.desc).map (fun d => d.parameters.length) = some 3 := ⟨rfl, cdS_X0_goOn⟩

theorem hi_X0_goOn_0 : ∀ w ∈ u_ws RX0 TX0 12, w ∈ wsX0_goOn := fun _ h => List.mem_cons_of_mem _ (List.mem_append_left _ (List.mem_append_left _ (List.mem_append_right _ h)))

set_option maxHeartbeats 40000000 in
set_option maxRecDepth 100000 in
theorem c_X0_goOn (l : Launch) (D : va_G) (cB cI cJ cQ : ClassId) (N : Nat) (r0 : Nat → Nat) (r1 : Nat → Nat) (r2 : Nat → Nat) (sz : Nat) (x3 : Int32) (f_columns : Int32) (f_rows : Int32) (f_scale : Int32) (f_toEnd : Int32) (f_between : Int32) (f_kept : Int32) (f_places : Nat → Int32) (t_size : Int32) (t_position : Int32) (t_fault : Int32) (t_bytes : Nat → Int32) (e_nodeCount : Int32) (e_tokenCount : Int32) (e_root : Int32) (e_branches : Nat → Int32) (f_grid : Nat → Nat → Int32) (o : Int32 × (Nat → Int32) × (Nat → Nat → Int32) × Int32 × Int32) (hm0 : f_X0_goOn x3 f_toEnd f_places f_grid t_size t_position t_fault t_bytes e_root e_branches = some o) : Met l yX0_goOn wsX0_goOn rm_X0_goOn (ctP D cB cI cJ cQ N sz [.ref (r0 0), .ref (r1 0), .ref (r2 0), .int x3] (wf [oB (r0 0) 0 [.ref (r0 1), .ref (r0 2), .ref (r0 3), .ref (r0 4), .ref (r0 5), .ref (r0 6), .int f_columns, .int f_rows, .int f_scale, .int f_toEnd, .int f_between, .int f_kept], aQ (r0 4) cQ r0, aI (r0 5) cI 36 f_places, oB (r1 0) 4 [.ref (r1 1), .int t_size, .int t_position, .int t_fault], aI (r1 1) cB 6000 t_bytes, oB (r2 0) 5 [.ref (r2 1), .int e_nodeCount, .int e_tokenCount, .int e_root], aI (r2 1) cI 88 e_branches] [rowsW cI r0 f_grid])) (ctQv D (wf [oB (r0 0) 0 [.ref (r0 1), .ref (r0 2), .ref (r0 3), .ref (r0 4), .ref (r0 5), .ref (r0 6), .int f_columns, .int f_rows, .int f_scale, .int (o.1), .int f_between, .int f_kept], aQ (r0 4) cQ r0, aI (r0 5) cI 36 (o.2.1), oB (r1 0) 4 [.ref (r1 1), .int t_size, .int (o.2.2.2.1), .int (o.2.2.2.2)], aI (r1 1) cB 6000 t_bytes, oB (r2 0) 5 [.ref (r2 1), .int e_nodeCount, .int e_tokenCount, .int e_root], aI (r2 1) cI 88 e_branches] [rowsW cI r0 (o.2.2.1)]) (va_A (wf [oB (r0 0) 0 [.ref (r0 1), .ref (r0 2), .ref (r0 3), .ref (r0 4), .ref (r0 5), .ref (r0 6), .int f_columns, .int f_rows, .int f_scale, .int f_toEnd, .int f_between, .int f_kept], aQ (r0 4) cQ r0, aI (r0 5) cI 36 f_places, oB (r1 0) 4 [.ref (r1 1), .int t_size, .int t_position, .int t_fault], aI (r1 1) cB 6000 t_bytes, oB (r2 0) 5 [.ref (r2 1), .int e_nodeCount, .int e_tokenCount, .int e_root], aI (r2 1) cI 88 e_branches] [rowsW cI r0 f_grid]) sz)) 0 0 (va_A (wf [oB (r0 0) 0 [.ref (r0 1), .ref (r0 2), .ref (r0 3), .ref (r0 4), .ref (r0 5), .ref (r0 6), .int f_columns, .int f_rows, .int f_scale, .int f_toEnd, .int f_between, .int f_kept], aQ (r0 4) cQ r0, aI (r0 5) cI 36 f_places, oB (r1 0) 4 [.ref (r1 1), .int t_size, .int t_position, .int t_fault], aI (r1 1) cB 6000 t_bytes, oB (r2 0) 5 [.ref (r2 1), .int e_nodeCount, .int e_tokenCount, .int e_root], aI (r2 1) cI 88 e_branches] [rowsW cI r0 f_grid]) sz) := by
  refine ct_of (cc := cX0_goOn) (maxL := 5) (ret := none) (own := RX0) (Qp := ctQv D (wf [oB (r0 0) 0 [.ref (r0 1), .ref (r0 2), .ref (r0 3), .ref (r0 4), .ref (r0 5), .ref (r0 6), .int f_columns, .int f_rows, .int f_scale, .int (o.1), .int f_between, .int f_kept], aQ (r0 4) cQ r0, aI (r0 5) cI 36 (o.2.1), oB (r1 0) 4 [.ref (r1 1), .int t_size, .int (o.2.2.2.1), .int (o.2.2.2.2)], aI (r1 1) cB 6000 t_bytes, oB (r2 0) 5 [.ref (r2 1), .int e_nodeCount, .int e_tokenCount, .int e_root], aI (r2 1) cI 88 e_branches] [rowsW cI r0 (o.2.2.1)])) (by decide) rfl rfl (Nat.le_of_ble_eq_true rfl) ?_
  intro p e s m args below meth c A hx hb hr hml hown hts hlk hnm hsz hAe E hP0 hD0 hS0 ls0 hl0
  subst hsz
  have hl0 : lv_has ls0 5 [(0, .ref (r0 0)), (1, .ref (r1 0)), (2, .ref (r2 0)), (3, .int x3)] := hl0
  obtain ⟨QQ, hQ⟩ : ∃ Q : State → Prop, Q = MQ below (ctQv D (wf [oB (r0 0) 0 [.ref (r0 1), .ref (r0 2), .ref (r0 3), .ref (r0 4), .ref (r0 5), .ref (r0 6), .int f_columns, .int f_rows, .int f_scale, .int (o.1), .int f_between, .int f_kept], aQ (r0 4) cQ r0, aI (r0 5) cI 36 (o.2.1), oB (r1 0) 4 [.ref (r1 1), .int t_size, .int (o.2.2.2.1), .int (o.2.2.2.2)], aI (r1 1) cB 6000 t_bytes, oB (r2 0) 5 [.ref (r2 1), .int e_nodeCount, .int e_tokenCount, .int e_root], aI (r2 1) cI 88 e_branches] [rowsW cI r0 (o.2.2.1)]) A) args s 0 0 A := ⟨_, rfl⟩
  rw [← hQ]
  unfold f_X0_goOn at hm0
  refine lv_aload_n hx hb dX0_goOn_0 rfl (lv_at hl0 0 rfl) ?_
  refine va_get (D := D) (ci := 0) (v := .int f_toEnd) (C := RX0) (T := TX0) (N := 12) hx hb hts hi_X0_goOn_0 hown E.1 hP0 0 rfl rfl 9 (by decide) (hts _ (List.mem_of_getElem? (i := 1) rfl)) (fun _ h9 => h9) rfl dX0_goOn_1 ?_
  refine lv_if_le (tgt := 26) hx hb dX0_goOn_4 (by decide) (fun hc1 => ?_) (fun hc1 => ?_)
  · have hm2 := bq_t hm0 hc1; clear hm0
    refine lv_aload_n hx hb dX0_goOn_26 rfl (lv_at hl0 2 rfl) ?_
    refine lv_aload_n hx hb dX0_goOn_27 rfl (lv_at hl0 1 rfl) ?_
    obtain ⟨y_3, t_position_4, t_fault_5, hcl6, hm6⟩ := bd3_some hm2; clear hm2
    have sb7 := ctS.mk (n := 7) (k := 1) (pre := [oB (r0 0) 0 [.ref (r0 1), .ref (r0 2), .ref (r0 3), .ref (r0 4), .ref (r0 5), .ref (r0 6), .int f_columns, .int f_rows, .int f_scale, .int f_toEnd, .int f_between, .int f_kept], aQ (r0 4) cQ r0, aI (r0 5) cI 36 f_places, oB (r1 0) 4 [.ref (r1 1), .int t_size, .int t_position, .int t_fault], aI (r1 1) cB 6000 t_bytes, oB (r2 0) 5 [.ref (r2 1), .int e_nodeCount, .int e_tokenCount, .int e_root], aI (r2 1) cI 88 e_branches]) (tl := [rowsW cI r0 f_grid]) [5, 6, 3, 4] [0, 1, 2] [] [0] rfl rfl (by decide +kernel) (by decide +kernel)
    refine ct_calli (r := y_3) E sb7 hP0 hD0 hS0 (va_runV (As := [.ref (r1 0)]) (rest := []) ⟨hx, hb, hml, hown, hts⟩ (c_X5_readToken l D cB cI cJ cQ N r2 r1 s.heap.size e_nodeCount e_tokenCount e_root e_branches t_size t_position t_fault t_bytes (y_3, t_position_4, t_fault_5) hcl6) (cwV 1 hts gX0_goOn_X5_readToken rfl rfl rfl cdV_X5_readToken ⟨Nat.le_of_ble_eq_true rfl, Nat.le_of_ble_eq_true rfl⟩) (ct_preV (q0 := 5) (ci := 5) E sb7 hP0 hD0 hS0 rfl rfl) rfl rfl hl0.1 rfl (lv_room (Nat.le_of_ble_eq_true rfl)) dX0_goOn_28 ⟨Nat.zero_le _, Nat.zero_le _⟩) (fun H8 lc8 hP8 hD8 hS8 => ?_); clear sb7 hcl6
    clear hP0 hD0 hS0
    have hP8 : va_P D vwCl (wf [oB (r0 0) 0 [.ref (r0 1), .ref (r0 2), .ref (r0 3), .ref (r0 4), .ref (r0 5), .ref (r0 6), .int f_columns, .int f_rows, .int f_scale, .int f_toEnd, .int f_between, .int f_kept], aQ (r0 4) cQ r0, aI (r0 5) cI 36 f_places, oB (r2 0) 5 [.ref (r2 1), .int e_nodeCount, .int e_tokenCount, .int e_root], aI (r2 1) cI 88 e_branches, oB (r1 0) 4 [.ref (r1 1), .int t_size, .int t_position_4, .int t_fault_5], aI (r1 1) cB 6000 t_bytes] [rowsW cI r0 f_grid]) H8 := hP8
    have hD8 : va_D A (wf [oB (r0 0) 0 [.ref (r0 1), .ref (r0 2), .ref (r0 3), .ref (r0 4), .ref (r0 5), .ref (r0 6), .int f_columns, .int f_rows, .int f_scale, .int f_toEnd, .int f_between, .int f_kept], aQ (r0 4) cQ r0, aI (r0 5) cI 36 f_places, oB (r2 0) 5 [.ref (r2 1), .int e_nodeCount, .int e_tokenCount, .int e_root], aI (r2 1) cI 88 e_branches, oB (r1 0) 4 [.ref (r1 1), .int t_size, .int t_position_4, .int t_fault_5], aI (r1 1) cB 6000 t_bytes] [rowsW cI r0 f_grid]) := hD8
    refine lv_istore (lv' := [(4, .int y_3), (0, .ref (r0 0)), (1, .ref (r1 0)), (2, .ref (r2 0)), (3, .int x3)]) hx hb dX0_goOn_31 hl0 (by decide) rfl (fun ls9 hl9 => ?_); clear hl0
    refine lv_iload hx hb dX0_goOn_33 (lv_at hl9 0 rfl) ?_
    refine lv_iconst (v := 4) hx hb dX0_goOn_35 (by decide) ?_
    refine lv_icmp_gt (tgt := 71) hx hb dX0_goOn_36 (by decide) (fun hc10 => ?_) (fun hc10 => ?_)
    · have hm11 := bq_t hm6 hc10; clear hm6
      refine lv_aload_n hx hb dX0_goOn_71 rfl (lv_at hl9 1 rfl) ?_
      refine lv_aload_n hx hb dX0_goOn_72 rfl (lv_at hl9 2 rfl) ?_
      refine lv_iload hx hb dX0_goOn_73 (lv_at hl9 0 rfl) ?_
      refine lv_iload_n hx hb dX0_goOn_75 rfl (lv_at hl9 4 rfl) ?_
      obtain ⟨f_places_12, f_grid_13, t_position_14, t_fault_15, hcl16, hm16⟩ := bd4_some hm11; clear hm11
      have sb17 := ctS.mk (n := 7) (k := 1) (pre := [oB (r0 0) 0 [.ref (r0 1), .ref (r0 2), .ref (r0 3), .ref (r0 4), .ref (r0 5), .ref (r0 6), .int f_columns, .int f_rows, .int f_scale, .int f_toEnd, .int f_between, .int f_kept], aQ (r0 4) cQ r0, aI (r0 5) cI 36 f_places, oB (r2 0) 5 [.ref (r2 1), .int e_nodeCount, .int e_tokenCount, .int e_root], aI (r2 1) cI 88 e_branches, oB (r1 0) 4 [.ref (r1 1), .int t_size, .int t_position_4, .int t_fault_5], aI (r1 1) cB 6000 t_bytes]) (tl := [rowsW cI r0 f_grid]) [0, 1, 2, 5, 6] [3, 4] [0] [] rfl rfl (by decide +kernel) (by decide +kernel)
      refine ct_callv E sb17 hP8 hD8 hS8 (va_runV (As := [.ref (r1 0), .int y_3, .int x3]) (rest := []) ⟨hx, hb, hml, hown, hts⟩ (c_X0_readNumber l D cB cI cJ cQ N r0 r1 H8.size y_3 x3 f_columns f_rows f_scale f_toEnd f_between f_kept f_places t_size t_position_4 t_fault_5 t_bytes f_grid (f_places_12, f_grid_13, t_position_14, t_fault_15) hcl16) (cwV 3 hts gX0_goOn_X0_readNumber rfl rfl rfl cdV_X0_readNumber ⟨Nat.le_of_ble_eq_true rfl, Nat.le_of_ble_eq_true rfl⟩) (ct_preV (q0 := 0) (ci := 0) E sb17 hP8 hD8 hS8 rfl rfl) rfl rfl hl9.1 rfl (lv_room (Nat.le_of_ble_eq_true rfl)) dX0_goOn_76 ⟨Nat.zero_le _, Nat.zero_le _⟩) (fun H18 lc18 hP18 hD18 hS18 => ?_); clear sb17 hcl16
      clear hP8 hD8 hS8
      have hP18 : va_P D vwCl (wf [oB (r2 0) 5 [.ref (r2 1), .int e_nodeCount, .int e_tokenCount, .int e_root], aI (r2 1) cI 88 e_branches, oB (r0 0) 0 [.ref (r0 1), .ref (r0 2), .ref (r0 3), .ref (r0 4), .ref (r0 5), .ref (r0 6), .int f_columns, .int f_rows, .int f_scale, .int f_toEnd, .int f_between, .int f_kept], aQ (r0 4) cQ r0, aI (r0 5) cI 36 f_places_12, oB (r1 0) 4 [.ref (r1 1), .int t_size, .int t_position_14, .int t_fault_15], aI (r1 1) cB 6000 t_bytes] [rowsW cI r0 f_grid_13]) H18 := hP18
      have hD18 : va_D A (wf [oB (r2 0) 5 [.ref (r2 1), .int e_nodeCount, .int e_tokenCount, .int e_root], aI (r2 1) cI 88 e_branches, oB (r0 0) 0 [.ref (r0 1), .ref (r0 2), .ref (r0 3), .ref (r0 4), .ref (r0 5), .ref (r0 6), .int f_columns, .int f_rows, .int f_scale, .int f_toEnd, .int f_between, .int f_kept], aQ (r0 4) cQ r0, aI (r0 5) cI 36 f_places_12, oB (r1 0) 4 [.ref (r1 1), .int t_size, .int t_position_14, .int t_fault_15], aI (r1 1) cB 6000 t_bytes] [rowsW cI r0 f_grid_13]) := hD18
      obtain ⟨hP19, hD19⟩ := ct_ord (n := 7) (k := 1) [2, 3, 4, 5, 6, 0, 1] [0] hP18 hD18 rfl rfl (by decide +kernel) (by decide +kernel)
      have hS19 := hS18
      have hP19 : va_P D vwCl (wf [oB (r0 0) 0 [.ref (r0 1), .ref (r0 2), .ref (r0 3), .ref (r0 4), .ref (r0 5), .ref (r0 6), .int f_columns, .int f_rows, .int f_scale, .int f_toEnd, .int f_between, .int f_kept], aQ (r0 4) cQ r0, aI (r0 5) cI 36 f_places_12, oB (r1 0) 4 [.ref (r1 1), .int t_size, .int t_position_14, .int t_fault_15], aI (r1 1) cB 6000 t_bytes, oB (r2 0) 5 [.ref (r2 1), .int e_nodeCount, .int e_tokenCount, .int e_root], aI (r2 1) cI 88 e_branches] [rowsW cI r0 f_grid_13]) H18 := hP19
      have hD19 : va_D A (wf [oB (r0 0) 0 [.ref (r0 1), .ref (r0 2), .ref (r0 3), .ref (r0 4), .ref (r0 5), .ref (r0 6), .int f_columns, .int f_rows, .int f_scale, .int f_toEnd, .int f_between, .int f_kept], aQ (r0 4) cQ r0, aI (r0 5) cI 36 f_places_12, oB (r1 0) 4 [.ref (r1 1), .int t_size, .int t_position_14, .int t_fault_15], aI (r1 1) cB 6000 t_bytes, oB (r2 0) 5 [.ref (r2 1), .int e_nodeCount, .int e_tokenCount, .int e_root], aI (r2 1) cI 88 e_branches] [rowsW cI r0 f_grid_13]) := hD19
      obtain rfl := Option.some.inj hm16
      rw [hQ]
      exact ct_vret hx hb hr hlk hP19 hD19 hS19 dX0_goOn_79
    · have hm20 := bq_f hm6 hc10; clear hm6
      refine lv_aload_n hx hb dX0_goOn_39 rfl (lv_at hl9 1 rfl) ?_
      obtain ⟨sa21, hz21, hn21, hl21_, hxx21⟩ := E.2.1.2.1
      refine va_gets hx hb (hz21.narrow E.2.2.2.1) hS8 hown (hts _ (List.mem_of_getElem? (i := 3) rfl)) (fun _ h9 => h9) dX0_goOn_40 ?_
      refine lv_iload hx hb dX0_goOn_43 (lv_at hl9 0 rfl) ?_
      obtain ⟨hin22, hm22⟩ := gi_some hm20; clear hm20
      refine va_sld hx hb hxx21 hl21_ (fun h => absurd (E.2.2.2.1 _ h) (Nat.not_le.mpr hn21)) hS8 hin22 dX0_goOn_45 ?_
      refine lv_aload_n hx hb dX0_goOn_46 rfl (lv_at hl9 2 rfl) ?_
      obtain ⟨sa23, hz23, hn23, hl23_, hxx23⟩ := E.2.1.2.2.1
      refine va_gets hx hb (hz23.narrow E.2.2.2.1) hS8 hown (hts _ (List.mem_of_getElem? (i := 4) rfl)) (fun _ h9 => h9) dX0_goOn_47 ?_
      refine lv_iload hx hb dX0_goOn_50 (lv_at hl9 0 rfl) ?_
      obtain ⟨hin24, hm24⟩ := gi_some hm22; clear hm22
      refine va_sld hx hb hxx23 hl23_ (fun h => absurd (E.2.2.2.1 _ h) (Nat.not_le.mpr hn23)) hS8 hin24 dX0_goOn_52 ?_
      obtain ⟨y_25, t_position_26, t_fault_27, hcl28, hm28⟩ := bd3_some hm24; clear hm24
      have sb29 := ctS.mk (n := 7) (k := 1) (pre := [oB (r0 0) 0 [.ref (r0 1), .ref (r0 2), .ref (r0 3), .ref (r0 4), .ref (r0 5), .ref (r0 6), .int f_columns, .int f_rows, .int f_scale, .int f_toEnd, .int f_between, .int f_kept], aQ (r0 4) cQ r0, aI (r0 5) cI 36 f_places, oB (r2 0) 5 [.ref (r2 1), .int e_nodeCount, .int e_tokenCount, .int e_root], aI (r2 1) cI 88 e_branches, oB (r1 0) 4 [.ref (r1 1), .int t_size, .int t_position_4, .int t_fault_5], aI (r1 1) cB 6000 t_bytes]) (tl := [rowsW cI r0 f_grid]) [5, 6] [0, 1, 2, 3, 4] [] [0] rfl rfl (by decide +kernel) (by decide +kernel)
      refine ct_calli (r := y_25) E sb29 hP8 hD8 hS8 (va_runV (As := [.int (sENDING_BITS y_3.toNatClampNeg)]) (rest := [.int (sENDING y_3.toNatClampNeg), .ref (r0 0)]) ⟨hx, hb, hml, hown, hts⟩ (c_X4_number l D cB cI cJ cQ N r1 H8.size (sENDING_BITS y_3.toNatClampNeg) t_size t_position_4 t_fault_5 t_bytes (y_25, t_position_26, t_fault_27) hcl28) (cwV 1 hts gX0_goOn_X4_number rfl rfl rfl cdV_X4_number ⟨Nat.le_of_ble_eq_true rfl, Nat.le_of_ble_eq_true rfl⟩) (ct_preV (q0 := 5) (ci := 4) E sb29 hP8 hD8 hS8 rfl rfl) rfl rfl hl9.1 rfl (lv_room (Nat.le_of_ble_eq_true rfl)) dX0_goOn_53 ⟨Nat.zero_le _, Nat.zero_le _⟩) (fun H30 lc30 hP30 hD30 hS30 => ?_); clear sb29 hcl28
      clear hP8 hD8 hS8
      have hP30 : va_P D vwCl (wf [oB (r0 0) 0 [.ref (r0 1), .ref (r0 2), .ref (r0 3), .ref (r0 4), .ref (r0 5), .ref (r0 6), .int f_columns, .int f_rows, .int f_scale, .int f_toEnd, .int f_between, .int f_kept], aQ (r0 4) cQ r0, aI (r0 5) cI 36 f_places, oB (r2 0) 5 [.ref (r2 1), .int e_nodeCount, .int e_tokenCount, .int e_root], aI (r2 1) cI 88 e_branches, oB (r1 0) 4 [.ref (r1 1), .int t_size, .int t_position_26, .int t_fault_27], aI (r1 1) cB 6000 t_bytes] [rowsW cI r0 f_grid]) H30 := hP30
      have hD30 : va_D A (wf [oB (r0 0) 0 [.ref (r0 1), .ref (r0 2), .ref (r0 3), .ref (r0 4), .ref (r0 5), .ref (r0 6), .int f_columns, .int f_rows, .int f_scale, .int f_toEnd, .int f_between, .int f_kept], aQ (r0 4) cQ r0, aI (r0 5) cI 36 f_places, oB (r2 0) 5 [.ref (r2 1), .int e_nodeCount, .int e_tokenCount, .int e_root], aI (r2 1) cI 88 e_branches, oB (r1 0) 4 [.ref (r1 1), .int t_size, .int t_position_26, .int t_fault_27], aI (r1 1) cB 6000 t_bytes] [rowsW cI r0 f_grid]) := hD30
      refine lv_iadd hx hb dX0_goOn_56 ?_
      obtain ⟨f_toEnd_31, ef_toEnd_31, hm32⟩ := nm_some hm28; clear hm28
      refine ct_topi ef_toEnd_31 ?_
      refine ct_put (D := D) (ci := 0) (v := .int f_toEnd_31) (ty := .int) (C := RX0) (T := TX0) (N := 12) (ws' := (wf [oB (r0 0) 0 [.ref (r0 1), .ref (r0 2), .ref (r0 3), .ref (r0 4), .ref (r0 5), .ref (r0 6), .int f_columns, .int f_rows, .int f_scale, .int f_toEnd_31, .int f_between, .int f_kept], aQ (r0 4) cQ r0, aI (r0 5) cI 36 f_places, oB (r2 0) 5 [.ref (r2 1), .int e_nodeCount, .int e_tokenCount, .int e_root], aI (r2 1) cI 88 e_branches, oB (r1 0) 4 [.ref (r1 1), .int t_size, .int t_position_26, .int t_fault_27], aI (r1 1) cB 6000 t_bytes] [rowsW cI r0 f_grid])) hx hb hts hi_X0_goOn_0 tyX0 tyX0_ok nmX0 hown E.1 hP30 hD30 hS30 0 rfl rfl 9 (by decide) (hts _ (List.mem_of_getElem? (i := 1) rfl)) (fun _ h9 => h9) rfl (by decide +kernel) rfl rfl (Nat.le_of_ble_eq_true rfl) rfl dX0_goOn_57 (fun H33 lc33 hP33 hD33 hS33 => ?_)
      clear hP30 hD30 hS30
      refine lv_aload_n hx hb dX0_goOn_60 rfl (lv_at hl9 1 rfl) ?_
      refine va_get (D := D) (ci := 0) (v := .ref (r0 5)) (C := RX0) (T := TX0) (N := 12) hx hb hts hi_X0_goOn_0 hown E.1 hP33 0 rfl rfl 4 (by decide) (hts _ (List.mem_of_getElem? (i := 2) rfl)) (fun _ h9 => h9) rfl dX0_goOn_61 ?_
      refine lv_iload_n hx hb dX0_goOn_64 rfl (lv_at hl9 4 rfl) ?_
      refine lv_bipush (v := 64) hx hb dX0_goOn_65 (by decide) ?_
      obtain ⟨hin34, hm34⟩ := gi_some hm32; clear hm32
      obtain ⟨f_places_35, ef_places_35, hm36⟩ := nm_some hm34; clear hm34
      refine ct_iast (g := f_places_35) (ws' := (wf [oB (r0 0) 0 [.ref (r0 1), .ref (r0 2), .ref (r0 3), .ref (r0 4), .ref (r0 5), .ref (r0 6), .int f_columns, .int f_rows, .int f_scale, .int f_toEnd_31, .int f_between, .int f_kept], aQ (r0 4) cQ r0, aI (r0 5) cI 36 f_places_35, oB (r2 0) 5 [.ref (r2 1), .int e_nodeCount, .int e_tokenCount, .int e_root], aI (r2 1) cI 88 e_branches, oB (r1 0) 4 [.ref (r1 1), .int t_size, .int t_position_26, .int t_fault_27], aI (r1 1) cB 6000 t_bytes] [rowsW cI r0 f_grid])) hx hb E.1 hP33 hD33 hS33 2 0 rfl rfl hin34 ef_places_35 rfl dX0_goOn_67 (fun H37 lc37 hP37 hD37 hS37 => ?_)
      clear hP33 hD33 hS33
      refine lv_goto (tgt := 79) hx hb dX0_goOn_68 (by decide) ?_
      obtain ⟨hP38, hD38⟩ := ct_ord (n := 7) (k := 1) [0, 1, 2, 5, 6, 3, 4] [0] hP37 hD37 rfl rfl (by decide +kernel) (by decide +kernel)
      have hS38 := hS37
      have hP38 : va_P D vwCl (wf [oB (r0 0) 0 [.ref (r0 1), .ref (r0 2), .ref (r0 3), .ref (r0 4), .ref (r0 5), .ref (r0 6), .int f_columns, .int f_rows, .int f_scale, .int f_toEnd_31, .int f_between, .int f_kept], aQ (r0 4) cQ r0, aI (r0 5) cI 36 f_places_35, oB (r1 0) 4 [.ref (r1 1), .int t_size, .int t_position_26, .int t_fault_27], aI (r1 1) cB 6000 t_bytes, oB (r2 0) 5 [.ref (r2 1), .int e_nodeCount, .int e_tokenCount, .int e_root], aI (r2 1) cI 88 e_branches] [rowsW cI r0 f_grid]) H37 := hP38
      have hD38 : va_D A (wf [oB (r0 0) 0 [.ref (r0 1), .ref (r0 2), .ref (r0 3), .ref (r0 4), .ref (r0 5), .ref (r0 6), .int f_columns, .int f_rows, .int f_scale, .int f_toEnd_31, .int f_between, .int f_kept], aQ (r0 4) cQ r0, aI (r0 5) cI 36 f_places_35, oB (r1 0) 4 [.ref (r1 1), .int t_size, .int t_position_26, .int t_fault_27], aI (r1 1) cB 6000 t_bytes, oB (r2 0) 5 [.ref (r2 1), .int e_nodeCount, .int e_tokenCount, .int e_root], aI (r2 1) cI 88 e_branches] [rowsW cI r0 f_grid]) := hD38
      obtain rfl := Option.some.inj hm36
      rw [hQ]
      exact ct_vret hx hb hr hlk hP38 hD38 hS38 dX0_goOn_79
  · have hm39 := bq_f hm0 hc1; clear hm0
    refine lv_aload_n hx hb dX0_goOn_7 rfl (lv_at hl0 0 rfl) ?_
    refine lv_dup hx hb dX0_goOn_8 rfl ?_
    refine va_get (D := D) (ci := 0) (v := .int f_toEnd) (C := RX0) (T := TX0) (N := 12) hx hb hts hi_X0_goOn_0 hown E.1 hP0 0 rfl rfl 9 (by decide) (hts _ (List.mem_of_getElem? (i := 1) rfl)) (fun _ h9 => h9) rfl dX0_goOn_9 ?_
    refine lv_iconst (v := 1) hx hb dX0_goOn_12 (by decide) ?_
    refine lv_isub hx hb dX0_goOn_13 ?_
    obtain ⟨f_toEnd_40, ef_toEnd_40, hm41⟩ := nm_some hm39; clear hm39
    refine ct_topi ef_toEnd_40 ?_
    refine ct_put (D := D) (ci := 0) (v := .int f_toEnd_40) (ty := .int) (C := RX0) (T := TX0) (N := 12) (ws' := (wf [oB (r0 0) 0 [.ref (r0 1), .ref (r0 2), .ref (r0 3), .ref (r0 4), .ref (r0 5), .ref (r0 6), .int f_columns, .int f_rows, .int f_scale, .int f_toEnd_40, .int f_between, .int f_kept], aQ (r0 4) cQ r0, aI (r0 5) cI 36 f_places, oB (r1 0) 4 [.ref (r1 1), .int t_size, .int t_position, .int t_fault], aI (r1 1) cB 6000 t_bytes, oB (r2 0) 5 [.ref (r2 1), .int e_nodeCount, .int e_tokenCount, .int e_root], aI (r2 1) cI 88 e_branches] [rowsW cI r0 f_grid])) hx hb hts hi_X0_goOn_0 tyX0 tyX0_ok nmX0 hown E.1 hP0 hD0 hS0 0 rfl rfl 9 (by decide) (hts _ (List.mem_of_getElem? (i := 1) rfl)) (fun _ h9 => h9) rfl (by decide +kernel) rfl rfl (Nat.le_of_ble_eq_true rfl) rfl dX0_goOn_14 (fun H42 lc42 hP42 hD42 hS42 => ?_)
    clear hP0 hD0 hS0
    refine lv_aload_n hx hb dX0_goOn_17 rfl (lv_at hl0 0 rfl) ?_
    refine va_get (D := D) (ci := 0) (v := .ref (r0 5)) (C := RX0) (T := TX0) (N := 12) hx hb hts hi_X0_goOn_0 hown E.1 hP42 0 rfl rfl 4 (by decide) (hts _ (List.mem_of_getElem? (i := 2) rfl)) (fun _ h9 => h9) rfl dX0_goOn_18 ?_
    refine lv_iload_n hx hb dX0_goOn_21 rfl (lv_at hl0 3 rfl) ?_
    refine lv_bipush (v := 64) hx hb dX0_goOn_22 (by decide) ?_
    obtain ⟨hin43, hm43⟩ := gi_some hm41; clear hm41
    obtain ⟨f_places_44, ef_places_44, hm45⟩ := nm_some hm43; clear hm43
    refine ct_iast (g := f_places_44) (ws' := (wf [oB (r0 0) 0 [.ref (r0 1), .ref (r0 2), .ref (r0 3), .ref (r0 4), .ref (r0 5), .ref (r0 6), .int f_columns, .int f_rows, .int f_scale, .int f_toEnd_40, .int f_between, .int f_kept], aQ (r0 4) cQ r0, aI (r0 5) cI 36 f_places_44, oB (r1 0) 4 [.ref (r1 1), .int t_size, .int t_position, .int t_fault], aI (r1 1) cB 6000 t_bytes, oB (r2 0) 5 [.ref (r2 1), .int e_nodeCount, .int e_tokenCount, .int e_root], aI (r2 1) cI 88 e_branches] [rowsW cI r0 f_grid])) hx hb E.1 hP42 hD42 hS42 2 0 rfl rfl hin43 ef_places_44 rfl dX0_goOn_24 (fun H46 lc46 hP46 hD46 hS46 => ?_)
    clear hP42 hD42 hS42
    obtain rfl := Option.some.inj hm45
    rw [hQ]
    exact ct_vret hx hb hr hlk hP46 hD46 hS46 dX0_goOn_25
