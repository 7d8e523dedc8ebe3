def f_X0_kind (x1 : Int32) (f_modes : Nat → Int32) : Option (Int32) :=
  gi x1 36 <|
  (if (f_modes x1.toNatClampNeg) = (3 : Int32) then
  (some ((1 : Int32)))
  else
  (gi x1 36 <|
  some ((f_modes x1.toNatClampNeg))))

abbrev rm_X0_kind : Room := { frames := 0, cells := 0, slots := 0, locals := 0 }

theorem cdS_X0_kind : yX0_kind.cls ≠ "java/lang/invoke/MethodHandle" ∧ yX0_kind.cls ≠ "java/lang/invoke/VarHandle" ∧ (parseMethodDescriptor yX0_kind.desc).map (fun d => d.parameters.length) = some 1 := by decide +kernel

theorem cdV_X0_kind : yX0_kind.cls = RX0 ∧ yX0_kind.cls ≠ "java/lang/invoke/MethodHandle" ∧ yX0_kind.cls ≠ "java/lang/invoke/VarHandle" ∧ (parseMethodDescriptor yX0_kind.desc).map (fun d => d.parameters.length) = some 1 := ⟨rfl, cdS_X0_kind⟩

theorem hi_X0_kind_0 : ∀ w ∈ u_ws RX0 TX0 12, w ∈ wsX0_kind := fun _ h => List.mem_cons_of_mem _ (List.mem_append_right _ h)

set_option maxHeartbeats 40000000 in
set_option maxRecDepth 100000 in
theorem c_X0_kind (l : Launch) (D : va_G) (cB cI cJ cQ : ClassId) (N : Nat) (r0 : Nat → Nat) (sz : Nat) (x1 : Int32) (f_columns : Int32) (f_rows : Int32) (f_scale : Int32) (f_toEnd : Int32) (f_between : Int32) (f_kept : Int32) (f_modes : Nat → Int32) (o : Int32) (hm0 : f_X0_kind x1 f_modes = some o) : Met l yX0_kind wsX0_kind rm_X0_kind (ctP D cB cI cJ cQ N sz [.ref (r0 0), .int x1] (wf [oB (r0 0) 0 [.ref (r0 1), .ref (r0 2), .ref (r0 3), .ref (r0 4), .ref (r0 5), .ref (r0 6), .int f_columns, .int f_rows, .int f_scale, .int f_toEnd, .int f_between, .int f_kept], aI (r0 1) cI 36 f_modes] [])) (ctQi D o (wf [oB (r0 0) 0 [.ref (r0 1), .ref (r0 2), .ref (r0 3), .ref (r0 4), .ref (r0 5), .ref (r0 6), .int f_columns, .int f_rows, .int f_scale, .int f_toEnd, .int f_between, .int f_kept], aI (r0 1) cI 36 f_modes] []) (va_A (wf [oB (r0 0) 0 [.ref (r0 1), .ref (r0 2), .ref (r0 3), .ref (r0 4), .ref (r0 5), .ref (r0 6), .int f_columns, .int f_rows, .int f_scale, .int f_toEnd, .int f_between, .int f_kept], aI (r0 1) cI 36 f_modes] []) sz)) 0 0 (va_A (wf [oB (r0 0) 0 [.ref (r0 1), .ref (r0 2), .ref (r0 3), .ref (r0 4), .ref (r0 5), .ref (r0 6), .int f_columns, .int f_rows, .int f_scale, .int f_toEnd, .int f_between, .int f_kept], aI (r0 1) cI 36 f_modes] []) sz) := by
  refine ct_of (cc := cX0_kind) (maxL := 2) (ret := (some .int)) (own := RX0) (Qp := ctQi D o (wf [oB (r0 0) 0 [.ref (r0 1), .ref (r0 2), .ref (r0 3), .ref (r0 4), .ref (r0 5), .ref (r0 6), .int f_columns, .int f_rows, .int f_scale, .int f_toEnd, .int f_between, .int f_kept], aI (r0 1) cI 36 f_modes] [])) (by decide) rfl rfl (Nat.le_of_ble_eq_true rfl) ?_
  intro p e s m args below meth c A hx hb hr hml hown hts hlk hnm hsz hAe E hP0 hD0 hS0 ls0 hl0
  subst hsz
  have hl0 : lv_has ls0 2 [(0, .ref (r0 0)), (1, .int x1)] := hl0
  obtain ⟨QQ, hQ⟩ : ∃ Q : State → Prop, Q = MQ below (ctQi D o (wf [oB (r0 0) 0 [.ref (r0 1), .ref (r0 2), .ref (r0 3), .ref (r0 4), .ref (r0 5), .ref (r0 6), .int f_columns, .int f_rows, .int f_scale, .int f_toEnd, .int f_between, .int f_kept], aI (r0 1) cI 36 f_modes] []) A) args s 0 0 A := ⟨_, rfl⟩
  rw [← hQ]
  unfold f_X0_kind at hm0
  refine lv_aload_n hx hb dX0_kind_0 rfl (lv_at hl0 0 rfl) ?_
  refine va_get (D := D) (ci := 0) (v := .ref (r0 1)) (C := RX0) (T := TX0) (N := 12) hx hb hts hi_X0_kind_0 hown E.1 hP0 0 rfl rfl 0 (by decide) (hts _ (List.mem_of_getElem? (i := 1) rfl)) (fun _ h9 => h9) rfl dX0_kind_1 ?_
  refine lv_iload_n hx hb dX0_kind_4 rfl (lv_at hl0 1 rfl) ?_
  obtain ⟨hin1, hm1⟩ := gi_some hm0; clear hm0
  refine va_iald hx hb E.1 hP0 1 0 rfl rfl hin1 dX0_kind_5 ?_
  refine lv_iconst (v := 3) hx hb dX0_kind_6 (by decide) ?_
  refine lv_icmp_ne (tgt := 14) hx hb dX0_kind_7 (by decide) (fun hc2 => ?_) (fun hc2 => ?_)
  · have hm3 := bq_f hm1 hc2; clear hm1
    refine lv_aload_n hx hb dX0_kind_14 rfl (lv_at hl0 0 rfl) ?_
    refine va_get (D := D) (ci := 0) (v := .ref (r0 1)) (C := RX0) (T := TX0) (N := 12) hx hb hts hi_X0_kind_0 hown E.1 hP0 0 rfl rfl 0 (by decide) (hts _ (List.mem_of_getElem? (i := 1) rfl)) (fun _ h9 => h9) rfl dX0_kind_15 ?_
    refine lv_iload_n hx hb dX0_kind_18 rfl (lv_at hl0 1 rfl) ?_
    obtain ⟨hin4, hm4⟩ := gi_some hm3; clear hm3
    refine va_iald hx hb E.1 hP0 1 0 rfl rfl hin4 dX0_kind_19 ?_
    obtain rfl := Option.some.inj hm4
    rw [hQ]
    exact ct_iret hx hb hr hlk hP0 hD0 hS0 rfl dX0_kind_20
  · have hm5 := bq_t hm1 hc2; clear hm1
    refine lv_iconst (v := 1) hx hb dX0_kind_10 (by decide) ?_
    refine lv_goto (tgt := 20) hx hb dX0_kind_11 (by decide) ?_
    obtain rfl := Option.some.inj hm5
    rw [hQ]
    exact ct_iret hx hb hr hlk hP0 hD0 hS0 rfl dX0_kind_20

def f_X0_guess (x1 : Int32) (x2 : Int32) (f_columns : Int32) (f_modes : Nat → Int32) (f_latestOfKind : Nat → Int32) (f_grid : Nat → Nat → Int32) : Option (Int32) :=
  bd1 (f_X0_index x1 x2 f_columns) fun y_1 =>
  nm ((y_1 - (1 : Int32)) : Int32) fun v4_6 =>
  nm ((y_1 - f_columns) : Int32) fun v5_9 =>
  jn (fun (k13 : Int32 → Option (Int32)) => (if x1 ≤ (0 : Int32) then
  (k13 (0 : Int32))
  else
  (bd1 (f_X0_kind v4_6 f_modes) fun y_90 =>
  bd1 (f_X0_kind y_1 f_modes) fun y_94 =>
  (if y_90 = y_94 then
  (k13 (1 : Int32))
  else
  (k13 (0 : Int32)))))) fun k0_14 =>
  jn (fun (k19 : Int32 → Option (Int32)) => (if x2 ≤ (0 : Int32) then
  (k19 (0 : Int32))
  else
  (bd1 (f_X0_kind v5_9 f_modes) fun y_74 =>
  bd1 (f_X0_kind y_1 f_modes) fun y_78 =>
  (if y_74 = y_78 then
  (k19 (1 : Int32))
  else
  (k19 (0 : Int32)))))) fun k0_20 =>
  (if k0_14 = (0 : Int32) then
  ((if k0_14 = (0 : Int32) then
  ((if k0_20 = (0 : Int32) then
  (bd1 (f_X0_kind y_1 f_modes) fun y_30 =>
  gi y_30 5 <|
  some ((f_latestOfKind y_30.toNatClampNeg)))
  else
  (gi v5_9 36 <|
  gi (0 : Int32) 64 <|
  some ((f_grid v5_9.toNatClampNeg (0 : Int32).toNatClampNeg)))))
  else
  (gi v4_6 36 <|
  gi (0 : Int32) 64 <|
  some ((f_grid v4_6.toNatClampNeg (0 : Int32).toNatClampNeg)))))
  else
  ((if k0_20 = (0 : Int32) then
  ((if k0_14 = (0 : Int32) then
  ((if k0_20 = (0 : Int32) then
  (bd1 (f_X0_kind y_1 f_modes) fun y_51 =>
  gi y_51 5 <|
  some ((f_latestOfKind y_51.toNatClampNeg)))
  else
  (gi v5_9 36 <|
  gi (0 : Int32) 64 <|
  some ((f_grid v5_9.toNatClampNeg (0 : Int32).toNatClampNeg)))))
  else
  (gi v4_6 36 <|
  gi (0 : Int32) 64 <|
  some ((f_grid v4_6.toNatClampNeg (0 : Int32).toNatClampNeg)))))
  else
  (gi v4_6 36 <|
  gi (0 : Int32) 64 <|
  gi v5_9 36 <|
  gi (0 : Int32) 64 <|
  some ((((f_grid v4_6.toNatClampNeg (0 : Int32).toNatClampNeg) + (f_grid v5_9.toNatClampNeg (0 : Int32).toNatClampNeg)) / (2 : Int32)))))))

abbrev rm_X0_guess : Room := { frames := 1, cells := 0, slots := 0, locals := 22 }

theorem cdS_X0_guess : yX0_guess.cls ≠ "java/lang/invoke/MethodHandle" ∧ yX0_guess.cls ≠ "java/lang/invoke/VarHandle" ∧ (parseMethodDescriptor yX0_guess.desc).map (fun d => d.parameters.length) = some 2 := by decide +kernel

theorem cdV_X0_guess : yX0_guess.cls = RX0 ∧ yX0_guess.cls ≠ "java/lang/invoke/MethodHandle" ∧ yX0_guess.cls ≠ "java/lang/invoke/VarHandle" ∧ (parseMethodDescriptor yX0_guess.desc).map (fun d => d.parameters.length) = some 2 := ⟨rfl, cdS_X0_guess⟩

theorem hi_X0_guess_0 : ∀ w ∈ u_ws RX0 TX0 12, w ∈ wsX0_guess := fun _ h => List.mem_cons_of_mem _ (List.mem_append_right _ h)

set_option maxHeartbeats 40000000 in
set_option maxRecDepth 100000 in
theorem c_X0_guess (l : Launch) (D : va_G) (cB cI cJ cQ : ClassId) (N : Nat) (r0 : Nat → Nat) (sz : Nat) (x1 : Int32) (x2 : Int32) (f_columns : Int32) (f_rows : Int32) (f_scale : Int32) (f_toEnd : Int32) (f_between : Int32) (f_kept : Int32) (f_modes : Nat → Int32) (f_latestOfKind : Nat → Int32) (f_grid : Nat → Nat → Int32) (o : Int32) (hm0 : f_X0_guess x1 x2 f_columns f_modes f_latestOfKind f_grid = some o) : Met l yX0_guess wsX0_guess rm_X0_guess (ctP D cB cI cJ cQ N sz [.ref (r0 0), .int x1, .int x2] (wf [oB (r0 0) 0 [.ref (r0 1), .ref (r0 2), .ref (r0 3), .ref (r0 4), .ref (r0 5), .ref (r0 6), .int f_columns, .int f_rows, .int f_scale, .int f_toEnd, .int f_between, .int f_kept], aI (r0 1) cI 36 f_modes, aQ (r0 4) cQ r0, aI (r0 6) cI 5 f_latestOfKind] [rowsW cI r0 f_grid])) (ctQi D o (wf [oB (r0 0) 0 [.ref (r0 1), .ref (r0 2), .ref (r0 3), .ref (r0 4), .ref (r0 5), .ref (r0 6), .int f_columns, .int f_rows, .int f_scale, .int f_toEnd, .int f_between, .int f_kept], aI (r0 1) cI 36 f_modes, aQ (r0 4) cQ r0, aI (r0 6) cI 5 f_latestOfKind] [rowsW cI r0 f_grid]) (va_A (wf [oB (r0 0) 0 [.ref (r0 1), .ref (r0 2), .ref (r0 3), .ref (r0 4), .ref (r0 5), .ref (r0 6), .int f_columns, .int f_rows, .int f_scale, .int f_toEnd, .int f_between, .int f_kept], aI (r0 1) cI 36 f_modes, aQ (r0 4) cQ r0, aI (r0 6) cI 5 f_latestOfKind] [rowsW cI r0 f_grid]) sz)) 0 0 (va_A (wf [oB (r0 0) 0 [.ref (r0 1), .ref (r0 2), .ref (r0 3), .ref (r0 4), .ref (r0 5), .ref (r0 6), .int f_columns, .int f_rows, .int f_scale, .int f_toEnd, .int f_between, .int f_kept], aI (r0 1) cI 36 f_modes, aQ (r0 4) cQ r0, aI (r0 6) cI 5 f_latestOfKind] [rowsW cI r0 f_grid]) sz) := by
  refine ct_of (cc := cX0_guess) (maxL := 8) (ret := (some .int)) (own := RX0) (Qp := ctQi D o (wf [oB (r0 0) 0 [.ref (r0 1), .ref (r0 2), .ref (r0 3), .ref (r0 4), .ref (r0 5), .ref (r0 6), .int f_columns, .int f_rows, .int f_scale, .int f_toEnd, .int f_between, .int f_kept], aI (r0 1) cI 36 f_modes, aQ (r0 4) cQ r0, aI (r0 6) cI 5 f_latestOfKind] [rowsW cI r0 f_grid])) (by decide) rfl rfl (Nat.le_of_ble_eq_true rfl) ?_
  intro p e s m args below meth c A hx hb hr hml hown hts hlk hnm hsz hAe E hP0 hD0 hS0 ls0 hl0
  subst hsz
  have hl0 : lv_has ls0 8 [(0, .ref (r0 0)), (1, .int x1), (2, .int x2)] := hl0
  obtain ⟨QQ, hQ⟩ : ∃ Q : State → Prop, Q = MQ below (ctQi D o (wf [oB (r0 0) 0 [.ref (r0 1), .ref (r0 2), .ref (r0 3), .ref (r0 4), .ref (r0 5), .ref (r0 6), .int f_columns, .int f_rows, .int f_scale, .int f_toEnd, .int f_between, .int f_kept], aI (r0 1) cI 36 f_modes, aQ (r0 4) cQ r0, aI (r0 6) cI 5 f_latestOfKind] [rowsW cI r0 f_grid]) A) args s 0 0 A := ⟨_, rfl⟩
  rw [← hQ]
  unfold f_X0_guess at hm0
  refine lv_aload_n hx hb dX0_guess_0 rfl (lv_at hl0 0 rfl) ?_
  refine lv_iload_n hx hb dX0_guess_1 rfl (lv_at hl0 1 rfl) ?_
  refine lv_iload_n hx hb dX0_guess_2 rfl (lv_at hl0 2 rfl) ?_
  obtain ⟨y_1, hcl2, hm2⟩ := bd1_some hm0; clear hm0
  have sb3 := ctS.mk (n := 4) (k := 1) (pre := [oB (r0 0) 0 [.ref (r0 1), .ref (r0 2), .ref (r0 3), .ref (r0 4), .ref (r0 5), .ref (r0 6), .int f_columns, .int f_rows, .int f_scale, .int f_toEnd, .int f_between, .int f_kept], aI (r0 1) cI 36 f_modes, aQ (r0 4) cQ r0, aI (r0 6) cI 5 f_latestOfKind]) (tl := [rowsW cI r0 f_grid]) [0] [1, 2, 3] [] [0] rfl rfl (by decide +kernel) (by decide +kernel)
  refine ct_calli (r := y_1) E sb3 hP0 hD0 hS0 (va_runV (As := [.int x1, .int x2]) (rest := []) ⟨hx, hb, hml, hown, hts⟩ (c_X0_index l D cB cI cJ cQ N r0 s.heap.size x1 x2 f_columns f_rows f_scale f_toEnd f_between f_kept (y_1) hcl2) (cwV 2 hts gX0_guess_X0_index rfl rfl rfl cdV_X0_index ⟨Nat.le_of_ble_eq_true rfl, Nat.le_of_ble_eq_true rfl⟩) (ct_preV (q0 := 0) (ci := 0) E sb3 hP0 hD0 hS0 rfl rfl) rfl rfl hl0.1 rfl (lv_room (Nat.le_of_ble_eq_true rfl)) dX0_guess_3 ⟨Nat.zero_le _, Nat.zero_le _⟩) (fun H4 lc4 hP4 hD4 hS4 => ?_); clear sb3 hcl2
  clear hP0 hD0 hS0
  have hP4 : va_P D vwCl (wf [aI (r0 1) cI 36 f_modes, aQ (r0 4) cQ r0, aI (r0 6) cI 5 f_latestOfKind, oB (r0 0) 0 [.ref (r0 1), .ref (r0 2), .ref (r0 3), .ref (r0 4), .ref (r0 5), .ref (r0 6), .int f_columns, .int f_rows, .int f_scale, .int f_toEnd, .int f_between, .int f_kept]] [rowsW cI r0 f_grid]) H4 := hP4
  have hD4 : va_D A (wf [aI (r0 1) cI 36 f_modes, aQ (r0 4) cQ r0, aI (r0 6) cI 5 f_latestOfKind, oB (r0 0) 0 [.ref (r0 1), .ref (r0 2), .ref (r0 3), .ref (r0 4), .ref (r0 5), .ref (r0 6), .int f_columns, .int f_rows, .int f_scale, .int f_toEnd, .int f_between, .int f_kept]] [rowsW cI r0 f_grid]) := hD4
  refine lv_istore_n (lv' := [(3, .int y_1), (0, .ref (r0 0)), (1, .int x1), (2, .int x2)]) hx hb dX0_guess_6 rfl hl0 (by decide) rfl (fun ls5 hl5 => ?_); clear hl0
  refine lv_iload_n hx hb dX0_guess_7 rfl (lv_at hl5 0 rfl) ?_
  refine lv_iconst (v := 1) hx hb dX0_guess_8 (by decide) ?_
  refine lv_isub hx hb dX0_guess_9 ?_
  obtain ⟨v4_6, ev4_6, hm7⟩ := nm_some hm2; clear hm2
  refine ct_topi ev4_6 ?_
  refine lv_istore (lv' := [(4, .int v4_6), (3, .int y_1), (0, .ref (r0 0)), (1, .int x1), (2, .int x2)]) hx hb dX0_guess_10 hl5 (by decide) rfl (fun ls8 hl8 => ?_); clear hl5
  refine lv_iload_n hx hb dX0_guess_12 rfl (lv_at hl8 1 rfl) ?_
  refine lv_aload_n hx hb dX0_guess_13 rfl (lv_at hl8 2 rfl) ?_
  refine va_get (D := D) (ci := 0) (v := .int f_columns) (C := RX0) (T := TX0) (N := 12) hx hb hts hi_X0_guess_0 hown E.1 hP4 3 rfl rfl 6 (by decide) (hts _ (List.mem_of_getElem? (i := 1) rfl)) (fun _ h9 => h9) rfl dX0_guess_14 ?_
  refine lv_isub hx hb dX0_guess_17 ?_
  obtain ⟨v5_9, ev5_9, hm10⟩ := nm_some hm7; clear hm7
  refine ct_topi ev5_9 ?_
  refine lv_istore (lv' := [(5, .int v5_9), (4, .int v4_6), (3, .int y_1), (0, .ref (r0 0)), (1, .int x1), (2, .int x2)]) hx hb dX0_guess_18 hl8 (by decide) rfl (fun ls11 hl11 => ?_); clear hl8
  refine lv_iload_n hx hb dX0_guess_20 rfl (lv_at hl11 4 rfl) ?_
  obtain ⟨k13, ek13, hm13⟩ := jn_some hm10; clear hm10
  have KJ13 : ∀ (k0_14 : Int32) (H15 : Heap) (lc15 : List Loc) (ls15 : Array Slot), k13 k0_14 = some o → va_P D vwCl (wf [aI (r0 1) cI 36 f_modes, aQ (r0 4) cQ r0, aI (r0 6) cI 5 f_latestOfKind, oB (r0 0) 0 [.ref (r0 1), .ref (r0 2), .ref (r0 3), .ref (r0 4), .ref (r0 5), .ref (r0 6), .int f_columns, .int f_rows, .int f_scale, .int f_toEnd, .int f_between, .int f_kept]] [rowsW cI r0 f_grid]) H15 → va_D A (wf [aI (r0 1) cI 36 f_modes, aQ (r0 4) cQ r0, aI (r0 6) cI 5 f_latestOfKind, oB (r0 0) 0 [.ref (r0 1), .ref (r0 2), .ref (r0 3), .ref (r0 4), .ref (r0 5), .ref (r0 6), .int f_columns, .int f_rows, .int f_scale, .int f_toEnd, .int f_between, .int f_kept]] [rowsW cI r0 f_grid]) → va_S A s.heap H15 lc15 → lv_has ls15 8 [(0, .ref (r0 0)), (2, .int x2), (3, .int y_1), (4, .int v4_6), (5, .int v5_9)] → W p l e rm_X0_guess s m args below meth c H15 lc15 0 0 QQ (F0 m 43 ls15 [.int k0_14]) := by
    intro k0_14 H15 lc15 ls15 hm16 hP15 hD15 hS15 hl15
    rw [ek13] at hm16
    refine lv_istore (lv' := [(6, .int k0_14), (0, .ref (r0 0)), (2, .int x2), (3, .int y_1), (4, .int v4_6), (5, .int v5_9)]) hx hb dX0_guess_43 hl15 (by decide) rfl (fun ls17 hl17 => ?_); clear hl15
    refine lv_iload_n hx hb dX0_guess_45 rfl (lv_at hl17 2 rfl) ?_
    obtain ⟨k19, ek19, hm19⟩ := jn_some hm16; clear hm16
    have KJ19 : ∀ (k0_20 : Int32) (H21 : Heap) (lc21 : List Loc) (ls21 : Array Slot), k19 k0_20 = some o → va_P D vwCl (wf [aI (r0 1) cI 36 f_modes, aQ (r0 4) cQ r0, aI (r0 6) cI 5 f_latestOfKind, oB (r0 0) 0 [.ref (r0 1), .ref (r0 2), .ref (r0 3), .ref (r0 4), .ref (r0 5), .ref (r0 6), .int f_columns, .int f_rows, .int f_scale, .int f_toEnd, .int f_between, .int f_kept]] [rowsW cI r0 f_grid]) H21 → va_D A (wf [aI (r0 1) cI 36 f_modes, aQ (r0 4) cQ r0, aI (r0 6) cI 5 f_latestOfKind, oB (r0 0) 0 [.ref (r0 1), .ref (r0 2), .ref (r0 3), .ref (r0 4), .ref (r0 5), .ref (r0 6), .int f_columns, .int f_rows, .int f_scale, .int f_toEnd, .int f_between, .int f_kept]] [rowsW cI r0 f_grid]) → va_S A s.heap H21 lc21 → lv_has ls21 8 [(0, .ref (r0 0)), (3, .int y_1), (4, .int v4_6), (5, .int v5_9), (6, .int k0_14)] → W p l e rm_X0_guess s m args below meth c H21 lc21 0 0 QQ (F0 m 68 ls21 [.int k0_20]) := by
      intro k0_20 H21 lc21 ls21 hm22 hP21 hD21 hS21 hl21
      rw [ek19] at hm22
      refine lv_istore (lv' := [(7, .int k0_20), (0, .ref (r0 0)), (3, .int y_1), (4, .int v4_6), (5, .int v5_9), (6, .int k0_14)]) hx hb dX0_guess_68 hl21 (by decide) rfl (fun ls23 hl23 => ?_); clear hl21
      refine lv_iload hx hb dX0_guess_70 (lv_at hl23 5 rfl) ?_
      refine lv_if_eq (tgt := 102) hx hb dX0_guess_72 (by decide) (fun hc24 => ?_) (fun hc24 => ?_)
      · have hm25 := bq_t hm22 hc24; clear hm22
        refine lv_iload hx hb dX0_guess_102 (lv_at hl23 5 rfl) ?_
        refine lv_if_eq (tgt := 117) hx hb dX0_guess_104 (by decide) (fun hc26 => ?_) (fun hc26 => ?_)
        · have hm27 := bq_t hm25 hc26; clear hm25
          refine lv_iload hx hb dX0_guess_117 (lv_at hl23 0 rfl) ?_
          refine lv_if_eq (tgt := 134) hx hb dX0_guess_119 (by decide) (fun hc28 => ?_) (fun hc28 => ?_)
          · have hm29 := bq_t hm27 hc28; clear hm27
            refine lv_aload_n hx hb dX0_guess_134 rfl (lv_at hl23 1 rfl) ?_
            refine va_get (D := D) (ci := 0) (v := .ref (r0 6)) (C := RX0) (T := TX0) (N := 12) hx hb hts hi_X0_guess_0 hown E.1 hP21 3 rfl rfl 5 (by decide) (hts _ (List.mem_of_getElem? (i := 3) rfl)) (fun _ h9 => h9) rfl dX0_guess_135 ?_
            refine lv_aload_n hx hb dX0_guess_138 rfl (lv_at hl23 1 rfl) ?_
            refine lv_iload_n hx hb dX0_guess_139 rfl (lv_at hl23 2 rfl) ?_
            obtain ⟨y_30, hcl31, hm31⟩ := bd1_some hm29; clear hm29
            have sb32 := ctS.mk (n := 4) (k := 1) (pre := [aI (r0 1) cI 36 f_modes, aQ (r0 4) cQ r0, aI (r0 6) cI 5 f_latestOfKind, oB (r0 0) 0 [.ref (r0 1), .ref (r0 2), .ref (r0 3), .ref (r0 4), .ref (r0 5), .ref (r0 6), .int f_columns, .int f_rows, .int f_scale, .int f_toEnd, .int f_between, .int f_kept]]) (tl := [rowsW cI r0 f_grid]) [3, 0] [1, 2] [] [0] rfl rfl (by decide +kernel) (by decide +kernel)
            refine ct_calli (r := y_30) E sb32 hP21 hD21 hS21 (va_runV (As := [.int y_1]) (rest := [.ref (r0 6)]) ⟨hx, hb, hml, hown, hts⟩ (c_X0_kind l D cB cI cJ cQ N r0 H21.size y_1 f_columns f_rows f_scale f_toEnd f_between f_kept f_modes (y_30) hcl31) (cwV 1 hts gX0_guess_X0_kind rfl rfl rfl cdV_X0_kind ⟨Nat.le_of_ble_eq_true rfl, Nat.le_of_ble_eq_true rfl⟩) (ct_preV (q0 := 3) (ci := 0) E sb32 hP21 hD21 hS21 rfl rfl) rfl rfl hl23.1 rfl (lv_room (Nat.le_of_ble_eq_true rfl)) dX0_guess_140 ⟨Nat.zero_le _, Nat.zero_le _⟩) (fun H33 lc33 hP33 hD33 hS33 => ?_); clear sb32 hcl31
            clear hP21 hD21 hS21
            have hP33 : va_P D vwCl (wf [aQ (r0 4) cQ r0, aI (r0 6) cI 5 f_latestOfKind, oB (r0 0) 0 [.ref (r0 1), .ref (r0 2), .ref (r0 3), .ref (r0 4), .ref (r0 5), .ref (r0 6), .int f_columns, .int f_rows, .int f_scale, .int f_toEnd, .int f_between, .int f_kept], aI (r0 1) cI 36 f_modes] [rowsW cI r0 f_grid]) H33 := hP33
            have hD33 : va_D A (wf [aQ (r0 4) cQ r0, aI (r0 6) cI 5 f_latestOfKind, oB (r0 0) 0 [.ref (r0 1), .ref (r0 2), .ref (r0 3), .ref (r0 4), .ref (r0 5), .ref (r0 6), .int f_columns, .int f_rows, .int f_scale, .int f_toEnd, .int f_between, .int f_kept], aI (r0 1) cI 36 f_modes] [rowsW cI r0 f_grid]) := hD33
            obtain ⟨hin34, hm34⟩ := gi_some hm31; clear hm31
            refine va_iald hx hb E.1 hP33 1 0 rfl rfl hin34 dX0_guess_143 ?_
            obtain ⟨hP35, hD35⟩ := ct_ord (n := 4) (k := 1) [2, 3, 0, 1] [0] hP33 hD33 rfl rfl (by decide +kernel) (by decide +kernel)
            have hS35 := hS33
            have hP35 : va_P D vwCl (wf [oB (r0 0) 0 [.ref (r0 1), .ref (r0 2), .ref (r0 3), .ref (r0 4), .ref (r0 5), .ref (r0 6), .int f_columns, .int f_rows, .int f_scale, .int f_toEnd, .int f_between, .int f_kept], aI (r0 1) cI 36 f_modes, aQ (r0 4) cQ r0, aI (r0 6) cI 5 f_latestOfKind] [rowsW cI r0 f_grid]) H33 := hP35
            have hD35 : va_D A (wf [oB (r0 0) 0 [.ref (r0 1), .ref (r0 2), .ref (r0 3), .ref (r0 4), .ref (r0 5), .ref (r0 6), .int f_columns, .int f_rows, .int f_scale, .int f_toEnd, .int f_between, .int f_kept], aI (r0 1) cI 36 f_modes, aQ (r0 4) cQ r0, aI (r0 6) cI 5 f_latestOfKind] [rowsW cI r0 f_grid]) := hD35
            obtain rfl := Option.some.inj hm34
            rw [hQ]
            exact ct_iret hx hb hr hlk hP35 hD35 hS35 rfl dX0_guess_144
          · have hm36 := bq_f hm27 hc28; clear hm27
            refine lv_aload_n hx hb dX0_guess_122 rfl (lv_at hl23 1 rfl) ?_
            refine va_get (D := D) (ci := 0) (v := .ref (r0 4)) (C := RX0) (T := TX0) (N := 12) hx hb hts hi_X0_guess_0 hown E.1 hP21 3 rfl rfl 3 (by decide) (hts _ (List.mem_of_getElem? (i := 2) rfl)) (fun _ h9 => h9) rfl dX0_guess_123 ?_
            refine lv_iload hx hb dX0_guess_126 (lv_at hl23 4 rfl) ?_
            obtain ⟨hin37, hm37⟩ := gi_some hm36; clear hm36
            refine ct_aald hx hb E.1 hP21 1 rfl hin37 dX0_guess_128 ?_
            refine lv_iconst (v := 0) hx hb dX0_guess_129 (by decide) ?_
            obtain ⟨hin38, hm38⟩ := gi_some hm37; clear hm37
            refine ct_rld hx hb E.1 hP21 (vp_row hin37) hin38 dX0_guess_130 ?_
            refine lv_goto (tgt := 144) hx hb dX0_guess_131 (by decide) ?_
            obtain ⟨hP39, hD39⟩ := ct_ord (n := 4) (k := 1) [3, 0, 1, 2] [0] hP21 hD21 rfl rfl (by decide +kernel) (by decide +kernel)
            have hS39 := hS21
            have hP39 : va_P D vwCl (wf [oB (r0 0) 0 [.ref (r0 1), .ref (r0 2), .ref (r0 3), .ref (r0 4), .ref (r0 5), .ref (r0 6), .int f_columns, .int f_rows, .int f_scale, .int f_toEnd, .int f_between, .int f_kept], aI (r0 1) cI 36 f_modes, aQ (r0 4) cQ r0, aI (r0 6) cI 5 f_latestOfKind] [rowsW cI r0 f_grid]) H21 := hP39
            have hD39 : va_D A (wf [oB (r0 0) 0 [.ref (r0 1), .ref (r0 2), .ref (r0 3), .ref (r0 4), .ref (r0 5), .ref (r0 6), .int f_columns, .int f_rows, .int f_scale, .int f_toEnd, .int f_between, .int f_kept], aI (r0 1) cI 36 f_modes, aQ (r0 4) cQ r0, aI (r0 6) cI 5 f_latestOfKind] [rowsW cI r0 f_grid]) := hD39
            obtain rfl := Option.some.inj hm38
            rw [hQ]
            exact ct_iret hx hb hr hlk hP39 hD39 hS39 rfl dX0_guess_144
        · have hm40 := bq_f hm25 hc26; clear hm25
          refine lv_aload_n hx hb dX0_guess_107 rfl (lv_at hl23 1 rfl) ?_
          refine va_get (D := D) (ci := 0) (v := .ref (r0 4)) (C := RX0) (T := TX0) (N := 12) hx hb hts hi_X0_guess_0 hown E.1 hP21 3 rfl rfl 3 (by decide) (hts _ (List.mem_of_getElem? (i := 2) rfl)) (fun _ h9 => h9) rfl dX0_guess_108 ?_
          refine lv_iload hx hb dX0_guess_111 (lv_at hl23 3 rfl) ?_
          obtain ⟨hin41, hm41⟩ := gi_some hm40; clear hm40
          refine ct_aald hx hb E.1 hP21 1 rfl hin41 dX0_guess_113 ?_
          refine lv_iconst (v := 0) hx hb dX0_guess_114 (by decide) ?_
          obtain ⟨hin42, hm42⟩ := gi_some hm41; clear hm41
          refine ct_rld hx hb E.1 hP21 (vp_row hin41) hin42 dX0_guess_115 ?_
          obtain ⟨hP43, hD43⟩ := ct_ord (n := 4) (k := 1) [3, 0, 1, 2] [0] hP21 hD21 rfl rfl (by decide +kernel) (by decide +kernel)
          have hS43 := hS21
          have hP43 : va_P D vwCl (wf [oB (r0 0) 0 [.ref (r0 1), .ref (r0 2), .ref (r0 3), .ref (r0 4), .ref (r0 5), .ref (r0 6), .int f_columns, .int f_rows, .int f_scale, .int f_toEnd, .int f_between, .int f_kept], aI (r0 1) cI 36 f_modes, aQ (r0 4) cQ r0, aI (r0 6) cI 5 f_latestOfKind] [rowsW cI r0 f_grid]) H21 := hP43
          have hD43 : va_D A (wf [oB (r0 0) 0 [.ref (r0 1), .ref (r0 2), .ref (r0 3), .ref (r0 4), .ref (r0 5), .ref (r0 6), .int f_columns, .int f_rows, .int f_scale, .int f_toEnd, .int f_between, .int f_kept], aI (r0 1) cI 36 f_modes, aQ (r0 4) cQ r0, aI (r0 6) cI 5 f_latestOfKind] [rowsW cI r0 f_grid]) := hD43
          obtain rfl := Option.some.inj hm42
          rw [hQ]
          exact ct_iret hx hb hr hlk hP43 hD43 hS43 rfl dX0_guess_116
      · have hm44 := bq_f hm22 hc24; clear hm22
        refine lv_iload hx hb dX0_guess_75 (lv_at hl23 0 rfl) ?_
        refine lv_if_eq (tgt := 102) hx hb dX0_guess_77 (by decide) (fun hc45 => ?_) (fun hc45 => ?_)
        · have hm46 := bq_t hm44 hc45; clear hm44
          refine lv_iload hx hb dX0_guess_102 (lv_at hl23 5 rfl) ?_
          refine lv_if_eq (tgt := 117) hx hb dX0_guess_104 (by decide) (fun hc47 => ?_) (fun hc47 => ?_)
          · have hm48 := bq_t hm46 hc47; clear hm46
            refine lv_iload hx hb dX0_guess_117 (lv_at hl23 0 rfl) ?_
            refine lv_if_eq (tgt := 134) hx hb dX0_guess_119 (by decide) (fun hc49 => ?_) (fun hc49 => ?_)
            · have hm50 := bq_t hm48 hc49; clear hm48
              refine lv_aload_n hx hb dX0_guess_134 rfl (lv_at hl23 1 rfl) ?_
              refine va_get (D := D) (ci := 0) (v := .ref (r0 6)) (C := RX0) (T := TX0) (N := 12) hx hb hts hi_X0_guess_0 hown E.1 hP21 3 rfl rfl 5 (by decide) (hts _ (List.mem_of_getElem? (i := 3) rfl)) (fun _ h9 => h9) rfl dX0_guess_135 ?_
              refine lv_aload_n hx hb dX0_guess_138 rfl (lv_at hl23 1 rfl) ?_
              refine lv_iload_n hx hb dX0_guess_139 rfl (lv_at hl23 2 rfl) ?_
              obtain ⟨y_51, hcl52, hm52⟩ := bd1_some hm50; clear hm50
              have sb53 := ctS.mk (n := 4) (k := 1) (pre := [aI (r0 1) cI 36 f_modes, aQ (r0 4) cQ r0, aI (r0 6) cI 5 f_latestOfKind, oB (r0 0) 0 [.ref (r0 1), .ref (r0 2), .ref (r0 3), .ref (r0 4), .ref (r0 5), .ref (r0 6), .int f_columns, .int f_rows, .int f_scale, .int f_toEnd, .int f_between, .int f_kept]]) (tl := [rowsW cI r0 f_grid]) [3, 0] [1, 2] [] [0] rfl rfl (by decide +kernel) (by decide +kernel)
              refine ct_calli (r := y_51) E sb53 hP21 hD21 hS21 (va_runV (As := [.int y_1]) (rest := [.ref (r0 6)]) ⟨hx, hb, hml, hown, hts⟩ (c_X0_kind l D cB cI cJ cQ N r0 H21.size y_1 f_columns f_rows f_scale f_toEnd f_between f_kept f_modes (y_51) hcl52) (cwV 1 hts gX0_guess_X0_kind rfl rfl rfl cdV_X0_kind ⟨Nat.le_of_ble_eq_true rfl, Nat.le_of_ble_eq_true rfl⟩) (ct_preV (q0 := 3) (ci := 0) E sb53 hP21 hD21 hS21 rfl rfl) rfl rfl hl23.1 rfl (lv_room (Nat.le_of_ble_eq_true rfl)) dX0_guess_140 ⟨Nat.zero_le _, Nat.zero_le _⟩) (fun H54 lc54 hP54 hD54 hS54 => ?_); clear sb53 hcl52
              clear hP21 hD21 hS21
              have hP54 : va_P D vwCl (wf [aQ (r0 4) cQ r0, aI (r0 6) cI 5 f_latestOfKind, oB (r0 0) 0 [.ref (r0 1), .ref (r0 2), .ref (r0 3), .ref (r0 4), .ref (r0 5), .ref (r0 6), .int f_columns, .int f_rows, .int f_scale, .int f_toEnd, .int f_between, .int f_kept], aI (r0 1) cI 36 f_modes] [rowsW cI r0 f_grid]) H54 := hP54
              have hD54 : va_D A (wf [aQ (r0 4) cQ r0, aI (r0 6) cI 5 f_latestOfKind, oB (r0 0) 0 [.ref (r0 1), .ref (r0 2), .ref (r0 3), .ref (r0 4), .ref (r0 5), .ref (r0 6), .int f_columns, .int f_rows, .int f_scale, .int f_toEnd, .int f_between, .int f_kept], aI (r0 1) cI 36 f_modes] [rowsW cI r0 f_grid]) := hD54
              obtain ⟨hin55, hm55⟩ := gi_some hm52; clear hm52
              refine va_iald hx hb E.1 hP54 1 0 rfl rfl hin55 dX0_guess_143 ?_
              obtain ⟨hP56, hD56⟩ := ct_ord (n := 4) (k := 1) [2, 3, 0, 1] [0] hP54 hD54 rfl rfl (by decide +kernel) (by decide +kernel)
              have hS56 := hS54
              have hP56 : va_P D vwCl (wf [oB (r0 0) 0 [.ref (r0 1), .ref (r0 2), .ref (r0 3), .ref (r0 4), .ref (r0 5), .ref (r0 6), .int f_columns, .int f_rows, .int f_scale, .int f_toEnd, .int f_between, .int f_kept], aI (r0 1) cI 36 f_modes, aQ (r0 4) cQ r0, aI (r0 6) cI 5 f_latestOfKind] [rowsW cI r0 f_grid]) H54 := hP56
              have hD56 : va_D A (wf [oB (r0 0) 0 [.ref (r0 1), .ref (r0 2), .ref (r0 3), .ref (r0 4), .ref (r0 5), .ref (r0 6), .int f_columns, .int f_rows, .int f_scale, .int f_toEnd, .int f_between, .int f_kept], aI (r0 1) cI 36 f_modes, aQ (r0 4) cQ r0, aI (r0 6) cI 5 f_latestOfKind] [rowsW cI r0 f_grid]) := hD56
              obtain rfl := Option.some.inj hm55
              rw [hQ]
              exact ct_iret hx hb hr hlk hP56 hD56 hS56 rfl dX0_guess_144
            · have hm57 := bq_f hm48 hc49; clear hm48
              refine lv_aload_n hx hb dX0_guess_122 rfl (lv_at hl23 1 rfl) ?_
              refine va_get (D := D) (ci := 0) (v := .ref (r0 4)) (C := RX0) (T := TX0) (N := 12) hx hb hts hi_X0_guess_0 hown E.1 hP21 3 rfl rfl 3 (by decide) (hts _ (List.mem_of_getElem? (i := 2) rfl)) (fun _ h9 => h9) rfl dX0_guess_123 ?_
              refine lv_iload hx hb dX0_guess_126 (lv_at hl23 4 rfl) ?_
              obtain ⟨hin58, hm58⟩ := gi_some hm57; clear hm57
              refine ct_aald hx hb E.1 hP21 1 rfl hin58 dX0_guess_128 ?_
              refine lv_iconst (v := 0) hx hb dX0_guess_129 (by decide) ?_
              obtain ⟨hin59, hm59⟩ := gi_some hm58; clear hm58
              refine ct_rld hx hb E.1 hP21 (vp_row hin58) hin59 dX0_guess_130 ?_
              refine lv_goto (tgt := 144) hx hb dX0_guess_131 (by decide) ?_
              obtain ⟨hP60, hD60⟩ := ct_ord (n := 4) (k := 1) [3, 0, 1, 2] [0] hP21 hD21 rfl rfl (by decide +kernel) (by decide +kernel)
              have hS60 := hS21
              have hP60 : va_P D vwCl (wf [oB (r0 0) 0 [.ref (r0 1), .ref (r0 2), .ref (r0 3), .ref (r0 4), .ref (r0 5), .ref (r0 6), .int f_columns, .int f_rows, .int f_scale, .int f_toEnd, .int f_between, .int f_kept], aI (r0 1) cI 36 f_modes, aQ (r0 4) cQ r0, aI (r0 6) cI 5 f_latestOfKind] [rowsW cI r0 f_grid]) H21 := hP60
              have hD60 : va_D A (wf [oB (r0 0) 0 [.ref (r0 1), .ref (r0 2), .ref (r0 3), .ref (r0 4), .ref (r0 5), .ref (r0 6), .int f_columns, .int f_rows, .int f_scale, .int f_toEnd, .int f_between, .int f_kept], aI (r0 1) cI 36 f_modes, aQ (r0 4) cQ r0, aI (r0 6) cI 5 f_latestOfKind] [rowsW cI r0 f_grid]) := hD60
              obtain rfl := Option.some.inj hm59
              rw [hQ]
              exact ct_iret hx hb hr hlk hP60 hD60 hS60 rfl dX0_guess_144
          · have hm61 := bq_f hm46 hc47; clear hm46
            refine lv_aload_n hx hb dX0_guess_107 rfl (lv_at hl23 1 rfl) ?_
            refine va_get (D := D) (ci := 0) (v := .ref (r0 4)) (C := RX0) (T := TX0) (N := 12) hx hb hts hi_X0_guess_0 hown E.1 hP21 3 rfl rfl 3 (by decide) (hts _ (List.mem_of_getElem? (i := 2) rfl)) (fun _ h9 => h9) rfl dX0_guess_108 ?_
            refine lv_iload hx hb dX0_guess_111 (lv_at hl23 3 rfl) ?_
            obtain ⟨hin62, hm62⟩ := gi_some hm61; clear hm61
            refine ct_aald hx hb E.1 hP21 1 rfl hin62 dX0_guess_113 ?_
            refine lv_iconst (v := 0) hx hb dX0_guess_114 (by decide) ?_
            obtain ⟨hin63, hm63⟩ := gi_some hm62; clear hm62
            refine ct_rld hx hb E.1 hP21 (vp_row hin62) hin63 dX0_guess_115 ?_
            obtain ⟨hP64, hD64⟩ := ct_ord (n := 4) (k := 1) [3, 0, 1, 2] [0] hP21 hD21 rfl rfl (by decide +kernel) (by decide +kernel)
            have hS64 := hS21
            have hP64 : va_P D vwCl (wf [oB (r0 0) 0 [.ref (r0 1), .ref (r0 2), .ref (r0 3), .ref (r0 4), .ref (r0 5), .ref (r0 6), .int f_columns, .int f_rows, .int f_scale, .int f_toEnd, .int f_between, .int f_kept], aI (r0 1) cI 36 f_modes, aQ (r0 4) cQ r0, aI (r0 6) cI 5 f_latestOfKind] [rowsW cI r0 f_grid]) H21 := hP64
            have hD64 : va_D A (wf [oB (r0 0) 0 [.ref (r0 1), .ref (r0 2), .ref (r0 3), .ref (r0 4), .ref (r0 5), .ref (r0 6), .int f_columns, .int f_rows, .int f_scale, .int f_toEnd, .int f_between, .int f_kept], aI (r0 1) cI 36 f_modes, aQ (r0 4) cQ r0, aI (r0 6) cI 5 f_latestOfKind] [rowsW cI r0 f_grid]) := hD64
            obtain rfl := Option.some.inj hm63
            rw [hQ]
            exact ct_iret hx hb hr hlk hP64 hD64 hS64 rfl dX0_guess_116
        · have hm65 := bq_f hm44 hc45; clear hm44
          refine lv_aload_n hx hb dX0_guess_80 rfl (lv_at hl23 1 rfl) ?_
          refine va_get (D := D) (ci := 0) (v := .ref (r0 4)) (C := RX0) (T := TX0) (N := 12) hx hb hts hi_X0_guess_0 hown E.1 hP21 3 rfl rfl 3 (by decide) (hts _ (List.mem_of_getElem? (i := 2) rfl)) (fun _ h9 => h9) rfl dX0_guess_81 ?_
          refine lv_iload hx hb dX0_guess_84 (lv_at hl23 3 rfl) ?_
          obtain ⟨hin66, hm66⟩ := gi_some hm65; clear hm65
          refine ct_aald hx hb E.1 hP21 1 rfl hin66 dX0_guess_86 ?_
          refine lv_iconst (v := 0) hx hb dX0_guess_87 (by decide) ?_
          obtain ⟨hin67, hm67⟩ := gi_some hm66; clear hm66
          refine ct_rld hx hb E.1 hP21 (vp_row hin66) hin67 dX0_guess_88 ?_
          refine lv_aload_n hx hb dX0_guess_89 rfl (lv_at hl23 1 rfl) ?_
          refine va_get (D := D) (ci := 0) (v := .ref (r0 4)) (C := RX0) (T := TX0) (N := 12) hx hb hts hi_X0_guess_0 hown E.1 hP21 3 rfl rfl 3 (by decide) (hts _ (List.mem_of_getElem? (i := 2) rfl)) (fun _ h9 => h9) rfl dX0_guess_90 ?_
          refine lv_iload hx hb dX0_guess_93 (lv_at hl23 4 rfl) ?_
          obtain ⟨hin68, hm68⟩ := gi_some hm67; clear hm67
          refine ct_aald hx hb E.1 hP21 1 rfl hin68 dX0_guess_95 ?_
          refine lv_iconst (v := 0) hx hb dX0_guess_96 (by decide) ?_
          obtain ⟨hin69, hm69⟩ := gi_some hm68; clear hm68
          refine ct_rld hx hb E.1 hP21 (vp_row hin68) hin69 dX0_guess_97 ?_
          refine lv_iadd hx hb dX0_guess_98 ?_
          refine lv_iconst (v := 2) hx hb dX0_guess_99 (by decide) ?_
          refine lv_idiv hx hb dX0_guess_100 (by decide) ?_
          obtain ⟨hP70, hD70⟩ := ct_ord (n := 4) (k := 1) [3, 0, 1, 2] [0] hP21 hD21 rfl rfl (by decide +kernel) (by decide +kernel)
          have hS70 := hS21
          have hP70 : va_P D vwCl (wf [oB (r0 0) 0 [.ref (r0 1), .ref (r0 2), .ref (r0 3), .ref (r0 4), .ref (r0 5), .ref (r0 6), .int f_columns, .int f_rows, .int f_scale, .int f_toEnd, .int f_between, .int f_kept], aI (r0 1) cI 36 f_modes, aQ (r0 4) cQ r0, aI (r0 6) cI 5 f_latestOfKind] [rowsW cI r0 f_grid]) H21 := hP70
          have hD70 : va_D A (wf [oB (r0 0) 0 [.ref (r0 1), .ref (r0 2), .ref (r0 3), .ref (r0 4), .ref (r0 5), .ref (r0 6), .int f_columns, .int f_rows, .int f_scale, .int f_toEnd, .int f_between, .int f_kept], aI (r0 1) cI 36 f_modes, aQ (r0 4) cQ r0, aI (r0 6) cI 5 f_latestOfKind] [rowsW cI r0 f_grid]) := hD70
          obtain rfl := Option.some.inj hm69
          rw [hQ]
          exact ct_iret hx hb hr hlk hP70 hD70 hS70 rfl dX0_guess_101
    refine lv_if_le (tgt := 67) hx hb dX0_guess_46 (by decide) (fun hc71 => ?_) (fun hc71 => ?_)
    · have hm72 := bq_t hm19 hc71; clear hm19
      refine lv_iconst (v := 0) hx hb dX0_guess_67 (by decide) ?_
      exact KJ19 (0 : Int32) _ _ _ hm72 hP15 hD15 hS15 (lv_sub hl17 [1, 3, 4, 5, 0] rfl)
    · have hm73 := bq_f hm19 hc71; clear hm19
      refine lv_aload_n hx hb dX0_guess_49 rfl (lv_at hl17 1 rfl) ?_
      refine lv_iload hx hb dX0_guess_50 (lv_at hl17 5 rfl) ?_
      obtain ⟨y_74, hcl75, hm75⟩ := bd1_some hm73; clear hm73
      have sb76 := ctS.mk (n := 4) (k := 1) (pre := [aI (r0 1) cI 36 f_modes, aQ (r0 4) cQ r0, aI (r0 6) cI 5 f_latestOfKind, oB (r0 0) 0 [.ref (r0 1), .ref (r0 2), .ref (r0 3), .ref (r0 4), .ref (r0 5), .ref (r0 6), .int f_columns, .int f_rows, .int f_scale, .int f_toEnd, .int f_between, .int f_kept]]) (tl := [rowsW cI r0 f_grid]) [3, 0] [1, 2] [] [0] rfl rfl (by decide +kernel) (by decide +kernel)
      refine ct_calli (r := y_74) E sb76 hP15 hD15 hS15 (va_runV (As := [.int v5_9]) (rest := []) ⟨hx, hb, hml, hown, hts⟩ (c_X0_kind l D cB cI cJ cQ N r0 H15.size v5_9 f_columns f_rows f_scale f_toEnd f_between f_kept f_modes (y_74) hcl75) (cwV 1 hts gX0_guess_X0_kind rfl rfl rfl cdV_X0_kind ⟨Nat.le_of_ble_eq_true rfl, Nat.le_of_ble_eq_true rfl⟩) (ct_preV (q0 := 3) (ci := 0) E sb76 hP15 hD15 hS15 rfl rfl) rfl rfl hl17.1 rfl (lv_room (Nat.le_of_ble_eq_true rfl)) dX0_guess_52 ⟨Nat.zero_le _, Nat.zero_le _⟩) (fun H77 lc77 hP77 hD77 hS77 => ?_); clear sb76 hcl75
      clear hP15 hD15 hS15
      have hP77 : va_P D vwCl (wf [aQ (r0 4) cQ r0, aI (r0 6) cI 5 f_latestOfKind, oB (r0 0) 0 [.ref (r0 1), .ref (r0 2), .ref (r0 3), .ref (r0 4), .ref (r0 5), .ref (r0 6), .int f_columns, .int f_rows, .int f_scale, .int f_toEnd, .int f_between, .int f_kept], aI (r0 1) cI 36 f_modes] [rowsW cI r0 f_grid]) H77 := hP77
      have hD77 : va_D A (wf [aQ (r0 4) cQ r0, aI (r0 6) cI 5 f_latestOfKind, oB (r0 0) 0 [.ref (r0 1), .ref (r0 2), .ref (r0 3), .ref (r0 4), .ref (r0 5), .ref (r0 6), .int f_columns, .int f_rows, .int f_scale, .int f_toEnd, .int f_between, .int f_kept], aI (r0 1) cI 36 f_modes] [rowsW cI r0 f_grid]) := hD77
      refine lv_aload_n hx hb dX0_guess_55 rfl (lv_at hl17 1 rfl) ?_
      refine lv_iload_n hx hb dX0_guess_56 rfl (lv_at hl17 3 rfl) ?_
      obtain ⟨y_78, hcl79, hm79⟩ := bd1_some hm75; clear hm75
      have sb80 := ctS.mk (n := 4) (k := 1) (pre := [aQ (r0 4) cQ r0, aI (r0 6) cI 5 f_latestOfKind, oB (r0 0) 0 [.ref (r0 1), .ref (r0 2), .ref (r0 3), .ref (r0 4), .ref (r0 5), .ref (r0 6), .int f_columns, .int f_rows, .int f_scale, .int f_toEnd, .int f_between, .int f_kept], aI (r0 1) cI 36 f_modes]) (tl := [rowsW cI r0 f_grid]) [2, 3] [0, 1] [] [0] rfl rfl (by decide +kernel) (by decide +kernel)
      refine ct_calli (r := y_78) E sb80 hP77 hD77 hS77 (va_runV (As := [.int y_1]) (rest := [.int y_74]) ⟨hx, hb, hml, hown, hts⟩ (c_X0_kind l D cB cI cJ cQ N r0 H77.size y_1 f_columns f_rows f_scale f_toEnd f_between f_kept f_modes (y_78) hcl79) (cwV 1 hts gX0_guess_X0_kind rfl rfl rfl cdV_X0_kind ⟨Nat.le_of_ble_eq_true rfl, Nat.le_of_ble_eq_true rfl⟩) (ct_preV (q0 := 2) (ci := 0) E sb80 hP77 hD77 hS77 rfl rfl) rfl rfl hl17.1 rfl (lv_room (Nat.le_of_ble_eq_true rfl)) dX0_guess_57 ⟨Nat.zero_le _, Nat.zero_le _⟩) (fun H81 lc81 hP81 hD81 hS81 => ?_); clear sb80 hcl79
      clear hP77 hD77 hS77
      have hP81 : va_P D vwCl (wf [aQ (r0 4) cQ r0, aI (r0 6) cI 5 f_latestOfKind, oB (r0 0) 0 [.ref (r0 1), .ref (r0 2), .ref (r0 3), .ref (r0 4), .ref (r0 5), .ref (r0 6), .int f_columns, .int f_rows, .int f_scale, .int f_toEnd, .int f_between, .int f_kept], aI (r0 1) cI 36 f_modes] [rowsW cI r0 f_grid]) H81 := hP81
      have hD81 : va_D A (wf [aQ (r0 4) cQ r0, aI (r0 6) cI 5 f_latestOfKind, oB (r0 0) 0 [.ref (r0 1), .ref (r0 2), .ref (r0 3), .ref (r0 4), .ref (r0 5), .ref (r0 6), .int f_columns, .int f_rows, .int f_scale, .int f_toEnd, .int f_between, .int f_kept], aI (r0 1) cI 36 f_modes] [rowsW cI r0 f_grid]) := hD81
      refine lv_icmp_ne (tgt := 67) hx hb dX0_guess_60 (by decide) (fun hc82 => ?_) (fun hc82 => ?_)
      · have hm83 := bq_f hm79 hc82; clear hm79
        refine lv_iconst (v := 0) hx hb dX0_guess_67 (by decide) ?_
        obtain ⟨hP84, hD84⟩ := ct_ord (n := 4) (k := 1) [3, 0, 1, 2] [0] hP81 hD81 rfl rfl (by decide +kernel) (by decide +kernel)
        have hS84 := hS81
        have hP84 : va_P D vwCl (wf [aI (r0 1) cI 36 f_modes, aQ (r0 4) cQ r0, aI (r0 6) cI 5 f_latestOfKind, oB (r0 0) 0 [.ref (r0 1), .ref (r0 2), .ref (r0 3), .ref (r0 4), .ref (r0 5), .ref (r0 6), .int f_columns, .int f_rows, .int f_scale, .int f_toEnd, .int f_between, .int f_kept]] [rowsW cI r0 f_grid]) H81 := hP84
        have hD84 : va_D A (wf [aI (r0 1) cI 36 f_modes, aQ (r0 4) cQ r0, aI (r0 6) cI 5 f_latestOfKind, oB (r0 0) 0 [.ref (r0 1), .ref (r0 2), .ref (r0 3), .ref (r0 4), .ref (r0 5), .ref (r0 6), .int f_columns, .int f_rows, .int f_scale, .int f_toEnd, .int f_between, .int f_kept]] [rowsW cI r0 f_grid]) := hD84
        exact KJ19 (0 : Int32) _ _ _ hm83 hP84 hD84 hS84 (lv_sub hl17 [1, 3, 4, 5, 0] rfl)
      · have hm85 := bq_t hm79 hc82; clear hm79
        refine lv_iconst (v := 1) hx hb dX0_guess_63 (by decide) ?_
        refine lv_goto (tgt := 68) hx hb dX0_guess_64 (by decide) ?_
        obtain ⟨hP86, hD86⟩ := ct_ord (n := 4) (k := 1) [3, 0, 1, 2] [0] hP81 hD81 rfl rfl (by decide +kernel) (by decide +kernel)
        have hS86 := hS81
        have hP86 : va_P D vwCl (wf [aI (r0 1) cI 36 f_modes, aQ (r0 4) cQ r0, aI (r0 6) cI 5 f_latestOfKind, oB (r0 0) 0 [.ref (r0 1), .ref (r0 2), .ref (r0 3), .ref (r0 4), .ref (r0 5), .ref (r0 6), .int f_columns, .int f_rows, .int f_scale, .int f_toEnd, .int f_between, .int f_kept]] [rowsW cI r0 f_grid]) H81 := hP86
        have hD86 : va_D A (wf [aI (r0 1) cI 36 f_modes, aQ (r0 4) cQ r0, aI (r0 6) cI 5 f_latestOfKind, oB (r0 0) 0 [.ref (r0 1), .ref (r0 2), .ref (r0 3), .ref (r0 4), .ref (r0 5), .ref (r0 6), .int f_columns, .int f_rows, .int f_scale, .int f_toEnd, .int f_between, .int f_kept]] [rowsW cI r0 f_grid]) := hD86
        exact KJ19 (1 : Int32) _ _ _ hm85 hP86 hD86 hS86 (lv_sub hl17 [1, 3, 4, 5, 0] rfl)
  refine lv_if_le (tgt := 42) hx hb dX0_guess_21 (by decide) (fun hc87 => ?_) (fun hc87 => ?_)
  · have hm88 := bq_t hm13 hc87; clear hm13
    refine lv_iconst (v := 0) hx hb dX0_guess_42 (by decide) ?_
    exact KJ13 (0 : Int32) _ _ _ hm88 hP4 hD4 hS4 (lv_sub hl11 [3, 5, 2, 1, 0] rfl)
  · have hm89 := bq_f hm13 hc87; clear hm13
    refine lv_aload_n hx hb dX0_guess_24 rfl (lv_at hl11 3 rfl) ?_
    refine lv_iload hx hb dX0_guess_25 (lv_at hl11 1 rfl) ?_
    obtain ⟨y_90, hcl91, hm91⟩ := bd1_some hm89; clear hm89
    have sb92 := ctS.mk (n := 4) (k := 1) (pre := [aI (r0 1) cI 36 f_modes, aQ (r0 4) cQ r0, aI (r0 6) cI 5 f_latestOfKind, oB (r0 0) 0 [.ref (r0 1), .ref (r0 2), .ref (r0 3), .ref (r0 4), .ref (r0 5), .ref (r0 6), .int f_columns, .int f_rows, .int f_scale, .int f_toEnd, .int f_between, .int f_kept]]) (tl := [rowsW cI r0 f_grid]) [3, 0] [1, 2] [] [0] rfl rfl (by decide +kernel) (by decide +kernel)
    refine ct_calli (r := y_90) E sb92 hP4 hD4 hS4 (va_runV (As := [.int v4_6]) (rest := []) ⟨hx, hb, hml, hown, hts⟩ (c_X0_kind l D cB cI cJ cQ N r0 H4.size v4_6 f_columns f_rows f_scale f_toEnd f_between f_kept f_modes (y_90) hcl91) (cwV 1 hts gX0_guess_X0_kind rfl rfl rfl cdV_X0_kind ⟨Nat.le_of_ble_eq_true rfl, Nat.le_of_ble_eq_true rfl⟩) (ct_preV (q0 := 3) (ci := 0) E sb92 hP4 hD4 hS4 rfl rfl) rfl rfl hl11.1 rfl (lv_room (Nat.le_of_ble_eq_true rfl)) dX0_guess_27 ⟨Nat.zero_le _, Nat.zero_le _⟩) (fun H93 lc93 hP93 hD93 hS93 => ?_); clear sb92 hcl91
    clear hP4 hD4 hS4
    have hP93 : va_P D vwCl (wf [aQ (r0 4) cQ r0, aI (r0 6) cI 5 f_latestOfKind, oB (r0 0) 0 [.ref (r0 1), .ref (r0 2), .ref (r0 3), .ref (r0 4), .ref (r0 5), .ref (r0 6), .int f_columns, .int f_rows, .int f_scale, .int f_toEnd, .int f_between, .int f_kept], aI (r0 1) cI 36 f_modes] [rowsW cI r0 f_grid]) H93 := hP93
    have hD93 : va_D A (wf [aQ (r0 4) cQ r0, aI (r0 6) cI 5 f_latestOfKind, oB (r0 0) 0 [.ref (r0 1), .ref (r0 2), .ref (r0 3), .ref (r0 4), .ref (r0 5), .ref (r0 6), .int f_columns, .int f_rows, .int f_scale, .int f_toEnd, .int f_between, .int f_kept], aI (r0 1) cI 36 f_modes] [rowsW cI r0 f_grid]) := hD93
    refine lv_aload_n hx hb dX0_guess_30 rfl (lv_at hl11 3 rfl) ?_
    refine lv_iload_n hx hb dX0_guess_31 rfl (lv_at hl11 2 rfl) ?_
    obtain ⟨y_94, hcl95, hm95⟩ := bd1_some hm91; clear hm91
    have sb96 := ctS.mk (n := 4) (k := 1) (pre := [aQ (r0 4) cQ r0, aI (r0 6) cI 5 f_latestOfKind, oB (r0 0) 0 [.ref (r0 1), .ref (r0 2), .ref (r0 3), .ref (r0 4), .ref (r0 5), .ref (r0 6), .int f_columns, .int f_rows, .int f_scale, .int f_toEnd, .int f_between, .int f_kept], aI (r0 1) cI 36 f_modes]) (tl := [rowsW cI r0 f_grid]) [2, 3] [0, 1] [] [0] rfl rfl (by decide +kernel) (by decide +kernel)
    refine ct_calli (r := y_94) E sb96 hP93 hD93 hS93 (va_runV (As := [.int y_1]) (rest := [.int y_90]) ⟨hx, hb, hml, hown, hts⟩ (c_X0_kind l D cB cI cJ cQ N r0 H93.size y_1 f_columns f_rows f_scale f_toEnd f_between f_kept f_modes (y_94) hcl95) (cwV 1 hts gX0_guess_X0_kind rfl rfl rfl cdV_X0_kind ⟨Nat.le_of_ble_eq_true rfl, Nat.le_of_ble_eq_true rfl⟩) (ct_preV (q0 := 2) (ci := 0) E sb96 hP93 hD93 hS93 rfl rfl) rfl rfl hl11.1 rfl (lv_room (Nat.le_of_ble_eq_true rfl)) dX0_guess_32 ⟨Nat.zero_le _, Nat.zero_le _⟩) (fun H97 lc97 hP97 hD97 hS97 => ?_); clear sb96 hcl95
    clear hP93 hD93 hS93
    have hP97 : va_P D vwCl (wf [aQ (r0 4) cQ r0, aI (r0 6) cI 5 f_latestOfKind, oB (r0 0) 0 [.ref (r0 1), .ref (r0 2), .ref (r0 3), .ref (r0 4), .ref (r0 5), .ref (r0 6), .int f_columns, .int f_rows, .int f_scale, .int f_toEnd, .int f_between, .int f_kept], aI (r0 1) cI 36 f_modes] [rowsW cI r0 f_grid]) H97 := hP97
    have hD97 : va_D A (wf [aQ (r0 4) cQ r0, aI (r0 6) cI 5 f_latestOfKind, oB (r0 0) 0 [.ref (r0 1), .ref (r0 2), .ref (r0 3), .ref (r0 4), .ref (r0 5), .ref (r0 6), .int f_columns, .int f_rows, .int f_scale, .int f_toEnd, .int f_between, .int f_kept], aI (r0 1) cI 36 f_modes] [rowsW cI r0 f_grid]) := hD97
    refine lv_icmp_ne (tgt := 42) hx hb dX0_guess_35 (by decide) (fun hc98 => ?_) (fun hc98 => ?_)
    · have hm99 := bq_f hm95 hc98; clear hm95
      refine lv_iconst (v := 0) hx hb dX0_guess_42 (by decide) ?_
      obtain ⟨hP100, hD100⟩ := ct_ord (n := 4) (k := 1) [3, 0, 1, 2] [0] hP97 hD97 rfl rfl (by decide +kernel) (by decide +kernel)
      have hS100 := hS97
      have hP100 : va_P D vwCl (wf [aI (r0 1) cI 36 f_modes, aQ (r0 4) cQ r0, aI (r0 6) cI 5 f_latestOfKind, oB (r0 0) 0 [.ref (r0 1), .ref (r0 2), .ref (r0 3), .ref (r0 4), .ref (r0 5), .ref (r0 6), .int f_columns, .int f_rows, .int f_scale, .int f_toEnd, .int f_between, .int f_kept]] [rowsW cI r0 f_grid]) H97 := hP100
      have hD100 : va_D A (wf [aI (r0 1) cI 36 f_modes, aQ (r0 4) cQ r0, aI (r0 6) cI 5 f_latestOfKind, oB (r0 0) 0 [.ref (r0 1), .ref (r0 2), .ref (r0 3), .ref (r0 4), .ref (r0 5), .ref (r0 6), .int f_columns, .int f_rows, .int f_scale, .int f_toEnd, .int f_between, .int f_kept]] [rowsW cI r0 f_grid]) := hD100
      exact KJ13 (0 : Int32) _ _ _ hm99 hP100 hD100 hS100 (lv_sub hl11 [3, 5, 2, 1, 0] rfl)
    · have hm101 := bq_t hm95 hc98; clear hm95
      refine lv_iconst (v := 1) hx hb dX0_guess_38 (by decide) ?_
      refine lv_goto (tgt := 43) hx hb dX0_guess_39 (by decide) ?_
      obtain ⟨hP102, hD102⟩ := ct_ord (n := 4) (k := 1) [3, 0, 1, 2] [0] hP97 hD97 rfl rfl (by decide +kernel) (by decide +kernel)
      have hS102 := hS97
      have hP102 : va_P D vwCl (wf [aI (r0 1) cI 36 f_modes, aQ (r0 4) cQ r0, aI (r0 6) cI 5 f_latestOfKind, oB (r0 0) 0 [.ref (r0 1), .ref (r0 2), .ref (r0 3), .ref (r0 4), .ref (r0 5), .ref (r0 6), .int f_columns, .int f_rows, .int f_scale, .int f_toEnd, .int f_between, .int f_kept]] [rowsW cI r0 f_grid]) H97 := hP102
      have hD102 : va_D A (wf [aI (r0 1) cI 36 f_modes, aQ (r0 4) cQ r0, aI (r0 6) cI 5 f_latestOfKind, oB (r0 0) 0 [.ref (r0 1), .ref (r0 2), .ref (r0 3), .ref (r0 4), .ref (r0 5), .ref (r0 6), .int f_columns, .int f_rows, .int f_scale, .int f_toEnd, .int f_between, .int f_kept]] [rowsW cI r0 f_grid]) := hD102
      exact KJ13 (1 : Int32) _ _ _ hm101 hP102 hD102 hS102 (lv_sub hl11 [3, 5, 2, 1, 0] rfl)
