def f_X1_columns (h_columns : Int32) : Option (Int32) :=
  some (h_columns)

abbrev rm_X1_columns : Room := { frames := 0, cells := 0, slots := 0, locals := 0 }

theorem cdS_X1_columns : yX1_columns.cls ≠ "java/lang/invoke/MethodHandle" ∧ yX1_columns.cls ≠ "java/lang/invoke/VarHandle" ∧ (parseMethodDescriptor yX1_columns.desc).map (fun d => d.parameters.length) = some 0 := by decide +kernel

theorem cdV_X1_columns : yX1_columns.cls = RX1 ∧ yX1_columns.cls ≠ "java/lang/invoke/MethodHandle" ∧ yX1_columns.cls ≠ "java/lang/invoke/VarHandle" ∧ (parseMethodDescriptor yX1_columns.desc).map (fun d => d.parameters.length) = some 0 := ⟨rfl, cdS_X1_columns⟩

theorem hi_X1_columns_1 : ∀ w ∈ u_ws RX1 TX1 8, w ∈ wsX1_columns := fun _ h => List.mem_cons_of_mem _ (List.mem_append_right _ h)

set_option maxHeartbeats 40000000 in
set_option maxRecDepth 100000 in
theorem c_X1_columns (l : Launch) (D : va_G) (cB cI cJ cQ : ClassId) (N : Nat) (r0 : Nat → Nat) (sz : Nat) (h_columns : Int32) (h_rows : Int32) (h_limit : Int32) (o : Int32) (hm0 : f_X1_columns h_columns = some o) : Met l yX1_columns wsX1_columns rm_X1_columns (ctP D cB cI cJ cQ N sz [.ref (r0 0)] (wf [oB (r0 0) 1 [.ref (r0 1), .ref (r0 2), .ref (r0 3), .ref (r0 5), .ref (r0 7), .int h_columns, .int h_rows, .int h_limit]] [])) (ctQi D o (wf [oB (r0 0) 1 [.ref (r0 1), .ref (r0 2), .ref (r0 3), .ref (r0 5), .ref (r0 7), .int h_columns, .int h_rows, .int h_limit]] []) (va_A (wf [oB (r0 0) 1 [.ref (r0 1), .ref (r0 2), .ref (r0 3), .ref (r0 5), .ref (r0 7), .int h_columns, .int h_rows, .int h_limit]] []) sz)) 0 0 (va_A (wf [oB (r0 0) 1 [.ref (r0 1), .ref (r0 2), .ref (r0 3), .ref (r0 5), .ref (r0 7), .int h_columns, .int h_rows, .int h_limit]] []) sz) := by
  refine ct_of (cc := cX1_columns) (maxL := 1) (ret := (some .int)) (own := RX1) (Qp := ctQi D o (wf [oB (r0 0) 1 [.ref (r0 1), .ref (r0 2), .ref (r0 3), .ref (r0 5), .ref (r0 7), .int h_columns, .int h_rows, .int h_limit]] [])) (by decide) rfl rfl (Nat.le_of_ble_eq_true rfl) ?_
  intro p e s m args below meth c A hx hb hr hml hown hts hlk hnm hsz hAe E hP0 hD0 hS0 ls0 hl0
  subst hsz
  have hl0 : lv_has ls0 1 [(0, .ref (r0 0))] := hl0
  obtain ⟨QQ, hQ⟩ : ∃ Q : State → Prop, Q = MQ below (ctQi D o (wf [oB (r0 0) 1 [.ref (r0 1), .ref (r0 2), .ref (r0 3), .ref (r0 5), .ref (r0 7), .int h_columns, .int h_rows, .int h_limit]] []) A) args s 0 0 A := ⟨_, rfl⟩
  rw [← hQ]
  unfold f_X1_columns at hm0
  refine lv_aload_n hx hb dX1_columns_0 rfl (lv_at hl0 0 rfl) ?_
  refine va_get (D := D) (ci := 1) (v := .int h_columns) (C := RX1) (T := TX1) (N := 8) hx hb hts hi_X1_columns_1 hown E.1 hP0 0 rfl rfl 5 (by decide) (hts _ (List.mem_of_getElem? (i := 1) rfl)) (fun _ h9 => h9) rfl dX1_columns_1 ?_
  obtain rfl := Option.some.inj hm0
  rw [hQ]
  exact ct_iret hx hb hr hlk hP0 hD0 hS0 rfl dX1_columns_4

def f_X1_rows (h_rows : Int32) : Option (Int32) :=
  some (h_rows)

abbrev rm_X1_rows : Room := { frames := 0, cells := 0, slots := 0, locals := 0 }

theorem cdS_X1_rows : yX1_rows.cls ≠ "java/lang/invoke/MethodHandle" ∧ yX1_rows.cls ≠ "java/lang/invoke/VarHandle" ∧ (parseMethodDescriptor yX1_rows.desc).map (fun d => d.parameters.length) = some 0 := by decide +kernel

theorem cdV_X1_rows : yX1_rows.cls = RX1 ∧ yX1_rows.cls ≠ "java/lang/invoke/MethodHandle" ∧ yX1_rows.cls ≠ "java/lang/invoke/VarHandle" ∧ (parseMethodDescriptor yX1_rows.desc).map (fun d => d.parameters.length) = some 0 := ⟨rfl, cdS_X1_rows⟩

theorem hi_X1_rows_1 : ∀ w ∈ u_ws RX1 TX1 8, w ∈ wsX1_rows := fun _ h => List.mem_cons_of_mem _ (List.mem_append_right _ h)

set_option maxHeartbeats 40000000 in
set_option maxRecDepth 100000 in
theorem c_X1_rows (l : Launch) (D : va_G) (cB cI cJ cQ : ClassId) (N : Nat) (r0 : Nat → Nat) (sz : Nat) (h_columns : Int32) (h_rows : Int32) (h_limit : Int32) (o : Int32) (hm0 : f_X1_rows h_rows = some o) : Met l yX1_rows wsX1_rows rm_X1_rows (ctP D cB cI cJ cQ N sz [.ref (r0 0)] (wf [oB (r0 0) 1 [.ref (r0 1), .ref (r0 2), .ref (r0 3), .ref (r0 5), .ref (r0 7), .int h_columns, .int h_rows, .int h_limit]] [])) (ctQi D o (wf [oB (r0 0) 1 [.ref (r0 1), .ref (r0 2), .ref (r0 3), .ref (r0 5), .ref (r0 7), .int h_columns, .int h_rows, .int h_limit]] []) (va_A (wf [oB (r0 0) 1 [.ref (r0 1), .ref (r0 2), .ref (r0 3), .ref (r0 5), .ref (r0 7), .int h_columns, .int h_rows, .int h_limit]] []) sz)) 0 0 (va_A (wf [oB (r0 0) 1 [.ref (r0 1), .ref (r0 2), .ref (r0 3), .ref (r0 5), .ref (r0 7), .int h_columns, .int h_rows, .int h_limit]] []) sz) := by
  refine ct_of (cc := cX1_rows) (maxL := 1) (ret := (some .int)) (own := RX1) (Qp := ctQi D o (wf [oB (r0 0) 1 [.ref (r0 1), .ref (r0 2), .ref (r0 3), .ref (r0 5), .ref (r0 7), .int h_columns, .int h_rows, .int h_limit]] [])) (by decide) rfl rfl (Nat.le_of_ble_eq_true rfl) ?_
  intro p e s m args below meth c A hx hb hr hml hown hts hlk hnm hsz hAe E hP0 hD0 hS0 ls0 hl0
  subst hsz
  have hl0 : lv_has ls0 1 [(0, .ref (r0 0))] := hl0
  obtain ⟨QQ, hQ⟩ : ∃ Q : State → Prop, Q = MQ below (ctQi D o (wf [oB (r0 0) 1 [.ref (r0 1), .ref (r0 2), .ref (r0 3), .ref (r0 5), .ref (r0 7), .int h_columns, .int h_rows, .int h_limit]] []) A) args s 0 0 A := ⟨_, rfl⟩
  rw [← hQ]
  unfold f_X1_rows at hm0
  refine lv_aload_n hx hb dX1_rows_0 rfl (lv_at hl0 0 rfl) ?_
  refine va_get (D := D) (ci := 1) (v := .int h_rows) (C := RX1) (T := TX1) (N := 8) hx hb hts hi_X1_rows_1 hown E.1 hP0 0 rfl rfl 6 (by decide) (hts _ (List.mem_of_getElem? (i := 1) rfl)) (fun _ h9 => h9) rfl dX1_rows_1 ?_
  obtain rfl := Option.some.inj hm0
  rw [hQ]
  exact ct_iret hx hb hr hlk hP0 hD0 hS0 rfl dX1_rows_4

def f_X1_limit (h_limit : Int32) : Option (Int32) :=
  some (h_limit)

abbrev rm_X1_limit : Room := { frames := 0, cells := 0, slots := 0, locals := 0 }

theorem cdS_X1_limit : yX1_limit.cls ≠ "java/lang/invoke/MethodHandle" ∧ yX1_limit.cls ≠ "java/lang/invoke/VarHandle" ∧ (parseMethodDescriptor yX1_limit.desc).map (fun d => d.parameters.length) = some 0 := by decide +kernel

theorem cdV_X1_limit : yX1_limit.cls = RX1 ∧ yX1_limit.cls ≠ "java/lang/invoke/MethodHandle" ∧ yX1_limit.cls ≠ "java/lang/invoke/VarHandle" ∧ (parseMethodDescriptor yX1_limit.desc).map (fun d => d.parameters.length) = some 0 := ⟨rfl, cdS_X1_limit⟩

theorem hi_X1_limit_1 : ∀ w ∈ u_ws RX1 TX1 8, w ∈ wsX1_limit := fun _ h => List.mem_cons_of_mem _ (List.mem_append_right _ h)

set_option maxHeartbeats 40000000 in
set_option maxRecDepth 100000 in
theorem c_X1_limit (l : Launch) (D : va_G) (cB cI cJ cQ : ClassId) (N : Nat) (r0 : Nat → Nat) (sz : Nat) (h_columns : Int32) (h_rows : Int32) (h_limit : Int32) (o : Int32) (hm0 : f_X1_limit h_limit = some o) : Met l yX1_limit wsX1_limit rm_X1_limit (ctP D cB cI cJ cQ N sz [.ref (r0 0)] (wf [oB (r0 0) 1 [.ref (r0 1), .ref (r0 2), .ref (r0 3), .ref (r0 5), .ref (r0 7), .int h_columns, .int h_rows, .int h_limit]] [])) (ctQi D o (wf [oB (r0 0) 1 [.ref (r0 1), .ref (r0 2), .ref (r0 3), .ref (r0 5), .ref (r0 7), .int h_columns, .int h_rows, .int h_limit]] []) (va_A (wf [oB (r0 0) 1 [.ref (r0 1), .ref (r0 2), .ref (r0 3), .ref (r0 5), .ref (r0 7), .int h_columns, .int h_rows, .int h_limit]] []) sz)) 0 0 (va_A (wf [oB (r0 0) 1 [.ref (r0 1), .ref (r0 2), .ref (r0 3), .ref (r0 5), .ref (r0 7), .int h_columns, .int h_rows, .int h_limit]] []) sz) := by
  refine ct_of (cc := cX1_limit) (maxL := 1) (ret := (some .int)) (own := RX1) (Qp := ctQi D o (wf [oB (r0 0) 1 [.ref (r0 1), .ref (r0 2), .ref (r0 3), .ref (r0 5), .ref (r0 7), .int h_columns, .int h_rows, .int h_limit]] [])) (by decide) rfl rfl (Nat.le_of_ble_eq_true rfl) ?_
  intro p e s m args below meth c A hx hb hr hml hown hts hlk hnm hsz hAe E hP0 hD0 hS0 ls0 hl0
  subst hsz
  have hl0 : lv_has ls0 1 [(0, .ref (r0 0))] := hl0
  obtain ⟨QQ, hQ⟩ : ∃ Q : State → Prop, Q = MQ below (ctQi D o (wf [oB (r0 0) 1 [.ref (r0 1), .ref (r0 2), .ref (r0 3), .ref (r0 5), .ref (r0 7), .int h_columns, .int h_rows, .int h_limit]] []) A) args s 0 0 A := ⟨_, rfl⟩
  rw [← hQ]
  unfold f_X1_limit at hm0
  refine lv_aload_n hx hb dX1_limit_0 rfl (lv_at hl0 0 rfl) ?_
  refine va_get (D := D) (ci := 1) (v := .int h_limit) (C := RX1) (T := TX1) (N := 8) hx hb hts hi_X1_limit_1 hown E.1 hP0 0 rfl rfl 7 (by decide) (hts _ (List.mem_of_getElem? (i := 1) rfl)) (fun _ h9 => h9) rfl dX1_limit_1 ?_
  obtain rfl := Option.some.inj hm0
  rw [hQ]
  exact ct_iret hx hb hr hlk hP0 hD0 hS0 rfl dX1_limit_4

abbrev rm_X1_treeFor : Room := { frames := 0, cells := 0, slots := 0, locals := 0 }

theorem cdS_X1_treeFor : yX1_treeFor.cls ≠ "java/lang/invoke/MethodHandle" ∧ yX1_treeFor.cls ≠ "java/lang/invoke/VarHandle" ∧ (parseMethodDescriptor yX1_treeFor.desc).map (fun d => d.parameters.length) = some 1 := by decide +kernel

theorem cdV_X1_treeFor : yX1_treeFor.cls = RX1 ∧ yX1_treeFor.cls ≠ "java/lang/invoke/MethodHandle" ∧ yX1_treeFor.cls ≠ "java/lang/invoke/VarHandle" ∧ (parseMethodDescriptor yX1_treeFor.desc).map (fun d => d.parameters.length) = some 1 := ⟨rfl, cdS_X1_treeFor⟩

theorem hi_X1_treeFor_1 : ∀ w ∈ u_ws RX1 TX1 8, w ∈ wsX1_treeFor := fun _ h => List.mem_cons_of_mem _ (List.mem_append_right _ h)

set_option maxHeartbeats 40000000 in
set_option maxRecDepth 100000 in
theorem c_X1_treeFor_t (l : Launch) (D : va_G) (cB cI cJ cQ : ClassId) (N : Nat) (r0 : Nat → Nat) (sz : Nat) (x1 : Int32) (h_columns h_rows h_limit : Int32) (hc0 : x1 = (0 : Int32)) : Met l yX1_treeFor wsX1_treeFor rm_X1_treeFor (ctP D cB cI cJ cQ N sz [.ref (r0 0), .int x1] (wf [oB (r0 0) 1 [.ref (r0 1), .ref (r0 2), .ref (r0 3), .ref (r0 5), .ref (r0 7), .int h_columns, .int h_rows, .int h_limit]] [])) (ctQr D (r0 3) (wf [oB (r0 0) 1 [.ref (r0 1), .ref (r0 2), .ref (r0 3), .ref (r0 5), .ref (r0 7), .int h_columns, .int h_rows, .int h_limit]] []) (va_A (wf [oB (r0 0) 1 [.ref (r0 1), .ref (r0 2), .ref (r0 3), .ref (r0 5), .ref (r0 7), .int h_columns, .int h_rows, .int h_limit]] []) sz)) 0 0 (va_A (wf [oB (r0 0) 1 [.ref (r0 1), .ref (r0 2), .ref (r0 3), .ref (r0 5), .ref (r0 7), .int h_columns, .int h_rows, .int h_limit]] []) sz) := by
  refine ct_of (cc := cX1_treeFor) (maxL := 2) (ret := (some (.object "FilmBlocks$Tree"))) (own := RX1) (Qp := ctQr D (r0 3) (wf [oB (r0 0) 1 [.ref (r0 1), .ref (r0 2), .ref (r0 3), .ref (r0 5), .ref (r0 7), .int h_columns, .int h_rows, .int h_limit]] [])) (by decide) rfl rfl (Nat.le_of_ble_eq_true rfl) ?_
  intro p e s m args below meth c A hx hb hr hml hown hts hlk hnm hsz hAe E hP0 hD0 hS0 ls0 hl0
  subst hsz
  have hl0 : lv_has ls0 2 [(0, .ref (r0 0)), (1, .int x1)] := hl0
  refine lv_iload_n hx hb dX1_treeFor_0 rfl (lv_at hl0 1 rfl) ?_
  refine lv_if_ne (tgt := 11) hx hb dX1_treeFor_1 (by decide) (fun hc1 => ?_) (fun hc1 => ?_)
  case refine_1 => exact absurd hc0 hc1
  refine lv_aload_n hx hb dX1_treeFor_4 rfl (lv_at hl0 0 rfl) ?_
  refine va_get (D := D) (ci := 1) (v := .ref (r0 3)) (C := RX1) (T := TX1) (N := 8) hx hb hts hi_X1_treeFor_1 hown E.1 hP0 0 rfl rfl 2 (by decide) (hts _ (List.mem_of_getElem? (i := 1) rfl)) (fun _ h9 => h9) rfl dX1_treeFor_5 ?_
  refine lv_goto (tgt := 15) hx hb dX1_treeFor_8 (by decide) ?_
  exact ct_aret hx hb hr hlk hP0 hD0 hS0 rfl dX1_treeFor_15

set_option maxHeartbeats 40000000 in
set_option maxRecDepth 100000 in
theorem c_X1_treeFor_f (l : Launch) (D : va_G) (cB cI cJ cQ : ClassId) (N : Nat) (r0 : Nat → Nat) (sz : Nat) (x1 : Int32) (h_columns h_rows h_limit : Int32) (hc0 : ¬ x1 = (0 : Int32)) : Met l yX1_treeFor wsX1_treeFor rm_X1_treeFor (ctP D cB cI cJ cQ N sz [.ref (r0 0), .int x1] (wf [oB (r0 0) 1 [.ref (r0 1), .ref (r0 2), .ref (r0 3), .ref (r0 5), .ref (r0 7), .int h_columns, .int h_rows, .int h_limit]] [])) (ctQr D (r0 5) (wf [oB (r0 0) 1 [.ref (r0 1), .ref (r0 2), .ref (r0 3), .ref (r0 5), .ref (r0 7), .int h_columns, .int h_rows, .int h_limit]] []) (va_A (wf [oB (r0 0) 1 [.ref (r0 1), .ref (r0 2), .ref (r0 3), .ref (r0 5), .ref (r0 7), .int h_columns, .int h_rows, .int h_limit]] []) sz)) 0 0 (va_A (wf [oB (r0 0) 1 [.ref (r0 1), .ref (r0 2), .ref (r0 3), .ref (r0 5), .ref (r0 7), .int h_columns, .int h_rows, .int h_limit]] []) sz) := by
  refine ct_of (cc := cX1_treeFor) (maxL := 2) (ret := (some (.object "FilmBlocks$Tree"))) (own := RX1) (Qp := ctQr D (r0 5) (wf [oB (r0 0) 1 [.ref (r0 1), .ref (r0 2), .ref (r0 3), .ref (r0 5), .ref (r0 7), .int h_columns, .int h_rows, .int h_limit]] [])) (by decide) rfl rfl (Nat.le_of_ble_eq_true rfl) ?_
  intro p e s m args below meth c A hx hb hr hml hown hts hlk hnm hsz hAe E hP0 hD0 hS0 ls0 hl0
  subst hsz
  have hl0 : lv_has ls0 2 [(0, .ref (r0 0)), (1, .int x1)] := hl0
  refine lv_iload_n hx hb dX1_treeFor_0 rfl (lv_at hl0 1 rfl) ?_
  refine lv_if_ne (tgt := 11) hx hb dX1_treeFor_1 (by decide) (fun hc1 => ?_) (fun hc1 => ?_)
  case refine_2 => exact absurd hc1 hc0
  refine lv_aload_n hx hb dX1_treeFor_11 rfl (lv_at hl0 0 rfl) ?_
  refine va_get (D := D) (ci := 1) (v := .ref (r0 5)) (C := RX1) (T := TX1) (N := 8) hx hb hts hi_X1_treeFor_1 hown E.1 hP0 0 rfl rfl 3 (by decide) (hts _ (List.mem_of_getElem? (i := 2) rfl)) (fun _ h9 => h9) rfl dX1_treeFor_12 ?_
  exact ct_aret hx hb hr hlk hP0 hD0 hS0 rfl dX1_treeFor_15


def f_X1_ordered (x1 : Int32) (h_order : Nat → Int32) : Option (Int32) :=
  gi x1 36 <|
  some ((h_order x1.toNatClampNeg))

abbrev rm_X1_ordered : Room := { frames := 0, cells := 0, slots := 0, locals := 0 }

theorem cdS_X1_ordered : yX1_ordered.cls ≠ "java/lang/invoke/MethodHandle" ∧ yX1_ordered.cls ≠ "java/lang/invoke/VarHandle" ∧ (parseMethodDescriptor yX1_ordered.desc).map (fun d => d.parameters.length) = some 1 := by decide +kernel

theorem cdV_X1_ordered : yX1_ordered.cls = RX1 ∧ yX1_ordered.cls ≠ "java/lang/invoke/MethodHandle" ∧ yX1_ordered.cls ≠ "java/lang/invoke/VarHandle" ∧ (parseMethodDescriptor yX1_ordered.desc).map (fun d => d.parameters.length) = some 1 := ⟨rfl, cdS_X1_ordered⟩

theorem hi_X1_ordered_1 : ∀ w ∈ u_ws RX1 TX1 8, w ∈ wsX1_ordered := fun _ h => List.mem_cons_of_mem _ (List.mem_append_right _ h)

set_option maxHeartbeats 40000000 in
set_option maxRecDepth 100000 in
theorem c_X1_ordered (l : Launch) (D : va_G) (cB cI cJ cQ : ClassId) (N : Nat) (r0 : Nat → Nat) (sz : Nat) (x1 : Int32) (h_columns : Int32) (h_rows : Int32) (h_limit : Int32) (h_order : Nat → Int32) (o : Int32) (hm0 : f_X1_ordered x1 h_order = some o) : Met l yX1_ordered wsX1_ordered rm_X1_ordered (ctP D cB cI cJ cQ N sz [.ref (r0 0), .int x1] (wf [oB (r0 0) 1 [.ref (r0 1), .ref (r0 2), .ref (r0 3), .ref (r0 5), .ref (r0 7), .int h_columns, .int h_rows, .int h_limit], aI (r0 7) cI 36 h_order] [])) (ctQi D o (wf [oB (r0 0) 1 [.ref (r0 1), .ref (r0 2), .ref (r0 3), .ref (r0 5), .ref (r0 7), .int h_columns, .int h_rows, .int h_limit], aI (r0 7) cI 36 h_order] []) (va_A (wf [oB (r0 0) 1 [.ref (r0 1), .ref (r0 2), .ref (r0 3), .ref (r0 5), .ref (r0 7), .int h_columns, .int h_rows, .int h_limit], aI (r0 7) cI 36 h_order] []) sz)) 0 0 (va_A (wf [oB (r0 0) 1 [.ref (r0 1), .ref (r0 2), .ref (r0 3), .ref (r0 5), .ref (r0 7), .int h_columns, .int h_rows, .int h_limit], aI (r0 7) cI 36 h_order] []) sz) := by
  refine ct_of (cc := cX1_ordered) (maxL := 2) (ret := (some .int)) (own := RX1) (Qp := ctQi D o (wf [oB (r0 0) 1 [.ref (r0 1), .ref (r0 2), .ref (r0 3), .ref (r0 5), .ref (r0 7), .int h_columns, .int h_rows, .int h_limit], aI (r0 7) cI 36 h_order] [])) (by decide) rfl rfl (Nat.le_of_ble_eq_true rfl) ?_
  intro p e s m args below meth c A hx hb hr hml hown hts hlk hnm hsz hAe E hP0 hD0 hS0 ls0 hl0
  subst hsz
  have hl0 : lv_has ls0 2 [(0, .ref (r0 0)), (1, .int x1)] := hl0
  obtain ⟨QQ, hQ⟩ : ∃ Q : State → Prop, Q = MQ below (ctQi D o (wf [oB (r0 0) 1 [.ref (r0 1), .ref (r0 2), .ref (r0 3), .ref (r0 5), .ref (r0 7), .int h_columns, .int h_rows, .int h_limit], aI (r0 7) cI 36 h_order] []) A) args s 0 0 A := ⟨_, rfl⟩
  rw [← hQ]
  unfold f_X1_ordered at hm0
  refine lv_aload_n hx hb dX1_ordered_0 rfl (lv_at hl0 0 rfl) ?_
  refine va_get (D := D) (ci := 1) (v := .ref (r0 7)) (C := RX1) (T := TX1) (N := 8) hx hb hts hi_X1_ordered_1 hown E.1 hP0 0 rfl rfl 4 (by decide) (hts _ (List.mem_of_getElem? (i := 1) rfl)) (fun _ h9 => h9) rfl dX1_ordered_1 ?_
  refine lv_iload_n hx hb dX1_ordered_4 rfl (lv_at hl0 1 rfl) ?_
  obtain ⟨hin1, hm1⟩ := gi_some hm0; clear hm0
  refine va_iald hx hb E.1 hP0 1 0 rfl rfl hin1 dX1_ordered_5 ?_
  obtain rfl := Option.some.inj hm1
  rw [hQ]
  exact ct_iret hx hb hr hlk hP0 hD0 hS0 rfl dX1_ordered_6

def f_X1_factor (x1 : Int32) (x2 : Int32) (h_scales : Nat → Int32) (h_steps : Nat → Int32) : Option (Int32) :=
  gi (x2 / (4 : Int32)) 16 <|
  gi x1 8 <|
  bd1 (f_X6_bring (((h_steps (x2 / (4 : Int32)).toNatClampNeg) * (h_scales x1.toNatClampNeg)) / (100 : Int32)) (2 : Int32) (4096 : Int32)) fun y_3 =>
  some (y_3)

abbrev rm_X1_factor : Room := { frames := 2, cells := 0, slots := 0, locals := 82 }

theorem cdS_X1_factor : yX1_factor.cls ≠ "java/lang/invoke/MethodHandle" ∧ yX1_factor.cls ≠ "java/lang/invoke/VarHandle" ∧ (parseMethodDescriptor yX1_factor.desc).map (fun d => d.parameters.length) = some 2 := by decide +kernel

theorem cdV_X1_factor : yX1_factor.cls = RX1 ∧ yX1_factor.cls ≠ "java/lang/invoke/MethodHandle" ∧ yX1_factor.cls ≠ "java/lang/invoke/VarHandle" ∧ (parseMethodDescriptor yX1_factor.desc).map (fun d => d.parameters.length) = some 2 := ⟨rfl, cdS_X1_factor⟩

theorem hi_X1_factor_1 : ∀ w ∈ u_ws RX1 TX1 8, w ∈ wsX1_factor := fun _ h => List.mem_cons_of_mem _ (List.mem_append_right _ h)

set_option maxHeartbeats 40000000 in
set_option maxRecDepth 100000 in
theorem c_X1_factor (l : Launch) (D : va_G) (cB cI cJ cQ : ClassId) (N : Nat) (r0 : Nat → Nat) (sz : Nat) (x1 : Int32) (x2 : Int32) (h_columns : Int32) (h_rows : Int32) (h_limit : Int32) (h_scales : Nat → Int32) (h_steps : Nat → Int32) (o : Int32) (hm0 : f_X1_factor x1 x2 h_scales h_steps = some o) : Met l yX1_factor wsX1_factor rm_X1_factor (ctP D cB cI cJ cQ N sz [.ref (r0 0), .int x1, .int x2] (wf [oB (r0 0) 1 [.ref (r0 1), .ref (r0 2), .ref (r0 3), .ref (r0 5), .ref (r0 7), .int h_columns, .int h_rows, .int h_limit], aI (r0 1) cI 8 h_scales, aI (r0 2) cI 16 h_steps] [])) (ctQi D o (wf [oB (r0 0) 1 [.ref (r0 1), .ref (r0 2), .ref (r0 3), .ref (r0 5), .ref (r0 7), .int h_columns, .int h_rows, .int h_limit], aI (r0 1) cI 8 h_scales, aI (r0 2) cI 16 h_steps] []) (va_A (wf [oB (r0 0) 1 [.ref (r0 1), .ref (r0 2), .ref (r0 3), .ref (r0 5), .ref (r0 7), .int h_columns, .int h_rows, .int h_limit], aI (r0 1) cI 8 h_scales, aI (r0 2) cI 16 h_steps] []) sz)) 0 0 (va_A (wf [oB (r0 0) 1 [.ref (r0 1), .ref (r0 2), .ref (r0 3), .ref (r0 5), .ref (r0 7), .int h_columns, .int h_rows, .int h_limit], aI (r0 1) cI 8 h_scales, aI (r0 2) cI 16 h_steps] []) sz) := by
  refine ct_of (cc := cX1_factor) (maxL := 3) (ret := (some .int)) (own := RX1) (Qp := ctQi D o (wf [oB (r0 0) 1 [.ref (r0 1), .ref (r0 2), .ref (r0 3), .ref (r0 5), .ref (r0 7), .int h_columns, .int h_rows, .int h_limit], aI (r0 1) cI 8 h_scales, aI (r0 2) cI 16 h_steps] [])) (by decide) rfl rfl (Nat.le_of_ble_eq_true rfl) ?_
  intro p e s m args below meth c A hx hb hr hml hown hts hlk hnm hsz hAe E hP0 hD0 hS0 ls0 hl0
  subst hsz
  have hl0 : lv_has ls0 3 [(0, .ref (r0 0)), (1, .int x1), (2, .int x2)] := hl0
  obtain ⟨QQ, hQ⟩ : ∃ Q : State → Prop, Q = MQ below (ctQi D o (wf [oB (r0 0) 1 [.ref (r0 1), .ref (r0 2), .ref (r0 3), .ref (r0 5), .ref (r0 7), .int h_columns, .int h_rows, .int h_limit], aI (r0 1) cI 8 h_scales, aI (r0 2) cI 16 h_steps] []) A) args s 0 0 A := ⟨_, rfl⟩
  rw [← hQ]
  unfold f_X1_factor at hm0
  refine lv_aload_n hx hb dX1_factor_0 rfl (lv_at hl0 0 rfl) ?_
  refine va_get (D := D) (ci := 1) (v := .ref (r0 2)) (C := RX1) (T := TX1) (N := 8) hx hb hts hi_X1_factor_1 hown E.1 hP0 0 rfl rfl 1 (by decide) (hts _ (List.mem_of_getElem? (i := 1) rfl)) (fun _ h9 => h9) rfl dX1_factor_1 ?_
  refine lv_iload_n hx hb dX1_factor_4 rfl (lv_at hl0 2 rfl) ?_
  refine lv_iconst (v := 4) hx hb dX1_factor_5 (by decide) ?_
  refine lv_idiv hx hb dX1_factor_6 (by decide) ?_
  obtain ⟨hin1, hm1⟩ := gi_some hm0; clear hm0
  refine va_iald hx hb E.1 hP0 2 0 rfl rfl hin1 dX1_factor_7 ?_
  refine lv_aload_n hx hb dX1_factor_8 rfl (lv_at hl0 0 rfl) ?_
  refine va_get (D := D) (ci := 1) (v := .ref (r0 1)) (C := RX1) (T := TX1) (N := 8) hx hb hts hi_X1_factor_1 hown E.1 hP0 0 rfl rfl 0 (by decide) (hts _ (List.mem_of_getElem? (i := 2) rfl)) (fun _ h9 => h9) rfl dX1_factor_9 ?_
  refine lv_iload_n hx hb dX1_factor_12 rfl (lv_at hl0 1 rfl) ?_
  obtain ⟨hin2, hm2⟩ := gi_some hm1; clear hm1
  refine va_iald hx hb E.1 hP0 1 0 rfl rfl hin2 dX1_factor_13 ?_
  refine lv_imul hx hb dX1_factor_14 ?_
  refine lv_bipush (v := 100) hx hb dX1_factor_15 (by decide) ?_
  refine lv_idiv hx hb dX1_factor_17 (by decide) ?_
  refine lv_iconst (v := 2) hx hb dX1_factor_18 (by decide) ?_
  refine lv_sipush (v := 4096) hx hb dX1_factor_19 (by decide) ?_
  obtain ⟨y_3, hcl4, hm4⟩ := bd1_some hm2; clear hm2
  have sb5 := ctS.mk (n := 3) (k := 0) (pre := [oB (r0 0) 1 [.ref (r0 1), .ref (r0 2), .ref (r0 3), .ref (r0 5), .ref (r0 7), .int h_columns, .int h_rows, .int h_limit], aI (r0 1) cI 8 h_scales, aI (r0 2) cI 16 h_steps]) (tl := []) [] [0, 1, 2] [] [] rfl rfl (by decide +kernel) (by decide +kernel)
  refine ct_calli (r := y_3) E sb5 hP0 hD0 hS0 (va_runSN (As := [.int (((h_steps (x2 / (4 : Int32)).toNatClampNeg) * (h_scales x1.toNatClampNeg)) / (100 : Int32)), .int (2 : Int32), .int (4096 : Int32)]) (rest := []) ⟨hx, hb, hml, hown, hts⟩ (c_X6_bring l D cB cI cJ cQ N s.heap.size (((h_steps (x2 / (4 : Int32)).toNatClampNeg) * (h_scales x1.toNatClampNeg)) / (100 : Int32)) (2 : Int32) (4096 : Int32) (y_3) hcl4) ⟨va_cnB 3 hts gX1_factor_X6_bring_n41 rfl rfl rfl (E.2.1.1 _ (List.mem_of_getElem? (i := 5) rfl)) (hts _ (List.mem_of_getElem? (i := 4) rfl)) cdS_X6_bring ⟨Nat.le_of_ble_eq_true rfl, Nat.le_of_ble_eq_true rfl⟩, (hts _ (List.mem_of_getElem? (i := 3) rfl)), trivial⟩ (ct_preS E sb5 hP0 hD0 hS0) rfl rfl hl0.1 rfl (lv_room (Nat.le_of_ble_eq_true rfl)) dX1_factor_22 ⟨Nat.zero_le _, Nat.zero_le _⟩) (fun H6 lc6 hP6 hD6 hS6 => ?_); clear sb5 hcl4
  clear hP0 hD0 hS0
  have hP6 : va_P D vwCl (wf [oB (r0 0) 1 [.ref (r0 1), .ref (r0 2), .ref (r0 3), .ref (r0 5), .ref (r0 7), .int h_columns, .int h_rows, .int h_limit], aI (r0 1) cI 8 h_scales, aI (r0 2) cI 16 h_steps] []) H6 := hP6
  have hD6 : va_D A (wf [oB (r0 0) 1 [.ref (r0 1), .ref (r0 2), .ref (r0 3), .ref (r0 5), .ref (r0 7), .int h_columns, .int h_rows, .int h_limit], aI (r0 1) cI 8 h_scales, aI (r0 2) cI 16 h_steps] []) := hD6
  obtain rfl := Option.some.inj hm4
  rw [hQ]
  exact ct_iret hx hb hr hlk hP6 hD6 hS6 rfl dX1_factor_25

def f_X1_putSquare_L6 (x1 : Int32) (x2 : Int32) (h_columns : Int32) (h_rows : Int32) : Nat → (Nat → Int32) → Int32 → Int32 → Option ((Nat → Int32) × Int32)
  | 0, _, _, _ => none
  | n + 1, h_order_4, v4_5, v5_6 =>
  (if (16 : Int32) ≤ v5_6 then
  (some (h_order_4, v4_5))
  else
  (gi v5_6 16 <|
  nm ((x1 + (sCOLUMNS_IN_SQUARE v5_6.toNatClampNeg)) : Int32) fun v6_15 =>
  gi v5_6 16 <|
  nm ((x2 + (sROWS_IN_SQUARE v5_6.toNatClampNeg)) : Int32) fun v7_20 =>
  jn (fun (k24 : (Nat → Int32) → Int32 → Option ((Nat → Int32) × Int32)) => (if h_columns ≤ v6_15 then
  (k24 h_order_4 v4_5)
  else
  ((if h_rows ≤ v7_20 then
  (k24 h_order_4 v4_5)
  else
  ((if (36 : Int32) ≤ v4_5 then
  (k24 h_order_4 v4_5)
  else
  (gi v4_5 36 <|
  nm (upd h_order_4 v4_5.toNatClampNeg ((v7_20 * h_columns) + v6_15) : Nat → Int32) fun h_order_42 =>
  nm (v4_5 + (1 : Int32) : Int32) fun v4_45 =>
  k24 h_order_42 v4_45))))))) fun h_order_25 v4_26 =>
  nm (v5_6 + (1 : Int32) : Int32) fun v5_29 =>
  f_X1_putSquare_L6 x1 x2 h_columns h_rows n h_order_25 v4_26 v5_29))

def f_X1_putSquare (x1 : Int32) (x2 : Int32) (x3 : Int32) (h_columns : Int32) (h_rows : Int32) (h_order : Nat → Int32) : Option (Int32 × (Nat → Int32)) :=
  bd2 (f_X1_putSquare_L6 x1 x2 h_columns h_rows 4000 h_order x3 (0 : Int32)) fun h_order_48 v4_49 =>
  some (v4_49, h_order_48)

abbrev rm_X1_putSquare : Room := { frames := 0, cells := 0, slots := 0, locals := 0 }

theorem cdS_X1_putSquare : yX1_putSquare.cls ≠ "java/lang/invoke/MethodHandle" ∧ yX1_putSquare.cls ≠ "java/lang/invoke/VarHandle" ∧ (parseMethodDescriptor yX1_putSquare.desc).map (fun d => d.parameters.length) = some 3 := by decide +kernel

theorem cdV_X1_putSquare : yX1_putSquare.cls = RX1 ∧ yX1_putSquare.cls ≠ "java/lang/invoke/MethodHandle" ∧ yX1_putSquare.cls ≠ "java/lang/invoke/VarHandle" ∧ (parseMethodDescriptor yX1_putSquare.desc).map (fun d => d.parameters.length) = some 3 := ⟨rfl, cdS_X1_putSquare⟩

theorem hi_X1_putSquare_1 : ∀ w ∈ u_ws RX1 TX1 8, w ∈ wsX1_putSquare := fun _ h => List.mem_cons_of_mem _ (List.mem_append_right _ h)

set_option maxHeartbeats 40000000 in
set_option maxRecDepth 100000 in
theorem c_X1_putSquare (l : Launch) (D : va_G) (cB cI cJ cQ : ClassId) (N : Nat) (r0 : Nat → Nat) (sz : Nat) (x1 : Int32) (x2 : Int32) (x3 : Int32) (h_columns : Int32) (h_rows : Int32) (h_limit : Int32) (h_order : Nat → Int32) (o : Int32 × (Nat → Int32)) (hm0 : f_X1_putSquare x1 x2 x3 h_columns h_rows h_order = some o) : Met l yX1_putSquare wsX1_putSquare rm_X1_putSquare (ctP D cB cI cJ cQ N sz [.ref (r0 0), .int x1, .int x2, .int x3] (wf [oB (r0 0) 1 [.ref (r0 1), .ref (r0 2), .ref (r0 3), .ref (r0 5), .ref (r0 7), .int h_columns, .int h_rows, .int h_limit], aI (r0 7) cI 36 h_order] [])) (ctQi D (o.1) (wf [oB (r0 0) 1 [.ref (r0 1), .ref (r0 2), .ref (r0 3), .ref (r0 5), .ref (r0 7), .int h_columns, .int h_rows, .int h_limit], aI (r0 7) cI 36 (o.2)] []) (va_A (wf [oB (r0 0) 1 [.ref (r0 1), .ref (r0 2), .ref (r0 3), .ref (r0 5), .ref (r0 7), .int h_columns, .int h_rows, .int h_limit], aI (r0 7) cI 36 h_order] []) sz)) 0 0 (va_A (wf [oB (r0 0) 1 [.ref (r0 1), .ref (r0 2), .ref (r0 3), .ref (r0 5), .ref (r0 7), .int h_columns, .int h_rows, .int h_limit], aI (r0 7) cI 36 h_order] []) sz) := by
  refine ct_of (cc := cX1_putSquare) (maxL := 8) (ret := (some .int)) (own := RX1) (Qp := ctQi D (o.1) (wf [oB (r0 0) 1 [.ref (r0 1), .ref (r0 2), .ref (r0 3), .ref (r0 5), .ref (r0 7), .int h_columns, .int h_rows, .int h_limit], aI (r0 7) cI 36 (o.2)] [])) (by decide) rfl rfl (Nat.le_of_ble_eq_true rfl) ?_
  intro p e s m args below meth c A hx hb hr hml hown hts hlk hnm hsz hAe E hP0 hD0 hS0 ls0 hl0
  subst hsz
  have hl0 : lv_has ls0 8 [(0, .ref (r0 0)), (1, .int x1), (2, .int x2), (3, .int x3)] := hl0
  obtain ⟨QQ, hQ⟩ : ∃ Q : State → Prop, Q = MQ below (ctQi D (o.1) (wf [oB (r0 0) 1 [.ref (r0 1), .ref (r0 2), .ref (r0 3), .ref (r0 5), .ref (r0 7), .int h_columns, .int h_rows, .int h_limit], aI (r0 7) cI 36 (o.2)] []) A) args s 0 0 A := ⟨_, rfl⟩
  rw [← hQ]
  unfold f_X1_putSquare at hm0
  refine lv_iload_n hx hb dX1_putSquare_0 rfl (lv_at hl0 3 rfl) ?_
  refine lv_istore (lv' := [(4, .int x3), (0, .ref (r0 0)), (1, .int x1), (2, .int x2), (3, .int x3)]) hx hb dX1_putSquare_1 hl0 (by decide) rfl (fun ls1 hl1 => ?_); clear hl0
  refine lv_iconst (v := 0) hx hb dX1_putSquare_3 (by decide) ?_
  refine lv_istore (lv' := [(5, .int (0 : Int32)), (4, .int x3), (0, .ref (r0 0)), (1, .int x1), (2, .int x2), (3, .int x3)]) hx hb dX1_putSquare_4 hl1 (by decide) rfl (fun ls2 hl2 => ?_); clear hl1
  obtain ⟨h_order_48, v4_49, hlp3, hm50⟩ := bd2_some hm0; clear hm0
  have LP3 : ∀ (n : Nat) (h_order_4 : Nat → Int32) (v4_5 : Int32) (v5_6 : Int32) (z3 : (Nat → Int32) × Int32) (H7 : Heap) (lc7 : List Loc) (ls7 : Array Slot), f_X1_putSquare_L6 x1 x2 h_columns h_rows n h_order_4 v4_5 v5_6 = some z3 → va_P D vwCl (wf [oB (r0 0) 1 [.ref (r0 1), .ref (r0 2), .ref (r0 3), .ref (r0 5), .ref (r0 7), .int h_columns, .int h_rows, .int h_limit], aI (r0 7) cI 36 h_order_4] []) H7 → va_D A (wf [oB (r0 0) 1 [.ref (r0 1), .ref (r0 2), .ref (r0 3), .ref (r0 5), .ref (r0 7), .int h_columns, .int h_rows, .int h_limit], aI (r0 7) cI 36 h_order_4] []) → va_S A s.heap H7 lc7 → lv_has ls7 8 [(0, .ref (r0 0)), (1, .int x1), (2, .int x2), (4, .int v4_5), (5, .int v5_6)] → (∀ (H : Heap) (lc : List Loc) (ls : Array Slot), va_P D vwCl (wf [oB (r0 0) 1 [.ref (r0 1), .ref (r0 2), .ref (r0 3), .ref (r0 5), .ref (r0 7), .int h_columns, .int h_rows, .int h_limit], aI (r0 7) cI 36 (z3.1)] []) H → va_D A (wf [oB (r0 0) 1 [.ref (r0 1), .ref (r0 2), .ref (r0 3), .ref (r0 5), .ref (r0 7), .int h_columns, .int h_rows, .int h_limit], aI (r0 7) cI 36 (z3.1)] []) → va_S A s.heap H lc → lv_has ls 8 [(4, .int (z3.2))] → W p l e rm_X1_putSquare s m args below meth c H lc 0 0 QQ (F0 m 84 ls [])) → W p l e rm_X1_putSquare s m args below meth c H7 lc7 0 0 QQ (F0 m 6 ls7 []) := by
    intro n
    induction n with
    | zero =>
      intro h_order_4 v4_5 v5_6 z3 H7 lc7 ls7 hm9; simp [f_X1_putSquare_L6] at hm9
    | succ n ih =>
      intro h_order_4 v4_5 v5_6 z3 H7 lc7 ls7 hm9 hP7 hD7 hS7 hl7 kx
      rw [f_X1_putSquare_L6] at hm9
      refine lv_iload hx hb dX1_putSquare_6 (lv_at hl7 4 rfl) ?_
      refine lv_bipush (v := 16) hx hb dX1_putSquare_8 (by decide) ?_
      refine lv_icmp_ge (tgt := 84) hx hb dX1_putSquare_10 (by decide) (fun hc10 => ?_) (fun hc10 => ?_)
      · have hm11 := bq_t hm9 hc10; clear hm9
        obtain rfl := Option.some.inj hm11
        exact kx _ _ _ hP7 hD7 hS7 (lv_sub hl7 [3] rfl)
      · have hm12 := bq_f hm9 hc10; clear hm9
        refine lv_iload_n hx hb dX1_putSquare_13 rfl (lv_at hl7 1 rfl) ?_
        obtain ⟨sa13, hz13, hn13, hl13_, hxx13⟩ := E.2.1.2.2.2.2.2.2.2.1
        refine va_gets hx hb (hz13.narrow E.2.2.2.1) hS7 hown (hts _ (List.mem_of_getElem? (i := 1) rfl)) (fun _ h9 => h9) dX1_putSquare_14 ?_
        refine lv_iload hx hb dX1_putSquare_17 (lv_at hl7 4 rfl) ?_
        obtain ⟨hin14, hm14⟩ := gi_some hm12; clear hm12
        refine va_sld hx hb hxx13 hl13_ (fun h => absurd (E.2.2.2.1 _ h) (Nat.not_le.mpr hn13)) hS7 hin14 dX1_putSquare_19 ?_
        refine lv_iadd hx hb dX1_putSquare_20 ?_
        obtain ⟨v6_15, ev6_15, hm16⟩ := nm_some hm14; clear hm14
        refine ct_topi ev6_15 ?_
        refine lv_istore (lv' := [(6, .int v6_15), (0, .ref (r0 0)), (1, .int x1), (2, .int x2), (4, .int v4_5), (5, .int v5_6)]) hx hb dX1_putSquare_21 hl7 (by decide) rfl (fun ls17 hl17 => ?_); clear hl7
        refine lv_iload_n hx hb dX1_putSquare_23 rfl (lv_at hl17 3 rfl) ?_
        obtain ⟨sa18, hz18, hn18, hl18_, hxx18⟩ := E.2.1.2.2.2.2.2.2.2.2.1
        refine va_gets hx hb (hz18.narrow E.2.2.2.1) hS7 hown (hts _ (List.mem_of_getElem? (i := 2) rfl)) (fun _ h9 => h9) dX1_putSquare_24 ?_
        refine lv_iload hx hb dX1_putSquare_27 (lv_at hl17 5 rfl) ?_
        obtain ⟨hin19, hm19⟩ := gi_some hm16; clear hm16
        refine va_sld hx hb hxx18 hl18_ (fun h => absurd (E.2.2.2.1 _ h) (Nat.not_le.mpr hn18)) hS7 hin19 dX1_putSquare_29 ?_
        refine lv_iadd hx hb dX1_putSquare_30 ?_
        obtain ⟨v7_20, ev7_20, hm21⟩ := nm_some hm19; clear hm19
        refine ct_topi ev7_20 ?_
        refine lv_istore (lv' := [(7, .int v7_20), (6, .int v6_15), (0, .ref (r0 0)), (1, .int x1), (2, .int x2), (4, .int v4_5), (5, .int v5_6)]) hx hb dX1_putSquare_31 hl17 (by decide) rfl (fun ls22 hl22 => ?_); clear hl17
        refine lv_iload hx hb dX1_putSquare_33 (lv_at hl22 1 rfl) ?_
        refine lv_aload_n hx hb dX1_putSquare_35 rfl (lv_at hl22 2 rfl) ?_
        refine va_get (D := D) (ci := 1) (v := .int h_columns) (C := RX1) (T := TX1) (N := 8) hx hb hts hi_X1_putSquare_1 hown E.1 hP7 0 rfl rfl 5 (by decide) (hts _ (List.mem_of_getElem? (i := 3) rfl)) (fun _ h9 => h9) rfl dX1_putSquare_36 ?_
        obtain ⟨k24, ek24, hm24⟩ := jn_some hm21; clear hm21
        have KJ24 : ∀ (h_order_25 : Nat → Int32) (v4_26 : Int32) (H27 : Heap) (lc27 : List Loc) (ls27 : Array Slot), k24 h_order_25 v4_26 = some z3 → va_P D vwCl (wf [oB (r0 0) 1 [.ref (r0 1), .ref (r0 2), .ref (r0 3), .ref (r0 5), .ref (r0 7), .int h_columns, .int h_rows, .int h_limit], aI (r0 7) cI 36 h_order_25] []) H27 → va_D A (wf [oB (r0 0) 1 [.ref (r0 1), .ref (r0 2), .ref (r0 3), .ref (r0 5), .ref (r0 7), .int h_columns, .int h_rows, .int h_limit], aI (r0 7) cI 36 h_order_25] []) → va_S A s.heap H27 lc27 → lv_has ls27 8 [(0, .ref (r0 0)), (1, .int x1), (2, .int x2), (4, .int v4_26), (5, .int v5_6)] → W p l e rm_X1_putSquare s m args below meth c H27 lc27 0 0 QQ (F0 m 78 ls27 []) := by
          intro h_order_25 v4_26 H27 lc27 ls27 hm28 hP27 hD27 hS27 hl27
          rw [ek24] at hm28
          obtain ⟨v5_29, ev5_29, hm30⟩ := nm_some hm28; clear hm28
          refine lv_iinc (v := v5_29) (lv' := [(5, .int v5_29), (0, .ref (r0 0)), (1, .int x1), (2, .int x2), (4, .int v4_26)]) hx hb dX1_putSquare_78 hl27 (k := 4) rfl (by rw [ev5_29]; rfl) (by decide) rfl (fun ls31 hl31 => ?_); clear hl27
          refine lv_goto (tgt := 6) hx hb dX1_putSquare_81 (by decide) ?_
          exact ih h_order_25 v4_26 v5_29 _ _ _ _ hm30 hP27 hD27 hS27 (lv_sub hl31 [1, 2, 3, 4, 0] rfl) kx
        refine lv_icmp_ge (tgt := 78) hx hb dX1_putSquare_39 (by decide) (fun hc32 => ?_) (fun hc32 => ?_)
        · have hm33 := bq_t hm24 hc32; clear hm24
          exact KJ24 h_order_4 v4_5 _ _ _ hm33 hP7 hD7 hS7 (lv_sub hl22 [2, 3, 4, 5, 6] rfl)
        · have hm34 := bq_f hm24 hc32; clear hm24
          refine lv_iload hx hb dX1_putSquare_42 (lv_at hl22 0 rfl) ?_
          refine lv_aload_n hx hb dX1_putSquare_44 rfl (lv_at hl22 2 rfl) ?_
          refine va_get (D := D) (ci := 1) (v := .int h_rows) (C := RX1) (T := TX1) (N := 8) hx hb hts hi_X1_putSquare_1 hown E.1 hP7 0 rfl rfl 6 (by decide) (hts _ (List.mem_of_getElem? (i := 4) rfl)) (fun _ h9 => h9) rfl dX1_putSquare_45 ?_
          refine lv_icmp_ge (tgt := 78) hx hb dX1_putSquare_48 (by decide) (fun hc35 => ?_) (fun hc35 => ?_)
          · have hm36 := bq_t hm34 hc35; clear hm34
            exact KJ24 h_order_4 v4_5 _ _ _ hm36 hP7 hD7 hS7 (lv_sub hl22 [2, 3, 4, 5, 6] rfl)
          · have hm37 := bq_f hm34 hc35; clear hm34
            refine lv_iload hx hb dX1_putSquare_51 (lv_at hl22 5 rfl) ?_
            refine lv_bipush (v := 36) hx hb dX1_putSquare_53 (by decide) ?_
            refine lv_icmp_ge (tgt := 78) hx hb dX1_putSquare_55 (by decide) (fun hc38 => ?_) (fun hc38 => ?_)
            · have hm39 := bq_t hm37 hc38; clear hm37
              exact KJ24 h_order_4 v4_5 _ _ _ hm39 hP7 hD7 hS7 (lv_sub hl22 [2, 3, 4, 5, 6] rfl)
            · have hm40 := bq_f hm37 hc38; clear hm37
              refine lv_aload_n hx hb dX1_putSquare_58 rfl (lv_at hl22 2 rfl) ?_
              refine va_get (D := D) (ci := 1) (v := .ref (r0 7)) (C := RX1) (T := TX1) (N := 8) hx hb hts hi_X1_putSquare_1 hown E.1 hP7 0 rfl rfl 4 (by decide) (hts _ (List.mem_of_getElem? (i := 5) rfl)) (fun _ h9 => h9) rfl dX1_putSquare_59 ?_
              refine lv_iload hx hb dX1_putSquare_62 (lv_at hl22 5 rfl) ?_
              refine lv_iload hx hb dX1_putSquare_64 (lv_at hl22 0 rfl) ?_
              refine lv_aload_n hx hb dX1_putSquare_66 rfl (lv_at hl22 2 rfl) ?_
              refine va_get (D := D) (ci := 1) (v := .int h_columns) (C := RX1) (T := TX1) (N := 8) hx hb hts hi_X1_putSquare_1 hown E.1 hP7 0 rfl rfl 5 (by decide) (hts _ (List.mem_of_getElem? (i := 3) rfl)) (fun _ h9 => h9) rfl dX1_putSquare_67 ?_
              refine lv_imul hx hb dX1_putSquare_70 ?_
              refine lv_iload hx hb dX1_putSquare_71 (lv_at hl22 1 rfl) ?_
              refine lv_iadd hx hb dX1_putSquare_73 ?_
              obtain ⟨hin41, hm41⟩ := gi_some hm40; clear hm40
              obtain ⟨h_order_42, eh_order_42, hm43⟩ := nm_some hm41; clear hm41
              refine ct_iast (g := h_order_42) (ws' := (wf [oB (r0 0) 1 [.ref (r0 1), .ref (r0 2), .ref (r0 3), .ref (r0 5), .ref (r0 7), .int h_columns, .int h_rows, .int h_limit], aI (r0 7) cI 36 h_order_42] [])) hx hb E.1 hP7 hD7 hS7 1 0 rfl rfl hin41 eh_order_42 rfl dX1_putSquare_74 (fun H44 lc44 hP44 hD44 hS44 => ?_)
              clear hP7 hD7 hS7
              obtain ⟨v4_45, ev4_45, hm46⟩ := nm_some hm43; clear hm43
              refine lv_iinc (v := v4_45) (lv' := [(4, .int v4_45), (7, .int v7_20), (6, .int v6_15), (0, .ref (r0 0)), (1, .int x1), (2, .int x2), (5, .int v5_6)]) hx hb dX1_putSquare_75 hl22 (k := 5) rfl (by rw [ev4_45]; rfl) (by decide) rfl (fun ls47 hl47 => ?_); clear hl22
              exact KJ24 h_order_42 v4_45 _ _ _ hm46 hP44 hD44 hS44 (lv_sub hl47 [3, 4, 5, 0, 6] rfl)
  refine LP3 4000 h_order x3 (0 : Int32) (h_order_48, v4_49) _ _ _ hlp3 hP0 hD0 hS0 (lv_sub hl2 [2, 3, 4, 1, 0] rfl) (fun H51 lc51 ls51 hP51 hD51 hS51 hl51 => ?_); clear LP3 hlp3
  clear hP0 hD0 hS0
  have hl51 : lv_has ls51 8 [(4, .int v4_49)] := hl51
  have hP51 : va_P D vwCl (wf [oB (r0 0) 1 [.ref (r0 1), .ref (r0 2), .ref (r0 3), .ref (r0 5), .ref (r0 7), .int h_columns, .int h_rows, .int h_limit], aI (r0 7) cI 36 h_order_48] []) H51 := hP51
  have hD51 : va_D A (wf [oB (r0 0) 1 [.ref (r0 1), .ref (r0 2), .ref (r0 3), .ref (r0 5), .ref (r0 7), .int h_columns, .int h_rows, .int h_limit], aI (r0 7) cI 36 h_order_48] []) := hD51
  refine lv_iload hx hb dX1_putSquare_84 (lv_at hl51 0 rfl) ?_
  obtain rfl := Option.some.inj hm50
  rw [hQ]
  exact ct_iret hx hb hr hlk hP51 hD51 hS51 rfl dX1_putSquare_86

def f_X1_putInOrder_L14 (h_columns : Int32) (h_rows : Int32) (v2_6 : Int32) : Nat → (Nat → Int32) → Int32 → Int32 → Option ((Nat → Int32) × Int32)
  | 0, _, _, _ => none
  | n + 1, h_order_15, v1_16, v3_17 =>
  (if h_columns ≤ v3_17 then
  (some (h_order_15, v1_16))
  else
  (bd2 (f_X1_putSquare v3_17 v2_6 v1_16 h_columns h_rows h_order_15) fun y_24 h_order_25 =>
  nm (v3_17 + (4 : Int32) : Int32) fun v3_30 =>
  f_X1_putInOrder_L14 h_columns h_rows v2_6 n h_order_25 y_24 v3_30))

def f_X1_putInOrder_L4 (h_columns : Int32) (h_rows : Int32) : Nat → (Nat → Int32) → Int32 → Int32 → Option ((Nat → Int32))
  | 0, _, _, _ => none
  | n + 1, h_order_4, v1_5, v2_6 =>
  (if h_rows ≤ v2_6 then
  (some (h_order_4))
  else
  (bd2 (f_X1_putInOrder_L14 h_columns h_rows v2_6 4000 h_order_4 v1_5 (0 : Int32)) fun h_order_33 v1_34 =>
  nm (v2_6 + (4 : Int32) : Int32) fun v2_37 =>
  f_X1_putInOrder_L4 h_columns h_rows n h_order_33 v1_34 v2_37))

def f_X1_putInOrder (h_columns : Int32) (h_rows : Int32) (h_order : Nat → Int32) : Option ((Nat → Int32)) :=
  bd1 (f_X1_putInOrder_L4 h_columns h_rows 4000 h_order (0 : Int32) (0 : Int32)) fun h_order_40 =>
  some (h_order_40)

abbrev rm_X1_putInOrder : Room := { frames := 1, cells := 0, slots := 0, locals := 27 }

theorem cdS_X1_putInOrder : yX1_putInOrder.cls ≠ "java/lang/invoke/MethodHandle" ∧ yX1_putInOrder.cls ≠ "java/lang/invoke/VarHandle" ∧ (parseMethodDescriptor yX1_putInOrder.desc).map (fun d => d.parameters.length) = some 0 := by decide +kernel

theorem cdV_X1_putInOrder : yX1_putInOrder.cls = RX1 ∧ yX1_putInOrder.cls ≠ "java/lang/invoke/MethodHandle" ∧ yX1_putInOrder.cls ≠ "java/lang/invoke/VarHandle" ∧ (parseMethodDescriptor yX1_putInOrder.desc).map (fun d => d.parameters.length) = some 0 := ⟨rfl, cdS_X1_putInOrder⟩

theorem hi_X1_putInOrder_1 : ∀ w ∈ u_ws RX1 TX1 8, w ∈ wsX1_putInOrder := fun _ h => List.mem_cons_of_mem _ (List.mem_append_right _ h)

set_option maxHeartbeats 40000000 in
set_option maxRecDepth 100000 in
theorem c_X1_putInOrder (l : Launch) (D : va_G) (cB cI cJ cQ : ClassId) (N : Nat) (r0 : Nat → Nat) (sz : Nat) (h_columns : Int32) (h_rows : Int32) (h_limit : Int32) (h_order : Nat → Int32) (o : (Nat → Int32)) (hm0 : f_X1_putInOrder h_columns h_rows h_order = some o) : Met l yX1_putInOrder wsX1_putInOrder rm_X1_putInOrder (ctP D cB cI cJ cQ N sz [.ref (r0 0)] (wf [oB (r0 0) 1 [.ref (r0 1), .ref (r0 2), .ref (r0 3), .ref (r0 5), .ref (r0 7), .int h_columns, .int h_rows, .int h_limit], aI (r0 7) cI 36 h_order] [])) (ctQv D (wf [oB (r0 0) 1 [.ref (r0 1), .ref (r0 2), .ref (r0 3), .ref (r0 5), .ref (r0 7), .int h_columns, .int h_rows, .int h_limit], aI (r0 7) cI 36 o] []) (va_A (wf [oB (r0 0) 1 [.ref (r0 1), .ref (r0 2), .ref (r0 3), .ref (r0 5), .ref (r0 7), .int h_columns, .int h_rows, .int h_limit], aI (r0 7) cI 36 h_order] []) sz)) 0 0 (va_A (wf [oB (r0 0) 1 [.ref (r0 1), .ref (r0 2), .ref (r0 3), .ref (r0 5), .ref (r0 7), .int h_columns, .int h_rows, .int h_limit], aI (r0 7) cI 36 h_order] []) sz) := by
  refine ct_of (cc := cX1_putInOrder) (maxL := 4) (ret := none) (own := RX1) (Qp := ctQv D (wf [oB (r0 0) 1 [.ref (r0 1), .ref (r0 2), .ref (r0 3), .ref (r0 5), .ref (r0 7), .int h_columns, .int h_rows, .int h_limit], aI (r0 7) cI 36 o] [])) (by decide) rfl rfl (Nat.le_of_ble_eq_true rfl) ?_
  intro p e s m args below meth c A hx hb hr hml hown hts hlk hnm hsz hAe E hP0 hD0 hS0 ls0 hl0
  subst hsz
  have hl0 : lv_has ls0 4 [(0, .ref (r0 0))] := hl0
  obtain ⟨QQ, hQ⟩ : ∃ Q : State → Prop, Q = MQ below (ctQv D (wf [oB (r0 0) 1 [.ref (r0 1), .ref (r0 2), .ref (r0 3), .ref (r0 5), .ref (r0 7), .int h_columns, .int h_rows, .int h_limit], aI (r0 7) cI 36 o] []) A) args s 0 0 A := ⟨_, rfl⟩
  rw [← hQ]
  unfold f_X1_putInOrder at hm0
  refine lv_iconst (v := 0) hx hb dX1_putInOrder_0 (by decide) ?_
  refine lv_istore_n (lv' := [(1, .int (0 : Int32)), (0, .ref (r0 0))]) hx hb dX1_putInOrder_1 rfl hl0 (by decide) rfl (fun ls1 hl1 => ?_); clear hl0
  refine lv_iconst (v := 0) hx hb dX1_putInOrder_2 (by decide) ?_
  refine lv_istore_n (lv' := [(2, .int (0 : Int32)), (1, .int (0 : Int32)), (0, .ref (r0 0))]) hx hb dX1_putInOrder_3 rfl hl1 (by decide) rfl (fun ls2 hl2 => ?_); clear hl1
  obtain ⟨h_order_40, hlp3, hm41⟩ := bd1_some hm0; clear hm0
  have LP3 : ∀ (n : Nat) (h_order_4 : Nat → Int32) (v1_5 : Int32) (v2_6 : Int32) (z3 : (Nat → Int32)) (H7 : Heap) (lc7 : List Loc) (ls7 : Array Slot), f_X1_putInOrder_L4 h_columns h_rows n h_order_4 v1_5 v2_6 = some z3 → va_P D vwCl (wf [oB (r0 0) 1 [.ref (r0 1), .ref (r0 2), .ref (r0 3), .ref (r0 5), .ref (r0 7), .int h_columns, .int h_rows, .int h_limit], aI (r0 7) cI 36 h_order_4] []) H7 → va_D A (wf [oB (r0 0) 1 [.ref (r0 1), .ref (r0 2), .ref (r0 3), .ref (r0 5), .ref (r0 7), .int h_columns, .int h_rows, .int h_limit], aI (r0 7) cI 36 h_order_4] []) → va_S A s.heap H7 lc7 → lv_has ls7 4 [(0, .ref (r0 0)), (1, .int v1_5), (2, .int v2_6)] → (∀ (H : Heap) (lc : List Loc) (ls : Array Slot), va_P D vwCl (wf [oB (r0 0) 1 [.ref (r0 1), .ref (r0 2), .ref (r0 3), .ref (r0 5), .ref (r0 7), .int h_columns, .int h_rows, .int h_limit], aI (r0 7) cI 36 z3] []) H → va_D A (wf [oB (r0 0) 1 [.ref (r0 1), .ref (r0 2), .ref (r0 3), .ref (r0 5), .ref (r0 7), .int h_columns, .int h_rows, .int h_limit], aI (r0 7) cI 36 z3] []) → va_S A s.heap H lc → lv_has ls 4 [] → W p l e rm_X1_putInOrder s m args below meth c H lc 0 0 QQ (F0 m 42 ls [])) → W p l e rm_X1_putInOrder s m args below meth c H7 lc7 0 0 QQ (F0 m 4 ls7 []) := by
    intro n
    induction n with
    | zero =>
      intro h_order_4 v1_5 v2_6 z3 H7 lc7 ls7 hm9; simp [f_X1_putInOrder_L4] at hm9
    | succ n ih =>
      intro h_order_4 v1_5 v2_6 z3 H7 lc7 ls7 hm9 hP7 hD7 hS7 hl7 kx
      rw [f_X1_putInOrder_L4] at hm9
      refine lv_iload_n hx hb dX1_putInOrder_4 rfl (lv_at hl7 2 rfl) ?_
      refine lv_aload_n hx hb dX1_putInOrder_5 rfl (lv_at hl7 0 rfl) ?_
      refine va_get (D := D) (ci := 1) (v := .int h_rows) (C := RX1) (T := TX1) (N := 8) hx hb hts hi_X1_putInOrder_1 hown E.1 hP7 0 rfl rfl 6 (by decide) (hts _ (List.mem_of_getElem? (i := 1) rfl)) (fun _ h9 => h9) rfl dX1_putInOrder_6 ?_
      refine lv_icmp_ge (tgt := 42) hx hb dX1_putInOrder_9 (by decide) (fun hc10 => ?_) (fun hc10 => ?_)
      · have hm11 := bq_t hm9 hc10; clear hm9
        obtain rfl := Option.some.inj hm11
        exact kx _ _ _ hP7 hD7 hS7 (lv_sub hl7 [] rfl)
      · have hm12 := bq_f hm9 hc10; clear hm9
        refine lv_iconst (v := 0) hx hb dX1_putInOrder_12 (by decide) ?_
        refine lv_istore_n (lv' := [(3, .int (0 : Int32)), (0, .ref (r0 0)), (1, .int v1_5), (2, .int v2_6)]) hx hb dX1_putInOrder_13 rfl hl7 (by decide) rfl (fun ls13 hl13 => ?_); clear hl7
        obtain ⟨h_order_33, v1_34, hlp14, hm35⟩ := bd2_some hm12; clear hm12
        have LP14 : ∀ (n : Nat) (h_order_15 : Nat → Int32) (v1_16 : Int32) (v3_17 : Int32) (z14 : (Nat → Int32) × Int32) (H18 : Heap) (lc18 : List Loc) (ls18 : Array Slot), f_X1_putInOrder_L14 h_columns h_rows v2_6 n h_order_15 v1_16 v3_17 = some z14 → va_P D vwCl (wf [oB (r0 0) 1 [.ref (r0 1), .ref (r0 2), .ref (r0 3), .ref (r0 5), .ref (r0 7), .int h_columns, .int h_rows, .int h_limit], aI (r0 7) cI 36 h_order_15] []) H18 → va_D A (wf [oB (r0 0) 1 [.ref (r0 1), .ref (r0 2), .ref (r0 3), .ref (r0 5), .ref (r0 7), .int h_columns, .int h_rows, .int h_limit], aI (r0 7) cI 36 h_order_15] []) → va_S A s.heap H18 lc18 → lv_has ls18 4 [(0, .ref (r0 0)), (1, .int v1_16), (2, .int v2_6), (3, .int v3_17)] → (∀ (H : Heap) (lc : List Loc) (ls : Array Slot), va_P D vwCl (wf [oB (r0 0) 1 [.ref (r0 1), .ref (r0 2), .ref (r0 3), .ref (r0 5), .ref (r0 7), .int h_columns, .int h_rows, .int h_limit], aI (r0 7) cI 36 (z14.1)] []) H → va_D A (wf [oB (r0 0) 1 [.ref (r0 1), .ref (r0 2), .ref (r0 3), .ref (r0 5), .ref (r0 7), .int h_columns, .int h_rows, .int h_limit], aI (r0 7) cI 36 (z14.1)] []) → va_S A s.heap H lc → lv_has ls 4 [(0, .ref (r0 0)), (1, .int (z14.2)), (2, .int v2_6)] → W p l e rm_X1_putInOrder s m args below meth c H lc 0 0 QQ (F0 m 36 ls [])) → W p l e rm_X1_putInOrder s m args below meth c H18 lc18 0 0 QQ (F0 m 14 ls18 []) := by
          intro n
          induction n with
          | zero =>
            intro h_order_15 v1_16 v3_17 z14 H18 lc18 ls18 hm20; simp [f_X1_putInOrder_L14] at hm20
          | succ n ih =>
            intro h_order_15 v1_16 v3_17 z14 H18 lc18 ls18 hm20 hP18 hD18 hS18 hl18 kx
            rw [f_X1_putInOrder_L14] at hm20
            refine lv_iload_n hx hb dX1_putInOrder_14 rfl (lv_at hl18 3 rfl) ?_
            refine lv_aload_n hx hb dX1_putInOrder_15 rfl (lv_at hl18 0 rfl) ?_
            refine va_get (D := D) (ci := 1) (v := .int h_columns) (C := RX1) (T := TX1) (N := 8) hx hb hts hi_X1_putInOrder_1 hown E.1 hP18 0 rfl rfl 5 (by decide) (hts _ (List.mem_of_getElem? (i := 2) rfl)) (fun _ h9 => h9) rfl dX1_putInOrder_16 ?_
            refine lv_icmp_ge (tgt := 36) hx hb dX1_putInOrder_19 (by decide) (fun hc21 => ?_) (fun hc21 => ?_)
            · have hm22 := bq_t hm20 hc21; clear hm20
              obtain rfl := Option.some.inj hm22
              exact kx _ _ _ hP18 hD18 hS18 (lv_sub hl18 [0, 1, 2] rfl)
            · have hm23 := bq_f hm20 hc21; clear hm20
              refine lv_aload_n hx hb dX1_putInOrder_22 rfl (lv_at hl18 0 rfl) ?_
              refine lv_iload_n hx hb dX1_putInOrder_23 rfl (lv_at hl18 3 rfl) ?_
              refine lv_iload_n hx hb dX1_putInOrder_24 rfl (lv_at hl18 2 rfl) ?_
              refine lv_iload_n hx hb dX1_putInOrder_25 rfl (lv_at hl18 1 rfl) ?_
              obtain ⟨y_24, h_order_25, hcl26, hm26⟩ := bd2_some hm23; clear hm23
              have sb27 := ctS.mk (n := 2) (k := 0) (pre := [oB (r0 0) 1 [.ref (r0 1), .ref (r0 2), .ref (r0 3), .ref (r0 5), .ref (r0 7), .int h_columns, .int h_rows, .int h_limit], aI (r0 7) cI 36 h_order_15]) (tl := []) [0, 1] [] [] [] rfl rfl (by decide +kernel) (by decide +kernel)
              refine ct_calli (r := y_24) E sb27 hP18 hD18 hS18 (va_runV (As := [.int v3_17, .int v2_6, .int v1_16]) (rest := []) ⟨hx, hb, hml, hown, hts⟩ (c_X1_putSquare l D cB cI cJ cQ N r0 H18.size v3_17 v2_6 v1_16 h_columns h_rows h_limit h_order_15 (y_24, h_order_25) hcl26) (cwV 3 hts gX1_putInOrder_X1_putSquare rfl rfl rfl cdV_X1_putSquare ⟨Nat.le_of_ble_eq_true rfl, Nat.le_of_ble_eq_true rfl⟩) (ct_preV (q0 := 0) (ci := 1) E sb27 hP18 hD18 hS18 rfl rfl) rfl rfl hl18.1 rfl (lv_room (Nat.le_of_ble_eq_true rfl)) dX1_putInOrder_26 ⟨Nat.zero_le _, Nat.zero_le _⟩) (fun H28 lc28 hP28 hD28 hS28 => ?_); clear sb27 hcl26
              clear hP18 hD18 hS18
              have hP28 : va_P D vwCl (wf [oB (r0 0) 1 [.ref (r0 1), .ref (r0 2), .ref (r0 3), .ref (r0 5), .ref (r0 7), .int h_columns, .int h_rows, .int h_limit], aI (r0 7) cI 36 h_order_25] []) H28 := hP28
              have hD28 : va_D A (wf [oB (r0 0) 1 [.ref (r0 1), .ref (r0 2), .ref (r0 3), .ref (r0 5), .ref (r0 7), .int h_columns, .int h_rows, .int h_limit], aI (r0 7) cI 36 h_order_25] []) := hD28
              refine lv_istore_n (lv' := [(1, .int y_24), (0, .ref (r0 0)), (2, .int v2_6), (3, .int v3_17)]) hx hb dX1_putInOrder_29 rfl hl18 (by decide) rfl (fun ls29 hl29 => ?_); clear hl18
              obtain ⟨v3_30, ev3_30, hm31⟩ := nm_some hm26; clear hm26
              refine lv_iinc (v := v3_30) (lv' := [(3, .int v3_30), (1, .int y_24), (0, .ref (r0 0)), (2, .int v2_6)]) hx hb dX1_putInOrder_30 hl29 (k := 3) rfl (by rw [ev3_30]; rfl) (by decide) rfl (fun ls32 hl32 => ?_); clear hl29
              refine lv_goto (tgt := 14) hx hb dX1_putInOrder_33 (by decide) ?_
              exact ih h_order_25 y_24 v3_30 _ _ _ _ hm31 hP28 hD28 hS28 (lv_sub hl32 [2, 1, 3, 0] rfl) kx
        refine LP14 4000 h_order_4 v1_5 (0 : Int32) (h_order_33, v1_34) _ _ _ hlp14 hP7 hD7 hS7 (lv_sub hl13 [1, 2, 3, 0] rfl) (fun H36 lc36 ls36 hP36 hD36 hS36 hl36 => ?_); clear LP14 hlp14
        clear hP7 hD7 hS7
        have hl36 : lv_has ls36 4 [(0, .ref (r0 0)), (1, .int v1_34), (2, .int v2_6)] := hl36
        have hP36 : va_P D vwCl (wf [oB (r0 0) 1 [.ref (r0 1), .ref (r0 2), .ref (r0 3), .ref (r0 5), .ref (r0 7), .int h_columns, .int h_rows, .int h_limit], aI (r0 7) cI 36 h_order_33] []) H36 := hP36
        have hD36 : va_D A (wf [oB (r0 0) 1 [.ref (r0 1), .ref (r0 2), .ref (r0 3), .ref (r0 5), .ref (r0 7), .int h_columns, .int h_rows, .int h_limit], aI (r0 7) cI 36 h_order_33] []) := hD36
        obtain ⟨v2_37, ev2_37, hm38⟩ := nm_some hm35; clear hm35
        refine lv_iinc (v := v2_37) (lv' := [(2, .int v2_37), (0, .ref (r0 0)), (1, .int v1_34)]) hx hb dX1_putInOrder_36 hl36 (k := 2) rfl (by rw [ev2_37]; rfl) (by decide) rfl (fun ls39 hl39 => ?_); clear hl36
        refine lv_goto (tgt := 4) hx hb dX1_putInOrder_39 (by decide) ?_
        exact ih h_order_33 v1_34 v2_37 _ _ _ _ hm38 hP36 hD36 hS36 (lv_sub hl39 [1, 2, 0] rfl) kx
  refine LP3 4000 h_order (0 : Int32) (0 : Int32) (h_order_40) _ _ _ hlp3 hP0 hD0 hS0 (lv_sub hl2 [2, 1, 0] rfl) (fun H42 lc42 ls42 hP42 hD42 hS42 hl42 => ?_); clear LP3 hlp3
  clear hP0 hD0 hS0
  have hl42 : lv_has ls42 4 [] := hl42
  have hP42 : va_P D vwCl (wf [oB (r0 0) 1 [.ref (r0 1), .ref (r0 2), .ref (r0 3), .ref (r0 5), .ref (r0 7), .int h_columns, .int h_rows, .int h_limit], aI (r0 7) cI 36 h_order_40] []) H42 := hP42
  have hD42 : va_D A (wf [oB (r0 0) 1 [.ref (r0 1), .ref (r0 2), .ref (r0 3), .ref (r0 5), .ref (r0 7), .int h_columns, .int h_rows, .int h_limit], aI (r0 7) cI 36 h_order_40] []) := hD42
  obtain rfl := Option.some.inj hm41
  rw [hQ]
  exact ct_vret hx hb hr hlk hP42 hD42 hS42 dX1_putInOrder_42

def f_X1_read_L56 (t_size : Int32) (t_bytes : Nat → Int32) : Nat → (Nat → Int32) → Int32 → Int32 → Int32 → Option ((Nat → Int32) × Int32 × Int32)
  | 0, _, _, _, _ => none
  | n + 1, h_scales_33, t_position_34, t_fault_35, v2_36 =>
  (if (8 : Int32) ≤ v2_36 then
  (some (h_scales_33, t_position_34, t_fault_35))
  else
  (bd3 (f_X4_number (10 : Int32) t_size t_position_34 t_fault_35 t_bytes) fun y_43 t_position_44 t_fault_45 =>
  gi v2_36 8 <|
  nm (upd h_scales_33 v2_36.toNatClampNeg y_43 : Nat → Int32) fun h_scales_50 =>
  nm (v2_36 + (1 : Int32) : Int32) fun v2_53 =>
  f_X1_read_L56 t_size t_bytes n h_scales_50 t_position_44 t_fault_45 v2_53))

def f_X1_read_L82 (t_size : Int32) (t_bytes : Nat → Int32) : Nat → (Nat → Int32) → Int32 → Int32 → Int32 → Option ((Nat → Int32) × Int32 × Int32)
  | 0, _, _, _, _ => none
  | n + 1, h_steps_63, t_position_64, t_fault_65, v2_66 =>
  (if (16 : Int32) ≤ v2_66 then
  (some (h_steps_63, t_position_64, t_fault_65))
  else
  (bd3 (f_X4_number (8 : Int32) t_size t_position_64 t_fault_65 t_bytes) fun y_73 t_position_74 t_fault_75 =>
  gi v2_66 16 <|
  nm (upd h_steps_63 v2_66.toNatClampNeg y_73 : Nat → Int32) fun h_steps_80 =>
  nm (v2_66 + (1 : Int32) : Int32) fun v2_83 =>
  f_X1_read_L82 t_size t_bytes n h_steps_80 t_position_74 t_fault_75 v2_83))

def f_X1_read (h_columns : Int32) (h_rows : Int32) (h_limit : Int32) (h_scales : Nat → Int32) (h_steps : Nat → Int32) (h_h1_nodeCount : Int32) (h_h1_tokenCount : Int32) (h_h1_root : Int32) (h_h1_branches : Nat → Int32) (h_h2_nodeCount : Int32) (h_h2_tokenCount : Int32) (h_h2_root : Int32) (h_h2_branches : Nat → Int32) (h_order : Nat → Int32) (t_size : Int32) (t_position : Int32) (t_fault : Int32) (t_bytes : Nat → Int32) : Option (Int32 × Int32 × Int32 × (Nat → Int32) × (Nat → Int32) × Int32 × Int32 × Int32 × (Nat → Int32) × Int32 × Int32 × Int32 × (Nat → Int32) × (Nat → Int32) × Int32 × Int32) :=
  bd3 (f_X4_number (3 : Int32) t_size t_position t_fault t_bytes) fun y_1 t_position_2 t_fault_3 =>
  nm ((y_1 + (1 : Int32)) : Int32) fun h_columns_7 =>
  bd3 (f_X4_number (3 : Int32) t_size t_position_2 t_fault_3 t_bytes) fun y_10 t_position_11 t_fault_12 =>
  nm ((y_10 + (1 : Int32)) : Int32) fun h_rows_16 =>
  jn (fun (k20 : Int32 → Option (Int32 × Int32 × Int32 × (Nat → Int32) × (Nat → Int32) × Int32 × Int32 × Int32 × (Nat → Int32) × Int32 × Int32 × Int32 × (Nat → Int32) × (Nat → Int32) × Int32 × Int32)) => (if (6 : Int32) < h_columns_7 then
  (bd1 (f_X4_fail (2 : Int32) t_fault_12) fun t_fault_124 =>
  k20 t_fault_124)
  else
  ((if h_rows_16 ≤ (6 : Int32) then
  (k20 t_fault_12)
  else
  (bd1 (f_X4_fail (2 : Int32) t_fault_12) fun t_fault_133 =>
  k20 t_fault_133))))) fun t_fault_21 =>
  bd3 (f_X4_number (5 : Int32) t_size t_position_11 t_fault_21 t_bytes) fun y_24 t_position_25 t_fault_26 =>
  bd3 (f_X1_read_L56 t_size t_bytes 4000 h_scales t_position_25 t_fault_26 (0 : Int32)) fun h_scales_56 t_position_57 t_fault_58 =>
  bd3 (f_X1_read_L82 t_size t_bytes 4000 h_steps t_position_57 t_fault_58 (0 : Int32)) fun h_steps_86 t_position_87 t_fault_88 =>
  bd6 (f_X5_read h_h1_nodeCount h_h1_tokenCount h_h1_root h_h1_branches t_size t_position_87 t_fault_88 t_bytes) fun h_h1_nodeCount_91 h_h1_tokenCount_92 h_h1_root_93 h_h1_branches_94 t_position_95 t_fault_96 =>
  bd6 (f_X5_read h_h2_nodeCount h_h2_tokenCount h_h2_root h_h2_branches t_size t_position_95 t_fault_96 t_bytes) fun h_h2_nodeCount_100 h_h2_tokenCount_101 h_h2_root_102 h_h2_branches_103 t_position_104 t_fault_105 =>
  bd1 (f_X4_isSound t_fault_105) fun y_109 =>
  (if y_109 = (0 : Int32) then
  (some (h_columns_7, h_rows_16, y_24, h_scales_56, h_steps_86, h_h1_nodeCount_91, h_h1_tokenCount_92, h_h1_root_93, h_h1_branches_94, h_h2_nodeCount_100, h_h2_tokenCount_101, h_h2_root_102, h_h2_branches_103, h_order, t_position_104, t_fault_105))
  else
  (bd1 (f_X1_putInOrder h_columns_7 h_rows_16 h_order) fun h_order_117 =>
  some (h_columns_7, h_rows_16, y_24, h_scales_56, h_steps_86, h_h1_nodeCount_91, h_h1_tokenCount_92, h_h1_root_93, h_h1_branches_94, h_h2_nodeCount_100, h_h2_tokenCount_101, h_h2_root_102, h_h2_branches_103, h_order_117, t_position_104, t_fault_105)))

abbrev rm_X1_read : Room := { frames := 20, cells := 0, slots := 0, locals := 804 }

theorem cdS_X1_read : yX1_read.cls ≠ "java/lang/invoke/MethodHandle" ∧ yX1_read.cls ≠ "java/lang/invoke/VarHandle" ∧ (parseMethodDescriptor yX1_read.desc).map (fun d => d.parameters.length) = some 1 := by decide +kernel

theorem cdV_X1_read : yX1_read.cls = RX1 ∧ yX1_read.cls ≠ "java/lang/invoke/MethodHandle" ∧ yX1_read.cls ≠ "java/lang/invoke/VarHandle" ∧ (parseMethodDescriptor yX1_read.desc).map (fun d => d.parameters.length) = some 1 := ⟨rfl, cdS_X1_read⟩

theorem hi_X1_read_1 : ∀ w ∈ u_ws RX1 TX1 8, w ∈ wsX1_read := fun _ h => List.mem_cons_of_mem _ (List.mem_append_left _ (List.mem_append_left _ (List.mem_append_right _ h)))

set_option maxHeartbeats 40000000 in
set_option maxRecDepth 100000 in
theorem c_X1_read (l : Launch) (D : va_G) (cB cI cJ cQ : ClassId) (N : Nat) (r0 : Nat → Nat) (r1 : Nat → Nat) (sz : Nat) (h_columns : Int32) (h_rows : Int32) (h_limit : Int32) (h_scales : Nat → Int32) (h_steps : Nat → Int32) (h_h1_nodeCount : Int32) (h_h1_tokenCount : Int32) (h_h1_root : Int32) (h_h1_branches : Nat → Int32) (h_h2_nodeCount : Int32) (h_h2_tokenCount : Int32) (h_h2_root : Int32) (h_h2_branches : Nat → Int32) (h_order : Nat → Int32) (t_size : Int32) (t_position : Int32) (t_fault : Int32) (t_bytes : Nat → Int32) (o : Int32 × Int32 × Int32 × (Nat → Int32) × (Nat → Int32) × Int32 × Int32 × Int32 × (Nat → Int32) × Int32 × Int32 × Int32 × (Nat → Int32) × (Nat → Int32) × Int32 × Int32) (hm0 : f_X1_read h_columns h_rows h_limit h_scales h_steps h_h1_nodeCount h_h1_tokenCount h_h1_root h_h1_branches h_h2_nodeCount h_h2_tokenCount h_h2_root h_h2_branches h_order t_size t_position t_fault t_bytes = some o) : Met l yX1_read wsX1_read rm_X1_read (ctP D cB cI cJ cQ N sz [.ref (r0 0), .ref (r1 0)] (wf [oB (r0 0) 1 [.ref (r0 1), .ref (r0 2), .ref (r0 3), .ref (r0 5), .ref (r0 7), .int h_columns, .int h_rows, .int h_limit], aI (r0 1) cI 8 h_scales, aI (r0 2) cI 16 h_steps, oB (r0 3) 5 [.ref (r0 4), .int h_h1_nodeCount, .int h_h1_tokenCount, .int h_h1_root], aI (r0 4) cI 88 h_h1_branches, oB (r0 5) 5 [.ref (r0 6), .int h_h2_nodeCount, .int h_h2_tokenCount, .int h_h2_root], aI (r0 6) cI 88 h_h2_branches, aI (r0 7) cI 36 h_order, oB (r1 0) 4 [.ref (r1 1), .int t_size, .int t_position, .int t_fault], aI (r1 1) cB 6000 t_bytes] [])) (ctQv D (wf [oB (r0 0) 1 [.ref (r0 1), .ref (r0 2), .ref (r0 3), .ref (r0 5), .ref (r0 7), .int (o.1), .int (o.2.1), .int (o.2.2.1)], aI (r0 1) cI 8 (o.2.2.2.1), aI (r0 2) cI 16 (o.2.2.2.2.1), oB (r0 3) 5 [.ref (r0 4), .int (o.2.2.2.2.2.1), .int (o.2.2.2.2.2.2.1), .int (o.2.2.2.2.2.2.2.1)], aI (r0 4) cI 88 (o.2.2.2.2.2.2.2.2.1), oB (r0 5) 5 [.ref (r0 6), .int (o.2.2.2.2.2.2.2.2.2.1), .int (o.2.2.2.2.2.2.2.2.2.2.1), .int (o.2.2.2.2.2.2.2.2.2.2.2.1)], aI (r0 6) cI 88 (o.2.2.2.2.2.2.2.2.2.2.2.2.1), aI (r0 7) cI 36 (o.2.2.2.2.2.2.2.2.2.2.2.2.2.1), oB (r1 0) 4 [.ref (r1 1), .int t_size, .int (o.2.2.2.2.2.2.2.2.2.2.2.2.2.2.1), .int (o.2.2.2.2.2.2.2.2.2.2.2.2.2.2.2)], aI (r1 1) cB 6000 t_bytes] []) (va_A (wf [oB (r0 0) 1 [.ref (r0 1), .ref (r0 2), .ref (r0 3), .ref (r0 5), .ref (r0 7), .int h_columns, .int h_rows, .int h_limit], aI (r0 1) cI 8 h_scales, aI (r0 2) cI 16 h_steps, oB (r0 3) 5 [.ref (r0 4), .int h_h1_nodeCount, .int h_h1_tokenCount, .int h_h1_root], aI (r0 4) cI 88 h_h1_branches, oB (r0 5) 5 [.ref (r0 6), .int h_h2_nodeCount, .int h_h2_tokenCount, .int h_h2_root], aI (r0 6) cI 88 h_h2_branches, aI (r0 7) cI 36 h_order, oB (r1 0) 4 [.ref (r1 1), .int t_size, .int t_position, .int t_fault], aI (r1 1) cB 6000 t_bytes] []) sz)) 0 0 (va_A (wf [oB (r0 0) 1 [.ref (r0 1), .ref (r0 2), .ref (r0 3), .ref (r0 5), .ref (r0 7), .int h_columns, .int h_rows, .int h_limit], aI (r0 1) cI 8 h_scales, aI (r0 2) cI 16 h_steps, oB (r0 3) 5 [.ref (r0 4), .int h_h1_nodeCount, .int h_h1_tokenCount, .int h_h1_root], aI (r0 4) cI 88 h_h1_branches, oB (r0 5) 5 [.ref (r0 6), .int h_h2_nodeCount, .int h_h2_tokenCount, .int h_h2_root], aI (r0 6) cI 88 h_h2_branches, aI (r0 7) cI 36 h_order, oB (r1 0) 4 [.ref (r1 1), .int t_size, .int t_position, .int t_fault], aI (r1 1) cB 6000 t_bytes] []) sz) := by
  refine ct_of (cc := cX1_read) (maxL := 3) (ret := none) (own := RX1) (Qp := ctQv D (wf [oB (r0 0) 1 [.ref (r0 1), .ref (r0 2), .ref (r0 3), .ref (r0 5), .ref (r0 7), .int (o.1), .int (o.2.1), .int (o.2.2.1)], aI (r0 1) cI 8 (o.2.2.2.1), aI (r0 2) cI 16 (o.2.2.2.2.1), oB (r0 3) 5 [.ref (r0 4), .int (o.2.2.2.2.2.1), .int (o.2.2.2.2.2.2.1), .int (o.2.2.2.2.2.2.2.1)], aI (r0 4) cI 88 (o.2.2.2.2.2.2.2.2.1), oB (r0 5) 5 [.ref (r0 6), .int (o.2.2.2.2.2.2.2.2.2.1), .int (o.2.2.2.2.2.2.2.2.2.2.1), .int (o.2.2.2.2.2.2.2.2.2.2.2.1)], aI (r0 6) cI 88 (o.2.2.2.2.2.2.2.2.2.2.2.2.1), aI (r0 7) cI 36 (o.2.2.2.2.2.2.2.2.2.2.2.2.2.1), oB (r1 0) 4 [.ref (r1 1), .int t_size, .int (o.2.2.2.2.2.2.2.2.2.2.2.2.2.2.1), .int (o.2.2.2.2.2.2.2.2.2.2.2.2.2.2.2)], aI (r1 1) cB 6000 t_bytes] [])) (by decide) rfl rfl (Nat.le_of_ble_eq_true rfl) ?_
  intro p e s m args below meth c A hx hb hr hml hown hts hlk hnm hsz hAe E hP0 hD0 hS0 ls0 hl0
  subst hsz
  have hl0 : lv_has ls0 3 [(0, .ref (r0 0)), (1, .ref (r1 0))] := hl0
  obtain ⟨QQ, hQ⟩ : ∃ Q : State → Prop, Q = MQ below (ctQv D (wf [oB (r0 0) 1 [.ref (r0 1), .ref (r0 2), .ref (r0 3), .ref (r0 5), .ref (r0 7), .int (o.1), .int (o.2.1), .int (o.2.2.1)], aI (r0 1) cI 8 (o.2.2.2.1), aI (r0 2) cI 16 (o.2.2.2.2.1), oB (r0 3) 5 [.ref (r0 4), .int (o.2.2.2.2.2.1), .int (o.2.2.2.2.2.2.1), .int (o.2.2.2.2.2.2.2.1)], aI (r0 4) cI 88 (o.2.2.2.2.2.2.2.2.1), oB (r0 5) 5 [.ref (r0 6), .int (o.2.2.2.2.2.2.2.2.2.1), .int (o.2.2.2.2.2.2.2.2.2.2.1), .int (o.2.2.2.2.2.2.2.2.2.2.2.1)], aI (r0 6) cI 88 (o.2.2.2.2.2.2.2.2.2.2.2.2.1), aI (r0 7) cI 36 (o.2.2.2.2.2.2.2.2.2.2.2.2.2.1), oB (r1 0) 4 [.ref (r1 1), .int t_size, .int (o.2.2.2.2.2.2.2.2.2.2.2.2.2.2.1), .int (o.2.2.2.2.2.2.2.2.2.2.2.2.2.2.2)], aI (r1 1) cB 6000 t_bytes] []) A) args s 0 0 A := ⟨_, rfl⟩
  rw [← hQ]
  unfold f_X1_read at hm0
  refine lv_aload_n hx hb dX1_read_0 rfl (lv_at hl0 0 rfl) ?_
  refine lv_aload_n hx hb dX1_read_1 rfl (lv_at hl0 1 rfl) ?_
  refine lv_iconst (v := 3) hx hb dX1_read_2 (by decide) ?_
  obtain ⟨y_1, t_position_2, t_fault_3, hcl4, hm4⟩ := bd3_some hm0; clear hm0
  have sb5 := ctS.mk (n := 10) (k := 0) (pre := [oB (r0 0) 1 [.ref (r0 1), .ref (r0 2), .ref (r0 3), .ref (r0 5), .ref (r0 7), .int h_columns, .int h_rows, .int h_limit], aI (r0 1) cI 8 h_scales, aI (r0 2) cI 16 h_steps, oB (r0 3) 5 [.ref (r0 4), .int h_h1_nodeCount, .int h_h1_tokenCount, .int h_h1_root], aI (r0 4) cI 88 h_h1_branches, oB (r0 5) 5 [.ref (r0 6), .int h_h2_nodeCount, .int h_h2_tokenCount, .int h_h2_root], aI (r0 6) cI 88 h_h2_branches, aI (r0 7) cI 36 h_order, oB (r1 0) 4 [.ref (r1 1), .int t_size, .int t_position, .int t_fault], aI (r1 1) cB 6000 t_bytes]) (tl := []) [8, 9] [0, 1, 2, 3, 4, 5, 6, 7] [] [] rfl rfl (by decide +kernel) (by decide +kernel)
  refine ct_calli (r := y_1) E sb5 hP0 hD0 hS0 (va_runV (As := [.int (3 : Int32)]) (rest := [.ref (r0 0)]) ⟨hx, hb, hml, hown, hts⟩ (c_X4_number l D cB cI cJ cQ N r1 s.heap.size (3 : Int32) t_size t_position t_fault t_bytes (y_1, t_position_2, t_fault_3) hcl4) (cwV 1 hts gX1_read_X4_number rfl rfl rfl cdV_X4_number ⟨Nat.le_of_ble_eq_true rfl, Nat.le_of_ble_eq_true rfl⟩) (ct_preV (q0 := 8) (ci := 4) E sb5 hP0 hD0 hS0 rfl rfl) rfl rfl hl0.1 rfl (lv_room (Nat.le_of_ble_eq_true rfl)) dX1_read_3 ⟨Nat.zero_le _, Nat.zero_le _⟩) (fun H6 lc6 hP6 hD6 hS6 => ?_); clear sb5 hcl4
  clear hP0 hD0 hS0
  have hP6 : va_P D vwCl (wf [oB (r0 0) 1 [.ref (r0 1), .ref (r0 2), .ref (r0 3), .ref (r0 5), .ref (r0 7), .int h_columns, .int h_rows, .int h_limit], aI (r0 1) cI 8 h_scales, aI (r0 2) cI 16 h_steps, oB (r0 3) 5 [.ref (r0 4), .int h_h1_nodeCount, .int h_h1_tokenCount, .int h_h1_root], aI (r0 4) cI 88 h_h1_branches, oB (r0 5) 5 [.ref (r0 6), .int h_h2_nodeCount, .int h_h2_tokenCount, .int h_h2_root], aI (r0 6) cI 88 h_h2_branches, aI (r0 7) cI 36 h_order, oB (r1 0) 4 [.ref (r1 1), .int t_size, .int t_position_2, .int t_fault_3], aI (r1 1) cB 6000 t_bytes] []) H6 := hP6
  have hD6 : va_D A (wf [oB (r0 0) 1 [.ref (r0 1), .ref (r0 2), .ref (r0 3), .ref (r0 5), .ref (r0 7), .int h_columns, .int h_rows, .int h_limit], aI (r0 1) cI 8 h_scales, aI (r0 2) cI 16 h_steps, oB (r0 3) 5 [.ref (r0 4), .int h_h1_nodeCount, .int h_h1_tokenCount, .int h_h1_root], aI (r0 4) cI 88 h_h1_branches, oB (r0 5) 5 [.ref (r0 6), .int h_h2_nodeCount, .int h_h2_tokenCount, .int h_h2_root], aI (r0 6) cI 88 h_h2_branches, aI (r0 7) cI 36 h_order, oB (r1 0) 4 [.ref (r1 1), .int t_size, .int t_position_2, .int t_fault_3], aI (r1 1) cB 6000 t_bytes] []) := hD6
  refine lv_iconst (v := 1) hx hb dX1_read_6 (by decide) ?_
  refine lv_iadd hx hb dX1_read_7 ?_
  obtain ⟨h_columns_7, eh_columns_7, hm8⟩ := nm_some hm4; clear hm4
  refine ct_topi eh_columns_7 ?_
  refine ct_put (D := D) (ci := 1) (v := .int h_columns_7) (ty := .int) (C := RX1) (T := TX1) (N := 8) (ws' := (wf [oB (r0 0) 1 [.ref (r0 1), .ref (r0 2), .ref (r0 3), .ref (r0 5), .ref (r0 7), .int h_columns_7, .int h_rows, .int h_limit], aI (r0 1) cI 8 h_scales, aI (r0 2) cI 16 h_steps, oB (r0 3) 5 [.ref (r0 4), .int h_h1_nodeCount, .int h_h1_tokenCount, .int h_h1_root], aI (r0 4) cI 88 h_h1_branches, oB (r0 5) 5 [.ref (r0 6), .int h_h2_nodeCount, .int h_h2_tokenCount, .int h_h2_root], aI (r0 6) cI 88 h_h2_branches, aI (r0 7) cI 36 h_order, oB (r1 0) 4 [.ref (r1 1), .int t_size, .int t_position_2, .int t_fault_3], aI (r1 1) cB 6000 t_bytes] [])) hx hb hts hi_X1_read_1 tyX1 tyX1_ok nmX1 hown E.1 hP6 hD6 hS6 0 rfl rfl 5 (by decide) (hts _ (List.mem_of_getElem? (i := 1) rfl)) (fun _ h9 => h9) rfl (by decide +kernel) rfl rfl (Nat.le_of_ble_eq_true rfl) rfl dX1_read_8 (fun H9 lc9 hP9 hD9 hS9 => ?_)
  clear hP6 hD6 hS6
  refine lv_aload_n hx hb dX1_read_11 rfl (lv_at hl0 0 rfl) ?_
  refine lv_aload_n hx hb dX1_read_12 rfl (lv_at hl0 1 rfl) ?_
  refine lv_iconst (v := 3) hx hb dX1_read_13 (by decide) ?_
  obtain ⟨y_10, t_position_11, t_fault_12, hcl13, hm13⟩ := bd3_some hm8; clear hm8
  have sb14 := ctS.mk (n := 10) (k := 0) (pre := [oB (r0 0) 1 [.ref (r0 1), .ref (r0 2), .ref (r0 3), .ref (r0 5), .ref (r0 7), .int h_columns_7, .int h_rows, .int h_limit], aI (r0 1) cI 8 h_scales, aI (r0 2) cI 16 h_steps, oB (r0 3) 5 [.ref (r0 4), .int h_h1_nodeCount, .int h_h1_tokenCount, .int h_h1_root], aI (r0 4) cI 88 h_h1_branches, oB (r0 5) 5 [.ref (r0 6), .int h_h2_nodeCount, .int h_h2_tokenCount, .int h_h2_root], aI (r0 6) cI 88 h_h2_branches, aI (r0 7) cI 36 h_order, oB (r1 0) 4 [.ref (r1 1), .int t_size, .int t_position_2, .int t_fault_3], aI (r1 1) cB 6000 t_bytes]) (tl := []) [8, 9] [0, 1, 2, 3, 4, 5, 6, 7] [] [] rfl rfl (by decide +kernel) (by decide +kernel)
  refine ct_calli (r := y_10) E sb14 hP9 hD9 hS9 (va_runV (As := [.int (3 : Int32)]) (rest := [.ref (r0 0)]) ⟨hx, hb, hml, hown, hts⟩ (c_X4_number l D cB cI cJ cQ N r1 H9.size (3 : Int32) t_size t_position_2 t_fault_3 t_bytes (y_10, t_position_11, t_fault_12) hcl13) (cwV 1 hts gX1_read_X4_number rfl rfl rfl cdV_X4_number ⟨Nat.le_of_ble_eq_true rfl, Nat.le_of_ble_eq_true rfl⟩) (ct_preV (q0 := 8) (ci := 4) E sb14 hP9 hD9 hS9 rfl rfl) rfl rfl hl0.1 rfl (lv_room (Nat.le_of_ble_eq_true rfl)) dX1_read_14 ⟨Nat.zero_le _, Nat.zero_le _⟩) (fun H15 lc15 hP15 hD15 hS15 => ?_); clear sb14 hcl13
  clear hP9 hD9 hS9
  have hP15 : va_P D vwCl (wf [oB (r0 0) 1 [.ref (r0 1), .ref (r0 2), .ref (r0 3), .ref (r0 5), .ref (r0 7), .int h_columns_7, .int h_rows, .int h_limit], aI (r0 1) cI 8 h_scales, aI (r0 2) cI 16 h_steps, oB (r0 3) 5 [.ref (r0 4), .int h_h1_nodeCount, .int h_h1_tokenCount, .int h_h1_root], aI (r0 4) cI 88 h_h1_branches, oB (r0 5) 5 [.ref (r0 6), .int h_h2_nodeCount, .int h_h2_tokenCount, .int h_h2_root], aI (r0 6) cI 88 h_h2_branches, aI (r0 7) cI 36 h_order, oB (r1 0) 4 [.ref (r1 1), .int t_size, .int t_position_11, .int t_fault_12], aI (r1 1) cB 6000 t_bytes] []) H15 := hP15
  have hD15 : va_D A (wf [oB (r0 0) 1 [.ref (r0 1), .ref (r0 2), .ref (r0 3), .ref (r0 5), .ref (r0 7), .int h_columns_7, .int h_rows, .int h_limit], aI (r0 1) cI 8 h_scales, aI (r0 2) cI 16 h_steps, oB (r0 3) 5 [.ref (r0 4), .int h_h1_nodeCount, .int h_h1_tokenCount, .int h_h1_root], aI (r0 4) cI 88 h_h1_branches, oB (r0 5) 5 [.ref (r0 6), .int h_h2_nodeCount, .int h_h2_tokenCount, .int h_h2_root], aI (r0 6) cI 88 h_h2_branches, aI (r0 7) cI 36 h_order, oB (r1 0) 4 [.ref (r1 1), .int t_size, .int t_position_11, .int t_fault_12], aI (r1 1) cB 6000 t_bytes] []) := hD15
  refine lv_iconst (v := 1) hx hb dX1_read_17 (by decide) ?_
  refine lv_iadd hx hb dX1_read_18 ?_
  obtain ⟨h_rows_16, eh_rows_16, hm17⟩ := nm_some hm13; clear hm13
  refine ct_topi eh_rows_16 ?_
  refine ct_put (D := D) (ci := 1) (v := .int h_rows_16) (ty := .int) (C := RX1) (T := TX1) (N := 8) (ws' := (wf [oB (r0 0) 1 [.ref (r0 1), .ref (r0 2), .ref (r0 3), .ref (r0 5), .ref (r0 7), .int h_columns_7, .int h_rows_16, .int h_limit], aI (r0 1) cI 8 h_scales, aI (r0 2) cI 16 h_steps, oB (r0 3) 5 [.ref (r0 4), .int h_h1_nodeCount, .int h_h1_tokenCount, .int h_h1_root], aI (r0 4) cI 88 h_h1_branches, oB (r0 5) 5 [.ref (r0 6), .int h_h2_nodeCount, .int h_h2_tokenCount, .int h_h2_root], aI (r0 6) cI 88 h_h2_branches, aI (r0 7) cI 36 h_order, oB (r1 0) 4 [.ref (r1 1), .int t_size, .int t_position_11, .int t_fault_12], aI (r1 1) cB 6000 t_bytes] [])) hx hb hts hi_X1_read_1 tyX1 tyX1_ok nmX1 hown E.1 hP15 hD15 hS15 0 rfl rfl 6 (by decide) (hts _ (List.mem_of_getElem? (i := 2) rfl)) (fun _ h9 => h9) rfl (by decide +kernel) rfl rfl (Nat.le_of_ble_eq_true rfl) rfl dX1_read_19 (fun H18 lc18 hP18 hD18 hS18 => ?_)
  clear hP15 hD15 hS15
  refine lv_aload_n hx hb dX1_read_22 rfl (lv_at hl0 0 rfl) ?_
  refine va_get (D := D) (ci := 1) (v := .int h_columns_7) (C := RX1) (T := TX1) (N := 8) hx hb hts hi_X1_read_1 hown E.1 hP18 0 rfl rfl 5 (by decide) (hts _ (List.mem_of_getElem? (i := 1) rfl)) (fun _ h9 => h9) rfl dX1_read_23 ?_
  refine lv_bipush (v := 6) hx hb dX1_read_26 (by decide) ?_
  obtain ⟨k20, ek20, hm20⟩ := jn_some hm17; clear hm17
  have KJ20 : ∀ (t_fault_21 : Int32) (H22 : Heap) (lc22 : List Loc) (ls22 : Array Slot), k20 t_fault_21 = some o → va_P D vwCl (wf [oB (r0 0) 1 [.ref (r0 1), .ref (r0 2), .ref (r0 3), .ref (r0 5), .ref (r0 7), .int h_columns_7, .int h_rows_16, .int h_limit], aI (r0 1) cI 8 h_scales, aI (r0 2) cI 16 h_steps, oB (r0 3) 5 [.ref (r0 4), .int h_h1_nodeCount, .int h_h1_tokenCount, .int h_h1_root], aI (r0 4) cI 88 h_h1_branches, oB (r0 5) 5 [.ref (r0 6), .int h_h2_nodeCount, .int h_h2_tokenCount, .int h_h2_root], aI (r0 6) cI 88 h_h2_branches, aI (r0 7) cI 36 h_order, oB (r1 0) 4 [.ref (r1 1), .int t_size, .int t_position_11, .int t_fault_21], aI (r1 1) cB 6000 t_bytes] []) H22 → va_D A (wf [oB (r0 0) 1 [.ref (r0 1), .ref (r0 2), .ref (r0 3), .ref (r0 5), .ref (r0 7), .int h_columns_7, .int h_rows_16, .int h_limit], aI (r0 1) cI 8 h_scales, aI (r0 2) cI 16 h_steps, oB (r0 3) 5 [.ref (r0 4), .int h_h1_nodeCount, .int h_h1_tokenCount, .int h_h1_root], aI (r0 4) cI 88 h_h1_branches, oB (r0 5) 5 [.ref (r0 6), .int h_h2_nodeCount, .int h_h2_tokenCount, .int h_h2_root], aI (r0 6) cI 88 h_h2_branches, aI (r0 7) cI 36 h_order, oB (r1 0) 4 [.ref (r1 1), .int t_size, .int t_position_11, .int t_fault_21], aI (r1 1) cB 6000 t_bytes] []) → va_S A s.heap H22 lc22 → lv_has ls22 3 [(0, .ref (r0 0)), (1, .ref (r1 0))] → W p l e rm_X1_read s m args below meth c H22 lc22 0 0 QQ (F0 m 45 ls22 []) := by
    intro t_fault_21 H22 lc22 ls22 hm23 hP22 hD22 hS22 hl22
    rw [ek20] at hm23
    refine lv_aload_n hx hb dX1_read_45 rfl (lv_at hl22 0 rfl) ?_
    refine lv_aload_n hx hb dX1_read_46 rfl (lv_at hl22 1 rfl) ?_
    refine lv_iconst (v := 5) hx hb dX1_read_47 (by decide) ?_
    obtain ⟨y_24, t_position_25, t_fault_26, hcl27, hm27⟩ := bd3_some hm23; clear hm23
    have sb28 := ctS.mk (n := 10) (k := 0) (pre := [oB (r0 0) 1 [.ref (r0 1), .ref (r0 2), .ref (r0 3), .ref (r0 5), .ref (r0 7), .int h_columns_7, .int h_rows_16, .int h_limit], aI (r0 1) cI 8 h_scales, aI (r0 2) cI 16 h_steps, oB (r0 3) 5 [.ref (r0 4), .int h_h1_nodeCount, .int h_h1_tokenCount, .int h_h1_root], aI (r0 4) cI 88 h_h1_branches, oB (r0 5) 5 [.ref (r0 6), .int h_h2_nodeCount, .int h_h2_tokenCount, .int h_h2_root], aI (r0 6) cI 88 h_h2_branches, aI (r0 7) cI 36 h_order, oB (r1 0) 4 [.ref (r1 1), .int t_size, .int t_position_11, .int t_fault_21], aI (r1 1) cB 6000 t_bytes]) (tl := []) [8, 9] [0, 1, 2, 3, 4, 5, 6, 7] [] [] rfl rfl (by decide +kernel) (by decide +kernel)
    refine ct_calli (r := y_24) E sb28 hP22 hD22 hS22 (va_runV (As := [.int (5 : Int32)]) (rest := [.ref (r0 0)]) ⟨hx, hb, hml, hown, hts⟩ (c_X4_number l D cB cI cJ cQ N r1 H22.size (5 : Int32) t_size t_position_11 t_fault_21 t_bytes (y_24, t_position_25, t_fault_26) hcl27) (cwV 1 hts gX1_read_X4_number rfl rfl rfl cdV_X4_number ⟨Nat.le_of_ble_eq_true rfl, Nat.le_of_ble_eq_true rfl⟩) (ct_preV (q0 := 8) (ci := 4) E sb28 hP22 hD22 hS22 rfl rfl) rfl rfl hl22.1 rfl (lv_room (Nat.le_of_ble_eq_true rfl)) dX1_read_48 ⟨Nat.zero_le _, Nat.zero_le _⟩) (fun H29 lc29 hP29 hD29 hS29 => ?_); clear sb28 hcl27
    clear hP22 hD22 hS22
    have hP29 : va_P D vwCl (wf [oB (r0 0) 1 [.ref (r0 1), .ref (r0 2), .ref (r0 3), .ref (r0 5), .ref (r0 7), .int h_columns_7, .int h_rows_16, .int h_limit], aI (r0 1) cI 8 h_scales, aI (r0 2) cI 16 h_steps, oB (r0 3) 5 [.ref (r0 4), .int h_h1_nodeCount, .int h_h1_tokenCount, .int h_h1_root], aI (r0 4) cI 88 h_h1_branches, oB (r0 5) 5 [.ref (r0 6), .int h_h2_nodeCount, .int h_h2_tokenCount, .int h_h2_root], aI (r0 6) cI 88 h_h2_branches, aI (r0 7) cI 36 h_order, oB (r1 0) 4 [.ref (r1 1), .int t_size, .int t_position_25, .int t_fault_26], aI (r1 1) cB 6000 t_bytes] []) H29 := hP29
    have hD29 : va_D A (wf [oB (r0 0) 1 [.ref (r0 1), .ref (r0 2), .ref (r0 3), .ref (r0 5), .ref (r0 7), .int h_columns_7, .int h_rows_16, .int h_limit], aI (r0 1) cI 8 h_scales, aI (r0 2) cI 16 h_steps, oB (r0 3) 5 [.ref (r0 4), .int h_h1_nodeCount, .int h_h1_tokenCount, .int h_h1_root], aI (r0 4) cI 88 h_h1_branches, oB (r0 5) 5 [.ref (r0 6), .int h_h2_nodeCount, .int h_h2_tokenCount, .int h_h2_root], aI (r0 6) cI 88 h_h2_branches, aI (r0 7) cI 36 h_order, oB (r1 0) 4 [.ref (r1 1), .int t_size, .int t_position_25, .int t_fault_26], aI (r1 1) cB 6000 t_bytes] []) := hD29
    refine ct_put (D := D) (ci := 1) (v := .int y_24) (ty := .int) (C := RX1) (T := TX1) (N := 8) (ws' := (wf [oB (r0 0) 1 [.ref (r0 1), .ref (r0 2), .ref (r0 3), .ref (r0 5), .ref (r0 7), .int h_columns_7, .int h_rows_16, .int y_24], aI (r0 1) cI 8 h_scales, aI (r0 2) cI 16 h_steps, oB (r0 3) 5 [.ref (r0 4), .int h_h1_nodeCount, .int h_h1_tokenCount, .int h_h1_root], aI (r0 4) cI 88 h_h1_branches, oB (r0 5) 5 [.ref (r0 6), .int h_h2_nodeCount, .int h_h2_tokenCount, .int h_h2_root], aI (r0 6) cI 88 h_h2_branches, aI (r0 7) cI 36 h_order, oB (r1 0) 4 [.ref (r1 1), .int t_size, .int t_position_25, .int t_fault_26], aI (r1 1) cB 6000 t_bytes] [])) hx hb hts hi_X1_read_1 tyX1 tyX1_ok nmX1 hown E.1 hP29 hD29 hS29 0 rfl rfl 7 (by decide) (hts _ (List.mem_of_getElem? (i := 3) rfl)) (fun _ h9 => h9) rfl (by decide +kernel) rfl rfl (Nat.le_of_ble_eq_true rfl) rfl dX1_read_51 (fun H30 lc30 hP30 hD30 hS30 => ?_)
    clear hP29 hD29 hS29
    refine lv_iconst (v := 0) hx hb dX1_read_54 (by decide) ?_
    refine lv_istore_n (lv' := [(2, .int (0 : Int32)), (0, .ref (r0 0)), (1, .ref (r1 0))]) hx hb dX1_read_55 rfl hl22 (by decide) rfl (fun ls31 hl31 => ?_); clear hl22
    obtain ⟨h_scales_56, t_position_57, t_fault_58, hlp32, hm59⟩ := bd3_some hm27; clear hm27
    have LP32 : ∀ (n : Nat) (h_scales_33 : Nat → Int32) (t_position_34 : Int32) (t_fault_35 : Int32) (v2_36 : Int32) (z32 : (Nat → Int32) × Int32 × Int32) (H37 : Heap) (lc37 : List Loc) (ls37 : Array Slot), f_X1_read_L56 t_size t_bytes n h_scales_33 t_position_34 t_fault_35 v2_36 = some z32 → va_P D vwCl (wf [oB (r0 0) 1 [.ref (r0 1), .ref (r0 2), .ref (r0 3), .ref (r0 5), .ref (r0 7), .int h_columns_7, .int h_rows_16, .int y_24], aI (r0 1) cI 8 h_scales_33, aI (r0 2) cI 16 h_steps, oB (r0 3) 5 [.ref (r0 4), .int h_h1_nodeCount, .int h_h1_tokenCount, .int h_h1_root], aI (r0 4) cI 88 h_h1_branches, oB (r0 5) 5 [.ref (r0 6), .int h_h2_nodeCount, .int h_h2_tokenCount, .int h_h2_root], aI (r0 6) cI 88 h_h2_branches, aI (r0 7) cI 36 h_order, oB (r1 0) 4 [.ref (r1 1), .int t_size, .int t_position_34, .int t_fault_35], aI (r1 1) cB 6000 t_bytes] []) H37 → va_D A (wf [oB (r0 0) 1 [.ref (r0 1), .ref (r0 2), .ref (r0 3), .ref (r0 5), .ref (r0 7), .int h_columns_7, .int h_rows_16, .int y_24], aI (r0 1) cI 8 h_scales_33, aI (r0 2) cI 16 h_steps, oB (r0 3) 5 [.ref (r0 4), .int h_h1_nodeCount, .int h_h1_tokenCount, .int h_h1_root], aI (r0 4) cI 88 h_h1_branches, oB (r0 5) 5 [.ref (r0 6), .int h_h2_nodeCount, .int h_h2_tokenCount, .int h_h2_root], aI (r0 6) cI 88 h_h2_branches, aI (r0 7) cI 36 h_order, oB (r1 0) 4 [.ref (r1 1), .int t_size, .int t_position_34, .int t_fault_35], aI (r1 1) cB 6000 t_bytes] []) → va_S A s.heap H37 lc37 → lv_has ls37 3 [(0, .ref (r0 0)), (1, .ref (r1 0)), (2, .int v2_36)] → (∀ (H : Heap) (lc : List Loc) (ls : Array Slot), va_P D vwCl (wf [oB (r0 0) 1 [.ref (r0 1), .ref (r0 2), .ref (r0 3), .ref (r0 5), .ref (r0 7), .int h_columns_7, .int h_rows_16, .int y_24], aI (r0 1) cI 8 (z32.1), aI (r0 2) cI 16 h_steps, oB (r0 3) 5 [.ref (r0 4), .int h_h1_nodeCount, .int h_h1_tokenCount, .int h_h1_root], aI (r0 4) cI 88 h_h1_branches, oB (r0 5) 5 [.ref (r0 6), .int h_h2_nodeCount, .int h_h2_tokenCount, .int h_h2_root], aI (r0 6) cI 88 h_h2_branches, aI (r0 7) cI 36 h_order, oB (r1 0) 4 [.ref (r1 1), .int t_size, .int (z32.2.1), .int (z32.2.2)], aI (r1 1) cB 6000 t_bytes] []) H → va_D A (wf [oB (r0 0) 1 [.ref (r0 1), .ref (r0 2), .ref (r0 3), .ref (r0 5), .ref (r0 7), .int h_columns_7, .int h_rows_16, .int y_24], aI (r0 1) cI 8 (z32.1), aI (r0 2) cI 16 h_steps, oB (r0 3) 5 [.ref (r0 4), .int h_h1_nodeCount, .int h_h1_tokenCount, .int h_h1_root], aI (r0 4) cI 88 h_h1_branches, oB (r0 5) 5 [.ref (r0 6), .int h_h2_nodeCount, .int h_h2_tokenCount, .int h_h2_root], aI (r0 6) cI 88 h_h2_branches, aI (r0 7) cI 36 h_order, oB (r1 0) 4 [.ref (r1 1), .int t_size, .int (z32.2.1), .int (z32.2.2)], aI (r1 1) cB 6000 t_bytes] []) → va_S A s.heap H lc → lv_has ls 3 [(0, .ref (r0 0)), (1, .ref (r1 0))] → W p l e rm_X1_read s m args below meth c H lc 0 0 QQ (F0 m 80 ls [])) → W p l e rm_X1_read s m args below meth c H37 lc37 0 0 QQ (F0 m 56 ls37 []) := by
      intro n
      induction n with
      | zero =>
        intro h_scales_33 t_position_34 t_fault_35 v2_36 z32 H37 lc37 ls37 hm39; simp [f_X1_read_L56] at hm39
      | succ n ih =>
        intro h_scales_33 t_position_34 t_fault_35 v2_36 z32 H37 lc37 ls37 hm39 hP37 hD37 hS37 hl37 kx
        rw [f_X1_read_L56] at hm39
        refine lv_iload_n hx hb dX1_read_56 rfl (lv_at hl37 2 rfl) ?_
        refine lv_bipush (v := 8) hx hb dX1_read_57 (by decide) ?_
        refine lv_icmp_ge (tgt := 80) hx hb dX1_read_59 (by decide) (fun hc40 => ?_) (fun hc40 => ?_)
        · have hm41 := bq_t hm39 hc40; clear hm39
          obtain rfl := Option.some.inj hm41
          exact kx _ _ _ hP37 hD37 hS37 (lv_sub hl37 [0, 1] rfl)
        · have hm42 := bq_f hm39 hc40; clear hm39
          refine lv_aload_n hx hb dX1_read_62 rfl (lv_at hl37 0 rfl) ?_
          refine va_get (D := D) (ci := 1) (v := .ref (r0 1)) (C := RX1) (T := TX1) (N := 8) hx hb hts hi_X1_read_1 hown E.1 hP37 0 rfl rfl 0 (by decide) (hts _ (List.mem_of_getElem? (i := 4) rfl)) (fun _ h9 => h9) rfl dX1_read_63 ?_
          refine lv_iload_n hx hb dX1_read_66 rfl (lv_at hl37 2 rfl) ?_
          refine lv_aload_n hx hb dX1_read_67 rfl (lv_at hl37 1 rfl) ?_
          refine lv_bipush (v := 10) hx hb dX1_read_68 (by decide) ?_
          obtain ⟨y_43, t_position_44, t_fault_45, hcl46, hm46⟩ := bd3_some hm42; clear hm42
          have sb47 := ctS.mk (n := 10) (k := 0) (pre := [oB (r0 0) 1 [.ref (r0 1), .ref (r0 2), .ref (r0 3), .ref (r0 5), .ref (r0 7), .int h_columns_7, .int h_rows_16, .int y_24], aI (r0 1) cI 8 h_scales_33, aI (r0 2) cI 16 h_steps, oB (r0 3) 5 [.ref (r0 4), .int h_h1_nodeCount, .int h_h1_tokenCount, .int h_h1_root], aI (r0 4) cI 88 h_h1_branches, oB (r0 5) 5 [.ref (r0 6), .int h_h2_nodeCount, .int h_h2_tokenCount, .int h_h2_root], aI (r0 6) cI 88 h_h2_branches, aI (r0 7) cI 36 h_order, oB (r1 0) 4 [.ref (r1 1), .int t_size, .int t_position_34, .int t_fault_35], aI (r1 1) cB 6000 t_bytes]) (tl := []) [8, 9] [0, 1, 2, 3, 4, 5, 6, 7] [] [] rfl rfl (by decide +kernel) (by decide +kernel)
          refine ct_calli (r := y_43) E sb47 hP37 hD37 hS37 (va_runV (As := [.int (10 : Int32)]) (rest := [.int v2_36, .ref (r0 1)]) ⟨hx, hb, hml, hown, hts⟩ (c_X4_number l D cB cI cJ cQ N r1 H37.size (10 : Int32) t_size t_position_34 t_fault_35 t_bytes (y_43, t_position_44, t_fault_45) hcl46) (cwV 1 hts gX1_read_X4_number rfl rfl rfl cdV_X4_number ⟨Nat.le_of_ble_eq_true rfl, Nat.le_of_ble_eq_true rfl⟩) (ct_preV (q0 := 8) (ci := 4) E sb47 hP37 hD37 hS37 rfl rfl) rfl rfl hl37.1 rfl (lv_room (Nat.le_of_ble_eq_true rfl)) dX1_read_70 ⟨Nat.zero_le _, Nat.zero_le _⟩) (fun H48 lc48 hP48 hD48 hS48 => ?_); clear sb47 hcl46
          clear hP37 hD37 hS37
          have hP48 : va_P D vwCl (wf [oB (r0 0) 1 [.ref (r0 1), .ref (r0 2), .ref (r0 3), .ref (r0 5), .ref (r0 7), .int h_columns_7, .int h_rows_16, .int y_24], aI (r0 1) cI 8 h_scales_33, aI (r0 2) cI 16 h_steps, oB (r0 3) 5 [.ref (r0 4), .int h_h1_nodeCount, .int h_h1_tokenCount, .int h_h1_root], aI (r0 4) cI 88 h_h1_branches, oB (r0 5) 5 [.ref (r0 6), .int h_h2_nodeCount, .int h_h2_tokenCount, .int h_h2_root], aI (r0 6) cI 88 h_h2_branches, aI (r0 7) cI 36 h_order, oB (r1 0) 4 [.ref (r1 1), .int t_size, .int t_position_44, .int t_fault_45], aI (r1 1) cB 6000 t_bytes] []) H48 := hP48
          have hD48 : va_D A (wf [oB (r0 0) 1 [.ref (r0 1), .ref (r0 2), .ref (r0 3), .ref (r0 5), .ref (r0 7), .int h_columns_7, .int h_rows_16, .int y_24], aI (r0 1) cI 8 h_scales_33, aI (r0 2) cI 16 h_steps, oB (r0 3) 5 [.ref (r0 4), .int h_h1_nodeCount, .int h_h1_tokenCount, .int h_h1_root], aI (r0 4) cI 88 h_h1_branches, oB (r0 5) 5 [.ref (r0 6), .int h_h2_nodeCount, .int h_h2_tokenCount, .int h_h2_root], aI (r0 6) cI 88 h_h2_branches, aI (r0 7) cI 36 h_order, oB (r1 0) 4 [.ref (r1 1), .int t_size, .int t_position_44, .int t_fault_45], aI (r1 1) cB 6000 t_bytes] []) := hD48
          obtain ⟨hin49, hm49⟩ := gi_some hm46; clear hm46
          obtain ⟨h_scales_50, eh_scales_50, hm51⟩ := nm_some hm49; clear hm49
          refine ct_iast (g := h_scales_50) (ws' := (wf [oB (r0 0) 1 [.ref (r0 1), .ref (r0 2), .ref (r0 3), .ref (r0 5), .ref (r0 7), .int h_columns_7, .int h_rows_16, .int y_24], aI (r0 1) cI 8 h_scales_50, aI (r0 2) cI 16 h_steps, oB (r0 3) 5 [.ref (r0 4), .int h_h1_nodeCount, .int h_h1_tokenCount, .int h_h1_root], aI (r0 4) cI 88 h_h1_branches, oB (r0 5) 5 [.ref (r0 6), .int h_h2_nodeCount, .int h_h2_tokenCount, .int h_h2_root], aI (r0 6) cI 88 h_h2_branches, aI (r0 7) cI 36 h_order, oB (r1 0) 4 [.ref (r1 1), .int t_size, .int t_position_44, .int t_fault_45], aI (r1 1) cB 6000 t_bytes] [])) hx hb E.1 hP48 hD48 hS48 1 0 rfl rfl hin49 eh_scales_50 rfl dX1_read_73 (fun H52 lc52 hP52 hD52 hS52 => ?_)
          clear hP48 hD48 hS48
          obtain ⟨v2_53, ev2_53, hm54⟩ := nm_some hm51; clear hm51
          refine lv_iinc (v := v2_53) (lv' := [(2, .int v2_53), (0, .ref (r0 0)), (1, .ref (r1 0))]) hx hb dX1_read_74 hl37 (k := 2) rfl (by rw [ev2_53]; rfl) (by decide) rfl (fun ls55 hl55 => ?_); clear hl37
          refine lv_goto (tgt := 56) hx hb dX1_read_77 (by decide) ?_
          exact ih h_scales_50 t_position_44 t_fault_45 v2_53 _ _ _ _ hm54 hP52 hD52 hS52 (lv_sub hl55 [1, 2, 0] rfl) kx
    refine LP32 4000 h_scales t_position_25 t_fault_26 (0 : Int32) (h_scales_56, t_position_57, t_fault_58) _ _ _ hlp32 hP30 hD30 hS30 (lv_sub hl31 [1, 2, 0] rfl) (fun H60 lc60 ls60 hP60 hD60 hS60 hl60 => ?_); clear LP32 hlp32
    clear hP30 hD30 hS30
    have hl60 : lv_has ls60 3 [(0, .ref (r0 0)), (1, .ref (r1 0))] := hl60
    have hP60 : va_P D vwCl (wf [oB (r0 0) 1 [.ref (r0 1), .ref (r0 2), .ref (r0 3), .ref (r0 5), .ref (r0 7), .int h_columns_7, .int h_rows_16, .int y_24], aI (r0 1) cI 8 h_scales_56, aI (r0 2) cI 16 h_steps, oB (r0 3) 5 [.ref (r0 4), .int h_h1_nodeCount, .int h_h1_tokenCount, .int h_h1_root], aI (r0 4) cI 88 h_h1_branches, oB (r0 5) 5 [.ref (r0 6), .int h_h2_nodeCount, .int h_h2_tokenCount, .int h_h2_root], aI (r0 6) cI 88 h_h2_branches, aI (r0 7) cI 36 h_order, oB (r1 0) 4 [.ref (r1 1), .int t_size, .int t_position_57, .int t_fault_58], aI (r1 1) cB 6000 t_bytes] []) H60 := hP60
    have hD60 : va_D A (wf [oB (r0 0) 1 [.ref (r0 1), .ref (r0 2), .ref (r0 3), .ref (r0 5), .ref (r0 7), .int h_columns_7, .int h_rows_16, .int y_24], aI (r0 1) cI 8 h_scales_56, aI (r0 2) cI 16 h_steps, oB (r0 3) 5 [.ref (r0 4), .int h_h1_nodeCount, .int h_h1_tokenCount, .int h_h1_root], aI (r0 4) cI 88 h_h1_branches, oB (r0 5) 5 [.ref (r0 6), .int h_h2_nodeCount, .int h_h2_tokenCount, .int h_h2_root], aI (r0 6) cI 88 h_h2_branches, aI (r0 7) cI 36 h_order, oB (r1 0) 4 [.ref (r1 1), .int t_size, .int t_position_57, .int t_fault_58], aI (r1 1) cB 6000 t_bytes] []) := hD60
    refine lv_iconst (v := 0) hx hb dX1_read_80 (by decide) ?_
    refine lv_istore_n (lv' := [(2, .int (0 : Int32)), (0, .ref (r0 0)), (1, .ref (r1 0))]) hx hb dX1_read_81 rfl hl60 (by decide) rfl (fun ls61 hl61 => ?_); clear hl60
    obtain ⟨h_steps_86, t_position_87, t_fault_88, hlp62, hm89⟩ := bd3_some hm59; clear hm59
    have LP62 : ∀ (n : Nat) (h_steps_63 : Nat → Int32) (t_position_64 : Int32) (t_fault_65 : Int32) (v2_66 : Int32) (z62 : (Nat → Int32) × Int32 × Int32) (H67 : Heap) (lc67 : List Loc) (ls67 : Array Slot), f_X1_read_L82 t_size t_bytes n h_steps_63 t_position_64 t_fault_65 v2_66 = some z62 → va_P D vwCl (wf [oB (r0 0) 1 [.ref (r0 1), .ref (r0 2), .ref (r0 3), .ref (r0 5), .ref (r0 7), .int h_columns_7, .int h_rows_16, .int y_24], aI (r0 1) cI 8 h_scales_56, aI (r0 2) cI 16 h_steps_63, oB (r0 3) 5 [.ref (r0 4), .int h_h1_nodeCount, .int h_h1_tokenCount, .int h_h1_root], aI (r0 4) cI 88 h_h1_branches, oB (r0 5) 5 [.ref (r0 6), .int h_h2_nodeCount, .int h_h2_tokenCount, .int h_h2_root], aI (r0 6) cI 88 h_h2_branches, aI (r0 7) cI 36 h_order, oB (r1 0) 4 [.ref (r1 1), .int t_size, .int t_position_64, .int t_fault_65], aI (r1 1) cB 6000 t_bytes] []) H67 → va_D A (wf [oB (r0 0) 1 [.ref (r0 1), .ref (r0 2), .ref (r0 3), .ref (r0 5), .ref (r0 7), .int h_columns_7, .int h_rows_16, .int y_24], aI (r0 1) cI 8 h_scales_56, aI (r0 2) cI 16 h_steps_63, oB (r0 3) 5 [.ref (r0 4), .int h_h1_nodeCount, .int h_h1_tokenCount, .int h_h1_root], aI (r0 4) cI 88 h_h1_branches, oB (r0 5) 5 [.ref (r0 6), .int h_h2_nodeCount, .int h_h2_tokenCount, .int h_h2_root], aI (r0 6) cI 88 h_h2_branches, aI (r0 7) cI 36 h_order, oB (r1 0) 4 [.ref (r1 1), .int t_size, .int t_position_64, .int t_fault_65], aI (r1 1) cB 6000 t_bytes] []) → va_S A s.heap H67 lc67 → lv_has ls67 3 [(0, .ref (r0 0)), (1, .ref (r1 0)), (2, .int v2_66)] → (∀ (H : Heap) (lc : List Loc) (ls : Array Slot), va_P D vwCl (wf [oB (r0 0) 1 [.ref (r0 1), .ref (r0 2), .ref (r0 3), .ref (r0 5), .ref (r0 7), .int h_columns_7, .int h_rows_16, .int y_24], aI (r0 1) cI 8 h_scales_56, aI (r0 2) cI 16 (z62.1), oB (r0 3) 5 [.ref (r0 4), .int h_h1_nodeCount, .int h_h1_tokenCount, .int h_h1_root], aI (r0 4) cI 88 h_h1_branches, oB (r0 5) 5 [.ref (r0 6), .int h_h2_nodeCount, .int h_h2_tokenCount, .int h_h2_root], aI (r0 6) cI 88 h_h2_branches, aI (r0 7) cI 36 h_order, oB (r1 0) 4 [.ref (r1 1), .int t_size, .int (z62.2.1), .int (z62.2.2)], aI (r1 1) cB 6000 t_bytes] []) H → va_D A (wf [oB (r0 0) 1 [.ref (r0 1), .ref (r0 2), .ref (r0 3), .ref (r0 5), .ref (r0 7), .int h_columns_7, .int h_rows_16, .int y_24], aI (r0 1) cI 8 h_scales_56, aI (r0 2) cI 16 (z62.1), oB (r0 3) 5 [.ref (r0 4), .int h_h1_nodeCount, .int h_h1_tokenCount, .int h_h1_root], aI (r0 4) cI 88 h_h1_branches, oB (r0 5) 5 [.ref (r0 6), .int h_h2_nodeCount, .int h_h2_tokenCount, .int h_h2_root], aI (r0 6) cI 88 h_h2_branches, aI (r0 7) cI 36 h_order, oB (r1 0) 4 [.ref (r1 1), .int t_size, .int (z62.2.1), .int (z62.2.2)], aI (r1 1) cB 6000 t_bytes] []) → va_S A s.heap H lc → lv_has ls 3 [(0, .ref (r0 0)), (1, .ref (r1 0))] → W p l e rm_X1_read s m args below meth c H lc 0 0 QQ (F0 m 106 ls [])) → W p l e rm_X1_read s m args below meth c H67 lc67 0 0 QQ (F0 m 82 ls67 []) := by
      intro n
      induction n with
      | zero =>
        intro h_steps_63 t_position_64 t_fault_65 v2_66 z62 H67 lc67 ls67 hm69; simp [f_X1_read_L82] at hm69
      | succ n ih =>
        intro h_steps_63 t_position_64 t_fault_65 v2_66 z62 H67 lc67 ls67 hm69 hP67 hD67 hS67 hl67 kx
        rw [f_X1_read_L82] at hm69
        refine lv_iload_n hx hb dX1_read_82 rfl (lv_at hl67 2 rfl) ?_
        refine lv_bipush (v := 16) hx hb dX1_read_83 (by decide) ?_
        refine lv_icmp_ge (tgt := 106) hx hb dX1_read_85 (by decide) (fun hc70 => ?_) (fun hc70 => ?_)
        · have hm71 := bq_t hm69 hc70; clear hm69
          obtain rfl := Option.some.inj hm71
          exact kx _ _ _ hP67 hD67 hS67 (lv_sub hl67 [0, 1] rfl)
        · have hm72 := bq_f hm69 hc70; clear hm69
          refine lv_aload_n hx hb dX1_read_88 rfl (lv_at hl67 0 rfl) ?_
          refine va_get (D := D) (ci := 1) (v := .ref (r0 2)) (C := RX1) (T := TX1) (N := 8) hx hb hts hi_X1_read_1 hown E.1 hP67 0 rfl rfl 1 (by decide) (hts _ (List.mem_of_getElem? (i := 5) rfl)) (fun _ h9 => h9) rfl dX1_read_89 ?_
          refine lv_iload_n hx hb dX1_read_92 rfl (lv_at hl67 2 rfl) ?_
          refine lv_aload_n hx hb dX1_read_93 rfl (lv_at hl67 1 rfl) ?_
          refine lv_bipush (v := 8) hx hb dX1_read_94 (by decide) ?_
          obtain ⟨y_73, t_position_74, t_fault_75, hcl76, hm76⟩ := bd3_some hm72; clear hm72
          have sb77 := ctS.mk (n := 10) (k := 0) (pre := [oB (r0 0) 1 [.ref (r0 1), .ref (r0 2), .ref (r0 3), .ref (r0 5), .ref (r0 7), .int h_columns_7, .int h_rows_16, .int y_24], aI (r0 1) cI 8 h_scales_56, aI (r0 2) cI 16 h_steps_63, oB (r0 3) 5 [.ref (r0 4), .int h_h1_nodeCount, .int h_h1_tokenCount, .int h_h1_root], aI (r0 4) cI 88 h_h1_branches, oB (r0 5) 5 [.ref (r0 6), .int h_h2_nodeCount, .int h_h2_tokenCount, .int h_h2_root], aI (r0 6) cI 88 h_h2_branches, aI (r0 7) cI 36 h_order, oB (r1 0) 4 [.ref (r1 1), .int t_size, .int t_position_64, .int t_fault_65], aI (r1 1) cB 6000 t_bytes]) (tl := []) [8, 9] [0, 1, 2, 3, 4, 5, 6, 7] [] [] rfl rfl (by decide +kernel) (by decide +kernel)
          refine ct_calli (r := y_73) E sb77 hP67 hD67 hS67 (va_runV (As := [.int (8 : Int32)]) (rest := [.int v2_66, .ref (r0 2)]) ⟨hx, hb, hml, hown, hts⟩ (c_X4_number l D cB cI cJ cQ N r1 H67.size (8 : Int32) t_size t_position_64 t_fault_65 t_bytes (y_73, t_position_74, t_fault_75) hcl76) (cwV 1 hts gX1_read_X4_number rfl rfl rfl cdV_X4_number ⟨Nat.le_of_ble_eq_true rfl, Nat.le_of_ble_eq_true rfl⟩) (ct_preV (q0 := 8) (ci := 4) E sb77 hP67 hD67 hS67 rfl rfl) rfl rfl hl67.1 rfl (lv_room (Nat.le_of_ble_eq_true rfl)) dX1_read_96 ⟨Nat.zero_le _, Nat.zero_le _⟩) (fun H78 lc78 hP78 hD78 hS78 => ?_); clear sb77 hcl76
          clear hP67 hD67 hS67
          have hP78 : va_P D vwCl (wf [oB (r0 0) 1 [.ref (r0 1), .ref (r0 2), .ref (r0 3), .ref (r0 5), .ref (r0 7), .int h_columns_7, .int h_rows_16, .int y_24], aI (r0 1) cI 8 h_scales_56, aI (r0 2) cI 16 h_steps_63, oB (r0 3) 5 [.ref (r0 4), .int h_h1_nodeCount, .int h_h1_tokenCount, .int h_h1_root], aI (r0 4) cI 88 h_h1_branches, oB (r0 5) 5 [.ref (r0 6), .int h_h2_nodeCount, .int h_h2_tokenCount, .int h_h2_root], aI (r0 6) cI 88 h_h2_branches, aI (r0 7) cI 36 h_order, oB (r1 0) 4 [.ref (r1 1), .int t_size, .int t_position_74, .int t_fault_75], aI (r1 1) cB 6000 t_bytes] []) H78 := hP78
          have hD78 : va_D A (wf [oB (r0 0) 1 [.ref (r0 1), .ref (r0 2), .ref (r0 3), .ref (r0 5), .ref (r0 7), .int h_columns_7, .int h_rows_16, .int y_24], aI (r0 1) cI 8 h_scales_56, aI (r0 2) cI 16 h_steps_63, oB (r0 3) 5 [.ref (r0 4), .int h_h1_nodeCount, .int h_h1_tokenCount, .int h_h1_root], aI (r0 4) cI 88 h_h1_branches, oB (r0 5) 5 [.ref (r0 6), .int h_h2_nodeCount, .int h_h2_tokenCount, .int h_h2_root], aI (r0 6) cI 88 h_h2_branches, aI (r0 7) cI 36 h_order, oB (r1 0) 4 [.ref (r1 1), .int t_size, .int t_position_74, .int t_fault_75], aI (r1 1) cB 6000 t_bytes] []) := hD78
          obtain ⟨hin79, hm79⟩ := gi_some hm76; clear hm76
          obtain ⟨h_steps_80, eh_steps_80, hm81⟩ := nm_some hm79; clear hm79
          refine ct_iast (g := h_steps_80) (ws' := (wf [oB (r0 0) 1 [.ref (r0 1), .ref (r0 2), .ref (r0 3), .ref (r0 5), .ref (r0 7), .int h_columns_7, .int h_rows_16, .int y_24], aI (r0 1) cI 8 h_scales_56, aI (r0 2) cI 16 h_steps_80, oB (r0 3) 5 [.ref (r0 4), .int h_h1_nodeCount, .int h_h1_tokenCount, .int h_h1_root], aI (r0 4) cI 88 h_h1_branches, oB (r0 5) 5 [.ref (r0 6), .int h_h2_nodeCount, .int h_h2_tokenCount, .int h_h2_root], aI (r0 6) cI 88 h_h2_branches, aI (r0 7) cI 36 h_order, oB (r1 0) 4 [.ref (r1 1), .int t_size, .int t_position_74, .int t_fault_75], aI (r1 1) cB 6000 t_bytes] [])) hx hb E.1 hP78 hD78 hS78 2 0 rfl rfl hin79 eh_steps_80 rfl dX1_read_99 (fun H82 lc82 hP82 hD82 hS82 => ?_)
          clear hP78 hD78 hS78
          obtain ⟨v2_83, ev2_83, hm84⟩ := nm_some hm81; clear hm81
          refine lv_iinc (v := v2_83) (lv' := [(2, .int v2_83), (0, .ref (r0 0)), (1, .ref (r1 0))]) hx hb dX1_read_100 hl67 (k := 2) rfl (by rw [ev2_83]; rfl) (by decide) rfl (fun ls85 hl85 => ?_); clear hl67
          refine lv_goto (tgt := 82) hx hb dX1_read_103 (by decide) ?_
          exact ih h_steps_80 t_position_74 t_fault_75 v2_83 _ _ _ _ hm84 hP82 hD82 hS82 (lv_sub hl85 [1, 2, 0] rfl) kx
    refine LP62 4000 h_steps t_position_57 t_fault_58 (0 : Int32) (h_steps_86, t_position_87, t_fault_88) _ _ _ hlp62 hP60 hD60 hS60 (lv_sub hl61 [1, 2, 0] rfl) (fun H90 lc90 ls90 hP90 hD90 hS90 hl90 => ?_); clear LP62 hlp62
    clear hP60 hD60 hS60
    have hl90 : lv_has ls90 3 [(0, .ref (r0 0)), (1, .ref (r1 0))] := hl90
    have hP90 : va_P D vwCl (wf [oB (r0 0) 1 [.ref (r0 1), .ref (r0 2), .ref (r0 3), .ref (r0 5), .ref (r0 7), .int h_columns_7, .int h_rows_16, .int y_24], aI (r0 1) cI 8 h_scales_56, aI (r0 2) cI 16 h_steps_86, oB (r0 3) 5 [.ref (r0 4), .int h_h1_nodeCount, .int h_h1_tokenCount, .int h_h1_root], aI (r0 4) cI 88 h_h1_branches, oB (r0 5) 5 [.ref (r0 6), .int h_h2_nodeCount, .int h_h2_tokenCount, .int h_h2_root], aI (r0 6) cI 88 h_h2_branches, aI (r0 7) cI 36 h_order, oB (r1 0) 4 [.ref (r1 1), .int t_size, .int t_position_87, .int t_fault_88], aI (r1 1) cB 6000 t_bytes] []) H90 := hP90
    have hD90 : va_D A (wf [oB (r0 0) 1 [.ref (r0 1), .ref (r0 2), .ref (r0 3), .ref (r0 5), .ref (r0 7), .int h_columns_7, .int h_rows_16, .int y_24], aI (r0 1) cI 8 h_scales_56, aI (r0 2) cI 16 h_steps_86, oB (r0 3) 5 [.ref (r0 4), .int h_h1_nodeCount, .int h_h1_tokenCount, .int h_h1_root], aI (r0 4) cI 88 h_h1_branches, oB (r0 5) 5 [.ref (r0 6), .int h_h2_nodeCount, .int h_h2_tokenCount, .int h_h2_root], aI (r0 6) cI 88 h_h2_branches, aI (r0 7) cI 36 h_order, oB (r1 0) 4 [.ref (r1 1), .int t_size, .int t_position_87, .int t_fault_88], aI (r1 1) cB 6000 t_bytes] []) := hD90
    refine lv_aload_n hx hb dX1_read_106 rfl (lv_at hl90 0 rfl) ?_
    refine va_get (D := D) (ci := 1) (v := .ref (r0 3)) (C := RX1) (T := TX1) (N := 8) hx hb hts hi_X1_read_1 hown E.1 hP90 0 rfl rfl 2 (by decide) (hts _ (List.mem_of_getElem? (i := 6) rfl)) (fun _ h9 => h9) rfl dX1_read_107 ?_
    refine lv_aload_n hx hb dX1_read_110 rfl (lv_at hl90 1 rfl) ?_
    obtain ⟨h_h1_nodeCount_91, h_h1_tokenCount_92, h_h1_root_93, h_h1_branches_94, t_position_95, t_fault_96, hcl97, hm97⟩ := bd6_some hm89; clear hm89
    have sb98 := ctS.mk (n := 10) (k := 0) (pre := [oB (r0 0) 1 [.ref (r0 1), .ref (r0 2), .ref (r0 3), .ref (r0 5), .ref (r0 7), .int h_columns_7, .int h_rows_16, .int y_24], aI (r0 1) cI 8 h_scales_56, aI (r0 2) cI 16 h_steps_86, oB (r0 3) 5 [.ref (r0 4), .int h_h1_nodeCount, .int h_h1_tokenCount, .int h_h1_root], aI (r0 4) cI 88 h_h1_branches, oB (r0 5) 5 [.ref (r0 6), .int h_h2_nodeCount, .int h_h2_tokenCount, .int h_h2_root], aI (r0 6) cI 88 h_h2_branches, aI (r0 7) cI 36 h_order, oB (r1 0) 4 [.ref (r1 1), .int t_size, .int t_position_87, .int t_fault_88], aI (r1 1) cB 6000 t_bytes]) (tl := []) [3, 4, 8, 9] [0, 1, 2, 5, 6, 7] [] [] rfl rfl (by decide +kernel) (by decide +kernel)
    refine ct_callv E sb98 hP90 hD90 hS90 (va_runV (As := [.ref (r1 0)]) (rest := []) ⟨hx, hb, hml, hown, hts⟩ (c_X5_read l D cB cI cJ cQ N (fun k => r0 (3 + k)) r1 H90.size h_h1_nodeCount h_h1_tokenCount h_h1_root h_h1_branches t_size t_position_87 t_fault_88 t_bytes (h_h1_nodeCount_91, h_h1_tokenCount_92, h_h1_root_93, h_h1_branches_94, t_position_95, t_fault_96) hcl97) (cwV 1 hts gX1_read_X5_read rfl rfl rfl cdV_X5_read ⟨Nat.le_of_ble_eq_true rfl, Nat.le_of_ble_eq_true rfl⟩) (ct_preV (q0 := 3) (ci := 5) E sb98 hP90 hD90 hS90 rfl rfl) rfl rfl hl90.1 rfl (lv_room (Nat.le_of_ble_eq_true rfl)) dX1_read_111 ⟨Nat.zero_le _, Nat.zero_le _⟩) (fun H99 lc99 hP99 hD99 hS99 => ?_); clear sb98 hcl97
    clear hP90 hD90 hS90
    have hP99 : va_P D vwCl (wf [oB (r0 0) 1 [.ref (r0 1), .ref (r0 2), .ref (r0 3), .ref (r0 5), .ref (r0 7), .int h_columns_7, .int h_rows_16, .int y_24], aI (r0 1) cI 8 h_scales_56, aI (r0 2) cI 16 h_steps_86, oB (r0 5) 5 [.ref (r0 6), .int h_h2_nodeCount, .int h_h2_tokenCount, .int h_h2_root], aI (r0 6) cI 88 h_h2_branches, aI (r0 7) cI 36 h_order, oB (r0 3) 5 [.ref (r0 4), .int h_h1_nodeCount_91, .int h_h1_tokenCount_92, .int h_h1_root_93], aI (r0 4) cI 88 h_h1_branches_94, oB (r1 0) 4 [.ref (r1 1), .int t_size, .int t_position_95, .int t_fault_96], aI (r1 1) cB 6000 t_bytes] []) H99 := hP99
    have hD99 : va_D A (wf [oB (r0 0) 1 [.ref (r0 1), .ref (r0 2), .ref (r0 3), .ref (r0 5), .ref (r0 7), .int h_columns_7, .int h_rows_16, .int y_24], aI (r0 1) cI 8 h_scales_56, aI (r0 2) cI 16 h_steps_86, oB (r0 5) 5 [.ref (r0 6), .int h_h2_nodeCount, .int h_h2_tokenCount, .int h_h2_root], aI (r0 6) cI 88 h_h2_branches, aI (r0 7) cI 36 h_order, oB (r0 3) 5 [.ref (r0 4), .int h_h1_nodeCount_91, .int h_h1_tokenCount_92, .int h_h1_root_93], aI (r0 4) cI 88 h_h1_branches_94, oB (r1 0) 4 [.ref (r1 1), .int t_size, .int t_position_95, .int t_fault_96], aI (r1 1) cB 6000 t_bytes] []) := hD99
    refine lv_aload_n hx hb dX1_read_114 rfl (lv_at hl90 0 rfl) ?_
    refine va_get (D := D) (ci := 1) (v := .ref (r0 5)) (C := RX1) (T := TX1) (N := 8) hx hb hts hi_X1_read_1 hown E.1 hP99 0 rfl rfl 3 (by decide) (hts _ (List.mem_of_getElem? (i := 7) rfl)) (fun _ h9 => h9) rfl dX1_read_115 ?_
    refine lv_aload_n hx hb dX1_read_118 rfl (lv_at hl90 1 rfl) ?_
    obtain ⟨h_h2_nodeCount_100, h_h2_tokenCount_101, h_h2_root_102, h_h2_branches_103, t_position_104, t_fault_105, hcl106, hm106⟩ := bd6_some hm97; clear hm97
    have sb107 := ctS.mk (n := 10) (k := 0) (pre := [oB (r0 0) 1 [.ref (r0 1), .ref (r0 2), .ref (r0 3), .ref (r0 5), .ref (r0 7), .int h_columns_7, .int h_rows_16, .int y_24], aI (r0 1) cI 8 h_scales_56, aI (r0 2) cI 16 h_steps_86, oB (r0 5) 5 [.ref (r0 6), .int h_h2_nodeCount, .int h_h2_tokenCount, .int h_h2_root], aI (r0 6) cI 88 h_h2_branches, aI (r0 7) cI 36 h_order, oB (r0 3) 5 [.ref (r0 4), .int h_h1_nodeCount_91, .int h_h1_tokenCount_92, .int h_h1_root_93], aI (r0 4) cI 88 h_h1_branches_94, oB (r1 0) 4 [.ref (r1 1), .int t_size, .int t_position_95, .int t_fault_96], aI (r1 1) cB 6000 t_bytes]) (tl := []) [3, 4, 8, 9] [0, 1, 2, 5, 6, 7] [] [] rfl rfl (by decide +kernel) (by decide +kernel)
    refine ct_callv E sb107 hP99 hD99 hS99 (va_runV (As := [.ref (r1 0)]) (rest := []) ⟨hx, hb, hml, hown, hts⟩ (c_X5_read l D cB cI cJ cQ N (fun k => r0 (5 + k)) r1 H99.size h_h2_nodeCount h_h2_tokenCount h_h2_root h_h2_branches t_size t_position_95 t_fault_96 t_bytes (h_h2_nodeCount_100, h_h2_tokenCount_101, h_h2_root_102, h_h2_branches_103, t_position_104, t_fault_105) hcl106) (cwV 1 hts gX1_read_X5_read rfl rfl rfl cdV_X5_read ⟨Nat.le_of_ble_eq_true rfl, Nat.le_of_ble_eq_true rfl⟩) (ct_preV (q0 := 3) (ci := 5) E sb107 hP99 hD99 hS99 rfl rfl) rfl rfl hl90.1 rfl (lv_room (Nat.le_of_ble_eq_true rfl)) dX1_read_119 ⟨Nat.zero_le _, Nat.zero_le _⟩) (fun H108 lc108 hP108 hD108 hS108 => ?_); clear sb107 hcl106
    clear hP99 hD99 hS99
    have hP108 : va_P D vwCl (wf [oB (r0 0) 1 [.ref (r0 1), .ref (r0 2), .ref (r0 3), .ref (r0 5), .ref (r0 7), .int h_columns_7, .int h_rows_16, .int y_24], aI (r0 1) cI 8 h_scales_56, aI (r0 2) cI 16 h_steps_86, aI (r0 7) cI 36 h_order, oB (r0 3) 5 [.ref (r0 4), .int h_h1_nodeCount_91, .int h_h1_tokenCount_92, .int h_h1_root_93], aI (r0 4) cI 88 h_h1_branches_94, oB (r0 5) 5 [.ref (r0 6), .int h_h2_nodeCount_100, .int h_h2_tokenCount_101, .int h_h2_root_102], aI (r0 6) cI 88 h_h2_branches_103, oB (r1 0) 4 [.ref (r1 1), .int t_size, .int t_position_104, .int t_fault_105], aI (r1 1) cB 6000 t_bytes] []) H108 := hP108
    have hD108 : va_D A (wf [oB (r0 0) 1 [.ref (r0 1), .ref (r0 2), .ref (r0 3), .ref (r0 5), .ref (r0 7), .int h_columns_7, .int h_rows_16, .int y_24], aI (r0 1) cI 8 h_scales_56, aI (r0 2) cI 16 h_steps_86, aI (r0 7) cI 36 h_order, oB (r0 3) 5 [.ref (r0 4), .int h_h1_nodeCount_91, .int h_h1_tokenCount_92, .int h_h1_root_93], aI (r0 4) cI 88 h_h1_branches_94, oB (r0 5) 5 [.ref (r0 6), .int h_h2_nodeCount_100, .int h_h2_tokenCount_101, .int h_h2_root_102], aI (r0 6) cI 88 h_h2_branches_103, oB (r1 0) 4 [.ref (r1 1), .int t_size, .int t_position_104, .int t_fault_105], aI (r1 1) cB 6000 t_bytes] []) := hD108
    refine lv_aload_n hx hb dX1_read_122 rfl (lv_at hl90 1 rfl) ?_
    obtain ⟨y_109, hcl110, hm110⟩ := bd1_some hm106; clear hm106
    have sb111 := ctS.mk (n := 10) (k := 0) (pre := [oB (r0 0) 1 [.ref (r0 1), .ref (r0 2), .ref (r0 3), .ref (r0 5), .ref (r0 7), .int h_columns_7, .int h_rows_16, .int y_24], aI (r0 1) cI 8 h_scales_56, aI (r0 2) cI 16 h_steps_86, aI (r0 7) cI 36 h_order, oB (r0 3) 5 [.ref (r0 4), .int h_h1_nodeCount_91, .int h_h1_tokenCount_92, .int h_h1_root_93], aI (r0 4) cI 88 h_h1_branches_94, oB (r0 5) 5 [.ref (r0 6), .int h_h2_nodeCount_100, .int h_h2_tokenCount_101, .int h_h2_root_102], aI (r0 6) cI 88 h_h2_branches_103, oB (r1 0) 4 [.ref (r1 1), .int t_size, .int t_position_104, .int t_fault_105], aI (r1 1) cB 6000 t_bytes]) (tl := []) [8] [0, 1, 2, 3, 4, 5, 6, 7, 9] [] [] rfl rfl (by decide +kernel) (by decide +kernel)
    refine ct_calli (r := y_109) E sb111 hP108 hD108 hS108 (va_runV (As := []) (rest := []) ⟨hx, hb, hml, hown, hts⟩ (c_X4_isSound l D cB cI cJ cQ N r1 H108.size t_size t_position_104 t_fault_105 (y_109) hcl110) (cwV 0 hts gX1_read_X4_isSound rfl rfl rfl cdV_X4_isSound ⟨Nat.le_of_ble_eq_true rfl, Nat.le_of_ble_eq_true rfl⟩) (ct_preV (q0 := 8) (ci := 4) E sb111 hP108 hD108 hS108 rfl rfl) rfl rfl hl90.1 rfl (lv_room (Nat.le_of_ble_eq_true rfl)) dX1_read_123 ⟨Nat.zero_le _, Nat.zero_le _⟩) (fun H112 lc112 hP112 hD112 hS112 => ?_); clear sb111 hcl110
    clear hP108 hD108 hS108
    have hP112 : va_P D vwCl (wf [oB (r0 0) 1 [.ref (r0 1), .ref (r0 2), .ref (r0 3), .ref (r0 5), .ref (r0 7), .int h_columns_7, .int h_rows_16, .int y_24], aI (r0 1) cI 8 h_scales_56, aI (r0 2) cI 16 h_steps_86, aI (r0 7) cI 36 h_order, oB (r0 3) 5 [.ref (r0 4), .int h_h1_nodeCount_91, .int h_h1_tokenCount_92, .int h_h1_root_93], aI (r0 4) cI 88 h_h1_branches_94, oB (r0 5) 5 [.ref (r0 6), .int h_h2_nodeCount_100, .int h_h2_tokenCount_101, .int h_h2_root_102], aI (r0 6) cI 88 h_h2_branches_103, aI (r1 1) cB 6000 t_bytes, oB (r1 0) 4 [.ref (r1 1), .int t_size, .int t_position_104, .int t_fault_105]] []) H112 := hP112
    have hD112 : va_D A (wf [oB (r0 0) 1 [.ref (r0 1), .ref (r0 2), .ref (r0 3), .ref (r0 5), .ref (r0 7), .int h_columns_7, .int h_rows_16, .int y_24], aI (r0 1) cI 8 h_scales_56, aI (r0 2) cI 16 h_steps_86, aI (r0 7) cI 36 h_order, oB (r0 3) 5 [.ref (r0 4), .int h_h1_nodeCount_91, .int h_h1_tokenCount_92, .int h_h1_root_93], aI (r0 4) cI 88 h_h1_branches_94, oB (r0 5) 5 [.ref (r0 6), .int h_h2_nodeCount_100, .int h_h2_tokenCount_101, .int h_h2_root_102], aI (r0 6) cI 88 h_h2_branches_103, aI (r1 1) cB 6000 t_bytes, oB (r1 0) 4 [.ref (r1 1), .int t_size, .int t_position_104, .int t_fault_105]] []) := hD112
    refine lv_if_eq (tgt := 133) hx hb dX1_read_126 (by decide) (fun hc113 => ?_) (fun hc113 => ?_)
    · have hm114 := bq_t hm110 hc113; clear hm110
      obtain ⟨hP115, hD115⟩ := ct_ord (n := 10) (k := 0) [0, 1, 2, 4, 5, 6, 7, 3, 9, 8] [] hP112 hD112 rfl rfl (by decide +kernel) (by decide +kernel)
      have hS115 := hS112
      have hP115 : va_P D vwCl (wf [oB (r0 0) 1 [.ref (r0 1), .ref (r0 2), .ref (r0 3), .ref (r0 5), .ref (r0 7), .int h_columns_7, .int h_rows_16, .int y_24], aI (r0 1) cI 8 h_scales_56, aI (r0 2) cI 16 h_steps_86, oB (r0 3) 5 [.ref (r0 4), .int h_h1_nodeCount_91, .int h_h1_tokenCount_92, .int h_h1_root_93], aI (r0 4) cI 88 h_h1_branches_94, oB (r0 5) 5 [.ref (r0 6), .int h_h2_nodeCount_100, .int h_h2_tokenCount_101, .int h_h2_root_102], aI (r0 6) cI 88 h_h2_branches_103, aI (r0 7) cI 36 h_order, oB (r1 0) 4 [.ref (r1 1), .int t_size, .int t_position_104, .int t_fault_105], aI (r1 1) cB 6000 t_bytes] []) H112 := hP115
      have hD115 : va_D A (wf [oB (r0 0) 1 [.ref (r0 1), .ref (r0 2), .ref (r0 3), .ref (r0 5), .ref (r0 7), .int h_columns_7, .int h_rows_16, .int y_24], aI (r0 1) cI 8 h_scales_56, aI (r0 2) cI 16 h_steps_86, oB (r0 3) 5 [.ref (r0 4), .int h_h1_nodeCount_91, .int h_h1_tokenCount_92, .int h_h1_root_93], aI (r0 4) cI 88 h_h1_branches_94, oB (r0 5) 5 [.ref (r0 6), .int h_h2_nodeCount_100, .int h_h2_tokenCount_101, .int h_h2_root_102], aI (r0 6) cI 88 h_h2_branches_103, aI (r0 7) cI 36 h_order, oB (r1 0) 4 [.ref (r1 1), .int t_size, .int t_position_104, .int t_fault_105], aI (r1 1) cB 6000 t_bytes] []) := hD115
      obtain rfl := Option.some.inj hm114
      rw [hQ]
      exact ct_vret hx hb hr hlk hP115 hD115 hS115 dX1_read_133
    · have hm116 := bq_f hm110 hc113; clear hm110
      refine lv_aload_n hx hb dX1_read_129 rfl (lv_at hl90 0 rfl) ?_
      obtain ⟨h_order_117, hcl118, hm118⟩ := bd1_some hm116; clear hm116
      have sb119 := ctS.mk (n := 10) (k := 0) (pre := [oB (r0 0) 1 [.ref (r0 1), .ref (r0 2), .ref (r0 3), .ref (r0 5), .ref (r0 7), .int h_columns_7, .int h_rows_16, .int y_24], aI (r0 1) cI 8 h_scales_56, aI (r0 2) cI 16 h_steps_86, aI (r0 7) cI 36 h_order, oB (r0 3) 5 [.ref (r0 4), .int h_h1_nodeCount_91, .int h_h1_tokenCount_92, .int h_h1_root_93], aI (r0 4) cI 88 h_h1_branches_94, oB (r0 5) 5 [.ref (r0 6), .int h_h2_nodeCount_100, .int h_h2_tokenCount_101, .int h_h2_root_102], aI (r0 6) cI 88 h_h2_branches_103, aI (r1 1) cB 6000 t_bytes, oB (r1 0) 4 [.ref (r1 1), .int t_size, .int t_position_104, .int t_fault_105]]) (tl := []) [0, 3] [1, 2, 4, 5, 6, 7, 8, 9] [] [] rfl rfl (by decide +kernel) (by decide +kernel)
      refine ct_callv E sb119 hP112 hD112 hS112 (va_runV (As := []) (rest := []) ⟨hx, hb, hml, hown, hts⟩ (c_X1_putInOrder l D cB cI cJ cQ N r0 H112.size h_columns_7 h_rows_16 y_24 h_order (h_order_117) hcl118) (cwV 0 hts gX1_read_X1_putInOrder rfl rfl rfl cdV_X1_putInOrder ⟨Nat.le_of_ble_eq_true rfl, Nat.le_of_ble_eq_true rfl⟩) (ct_preV (q0 := 0) (ci := 1) E sb119 hP112 hD112 hS112 rfl rfl) rfl rfl hl90.1 rfl (lv_room (Nat.le_of_ble_eq_true rfl)) dX1_read_130 ⟨Nat.zero_le _, Nat.zero_le _⟩) (fun H120 lc120 hP120 hD120 hS120 => ?_); clear sb119 hcl118
      clear hP112 hD112 hS112
      have hP120 : va_P D vwCl (wf [aI (r0 1) cI 8 h_scales_56, aI (r0 2) cI 16 h_steps_86, oB (r0 3) 5 [.ref (r0 4), .int h_h1_nodeCount_91, .int h_h1_tokenCount_92, .int h_h1_root_93], aI (r0 4) cI 88 h_h1_branches_94, oB (r0 5) 5 [.ref (r0 6), .int h_h2_nodeCount_100, .int h_h2_tokenCount_101, .int h_h2_root_102], aI (r0 6) cI 88 h_h2_branches_103, aI (r1 1) cB 6000 t_bytes, oB (r1 0) 4 [.ref (r1 1), .int t_size, .int t_position_104, .int t_fault_105], oB (r0 0) 1 [.ref (r0 1), .ref (r0 2), .ref (r0 3), .ref (r0 5), .ref (r0 7), .int h_columns_7, .int h_rows_16, .int y_24], aI (r0 7) cI 36 h_order_117] []) H120 := hP120
      have hD120 : va_D A (wf [aI (r0 1) cI 8 h_scales_56, aI (r0 2) cI 16 h_steps_86, oB (r0 3) 5 [.ref (r0 4), .int h_h1_nodeCount_91, .int h_h1_tokenCount_92, .int h_h1_root_93], aI (r0 4) cI 88 h_h1_branches_94, oB (r0 5) 5 [.ref (r0 6), .int h_h2_nodeCount_100, .int h_h2_tokenCount_101, .int h_h2_root_102], aI (r0 6) cI 88 h_h2_branches_103, aI (r1 1) cB 6000 t_bytes, oB (r1 0) 4 [.ref (r1 1), .int t_size, .int t_position_104, .int t_fault_105], oB (r0 0) 1 [.ref (r0 1), .ref (r0 2), .ref (r0 3), .ref (r0 5), .ref (r0 7), .int h_columns_7, .int h_rows_16, .int y_24], aI (r0 7) cI 36 h_order_117] []) := hD120
      obtain ⟨hP121, hD121⟩ := ct_ord (n := 10) (k := 0) [8, 0, 1, 2, 3, 4, 5, 9, 7, 6] [] hP120 hD120 rfl rfl (by decide +kernel) (by decide +kernel)
      have hS121 := hS120
      have hP121 : va_P D vwCl (wf [oB (r0 0) 1 [.ref (r0 1), .ref (r0 2), .ref (r0 3), .ref (r0 5), .ref (r0 7), .int h_columns_7, .int h_rows_16, .int y_24], aI (r0 1) cI 8 h_scales_56, aI (r0 2) cI 16 h_steps_86, oB (r0 3) 5 [.ref (r0 4), .int h_h1_nodeCount_91, .int h_h1_tokenCount_92, .int h_h1_root_93], aI (r0 4) cI 88 h_h1_branches_94, oB (r0 5) 5 [.ref (r0 6), .int h_h2_nodeCount_100, .int h_h2_tokenCount_101, .int h_h2_root_102], aI (r0 6) cI 88 h_h2_branches_103, aI (r0 7) cI 36 h_order_117, oB (r1 0) 4 [.ref (r1 1), .int t_size, .int t_position_104, .int t_fault_105], aI (r1 1) cB 6000 t_bytes] []) H120 := hP121
      have hD121 : va_D A (wf [oB (r0 0) 1 [.ref (r0 1), .ref (r0 2), .ref (r0 3), .ref (r0 5), .ref (r0 7), .int h_columns_7, .int h_rows_16, .int y_24], aI (r0 1) cI 8 h_scales_56, aI (r0 2) cI 16 h_steps_86, oB (r0 3) 5 [.ref (r0 4), .int h_h1_nodeCount_91, .int h_h1_tokenCount_92, .int h_h1_root_93], aI (r0 4) cI 88 h_h1_branches_94, oB (r0 5) 5 [.ref (r0 6), .int h_h2_nodeCount_100, .int h_h2_tokenCount_101, .int h_h2_root_102], aI (r0 6) cI 88 h_h2_branches_103, aI (r0 7) cI 36 h_order_117, oB (r1 0) 4 [.ref (r1 1), .int t_size, .int t_position_104, .int t_fault_105], aI (r1 1) cB 6000 t_bytes] []) := hD121
      obtain rfl := Option.some.inj hm118
      rw [hQ]
      exact ct_vret hx hb hr hlk hP121 hD121 hS121 dX1_read_133
  refine lv_icmp_gt (tgt := 40) hx hb dX1_read_28 (by decide) (fun hc122 => ?_) (fun hc122 => ?_)
  · have hm123 := bq_t hm20 hc122; clear hm20
    refine lv_aload_n hx hb dX1_read_40 rfl (lv_at hl0 1 rfl) ?_
    refine lv_iconst (v := 2) hx hb dX1_read_41 (by decide) ?_
    obtain ⟨t_fault_124, hcl125, hm125⟩ := bd1_some hm123; clear hm123
    have sb126 := ctS.mk (n := 10) (k := 0) (pre := [oB (r0 0) 1 [.ref (r0 1), .ref (r0 2), .ref (r0 3), .ref (r0 5), .ref (r0 7), .int h_columns_7, .int h_rows_16, .int h_limit], aI (r0 1) cI 8 h_scales, aI (r0 2) cI 16 h_steps, oB (r0 3) 5 [.ref (r0 4), .int h_h1_nodeCount, .int h_h1_tokenCount, .int h_h1_root], aI (r0 4) cI 88 h_h1_branches, oB (r0 5) 5 [.ref (r0 6), .int h_h2_nodeCount, .int h_h2_tokenCount, .int h_h2_root], aI (r0 6) cI 88 h_h2_branches, aI (r0 7) cI 36 h_order, oB (r1 0) 4 [.ref (r1 1), .int t_size, .int t_position_11, .int t_fault_12], aI (r1 1) cB 6000 t_bytes]) (tl := []) [8] [0, 1, 2, 3, 4, 5, 6, 7, 9] [] [] rfl rfl (by decide +kernel) (by decide +kernel)
    refine ct_callv E sb126 hP18 hD18 hS18 (va_runV (As := [.int (2 : Int32)]) (rest := []) ⟨hx, hb, hml, hown, hts⟩ (c_X4_fail l D cB cI cJ cQ N r1 H18.size (2 : Int32) t_size t_position_11 t_fault_12 (t_fault_124) hcl125) (cwV 1 hts gX1_read_X4_fail rfl rfl rfl cdV_X4_fail ⟨Nat.le_of_ble_eq_true rfl, Nat.le_of_ble_eq_true rfl⟩) (ct_preV (q0 := 8) (ci := 4) E sb126 hP18 hD18 hS18 rfl rfl) rfl rfl hl0.1 rfl (lv_room (Nat.le_of_ble_eq_true rfl)) dX1_read_42 ⟨Nat.zero_le _, Nat.zero_le _⟩) (fun H127 lc127 hP127 hD127 hS127 => ?_); clear sb126 hcl125
    clear hP18 hD18 hS18
    have hP127 : va_P D vwCl (wf [oB (r0 0) 1 [.ref (r0 1), .ref (r0 2), .ref (r0 3), .ref (r0 5), .ref (r0 7), .int h_columns_7, .int h_rows_16, .int h_limit], aI (r0 1) cI 8 h_scales, aI (r0 2) cI 16 h_steps, oB (r0 3) 5 [.ref (r0 4), .int h_h1_nodeCount, .int h_h1_tokenCount, .int h_h1_root], aI (r0 4) cI 88 h_h1_branches, oB (r0 5) 5 [.ref (r0 6), .int h_h2_nodeCount, .int h_h2_tokenCount, .int h_h2_root], aI (r0 6) cI 88 h_h2_branches, aI (r0 7) cI 36 h_order, aI (r1 1) cB 6000 t_bytes, oB (r1 0) 4 [.ref (r1 1), .int t_size, .int t_position_11, .int t_fault_124]] []) H127 := hP127
    have hD127 : va_D A (wf [oB (r0 0) 1 [.ref (r0 1), .ref (r0 2), .ref (r0 3), .ref (r0 5), .ref (r0 7), .int h_columns_7, .int h_rows_16, .int h_limit], aI (r0 1) cI 8 h_scales, aI (r0 2) cI 16 h_steps, oB (r0 3) 5 [.ref (r0 4), .int h_h1_nodeCount, .int h_h1_tokenCount, .int h_h1_root], aI (r0 4) cI 88 h_h1_branches, oB (r0 5) 5 [.ref (r0 6), .int h_h2_nodeCount, .int h_h2_tokenCount, .int h_h2_root], aI (r0 6) cI 88 h_h2_branches, aI (r0 7) cI 36 h_order, aI (r1 1) cB 6000 t_bytes, oB (r1 0) 4 [.ref (r1 1), .int t_size, .int t_position_11, .int t_fault_124]] []) := hD127
    obtain ⟨hP128, hD128⟩ := ct_ord (n := 10) (k := 0) [0, 1, 2, 3, 4, 5, 6, 7, 9, 8] [] hP127 hD127 rfl rfl (by decide +kernel) (by decide +kernel)
    have hS128 := hS127
    have hP128 : va_P D vwCl (wf [oB (r0 0) 1 [.ref (r0 1), .ref (r0 2), .ref (r0 3), .ref (r0 5), .ref (r0 7), .int h_columns_7, .int h_rows_16, .int h_limit], aI (r0 1) cI 8 h_scales, aI (r0 2) cI 16 h_steps, oB (r0 3) 5 [.ref (r0 4), .int h_h1_nodeCount, .int h_h1_tokenCount, .int h_h1_root], aI (r0 4) cI 88 h_h1_branches, oB (r0 5) 5 [.ref (r0 6), .int h_h2_nodeCount, .int h_h2_tokenCount, .int h_h2_root], aI (r0 6) cI 88 h_h2_branches, aI (r0 7) cI 36 h_order, oB (r1 0) 4 [.ref (r1 1), .int t_size, .int t_position_11, .int t_fault_124], aI (r1 1) cB 6000 t_bytes] []) H127 := hP128
    have hD128 : va_D A (wf [oB (r0 0) 1 [.ref (r0 1), .ref (r0 2), .ref (r0 3), .ref (r0 5), .ref (r0 7), .int h_columns_7, .int h_rows_16, .int h_limit], aI (r0 1) cI 8 h_scales, aI (r0 2) cI 16 h_steps, oB (r0 3) 5 [.ref (r0 4), .int h_h1_nodeCount, .int h_h1_tokenCount, .int h_h1_root], aI (r0 4) cI 88 h_h1_branches, oB (r0 5) 5 [.ref (r0 6), .int h_h2_nodeCount, .int h_h2_tokenCount, .int h_h2_root], aI (r0 6) cI 88 h_h2_branches, aI (r0 7) cI 36 h_order, oB (r1 0) 4 [.ref (r1 1), .int t_size, .int t_position_11, .int t_fault_124], aI (r1 1) cB 6000 t_bytes] []) := hD128
    exact KJ20 t_fault_124 _ _ _ hm125 hP128 hD128 hS128 (lv_sub hl0 [0, 1] rfl)
  · have hm129 := bq_f hm20 hc122; clear hm20
    refine lv_aload_n hx hb dX1_read_31 rfl (lv_at hl0 0 rfl) ?_
    refine va_get (D := D) (ci := 1) (v := .int h_rows_16) (C := RX1) (T := TX1) (N := 8) hx hb hts hi_X1_read_1 hown E.1 hP18 0 rfl rfl 6 (by decide) (hts _ (List.mem_of_getElem? (i := 2) rfl)) (fun _ h9 => h9) rfl dX1_read_32 ?_
    refine lv_bipush (v := 6) hx hb dX1_read_35 (by decide) ?_
    refine lv_icmp_le (tgt := 45) hx hb dX1_read_37 (by decide) (fun hc130 => ?_) (fun hc130 => ?_)
    · have hm131 := bq_t hm129 hc130; clear hm129
      exact KJ20 t_fault_12 _ _ _ hm131 hP18 hD18 hS18 (lv_sub hl0 [0, 1] rfl)
    · have hm132 := bq_f hm129 hc130; clear hm129
      refine lv_aload_n hx hb dX1_read_40 rfl (lv_at hl0 1 rfl) ?_
      refine lv_iconst (v := 2) hx hb dX1_read_41 (by decide) ?_
      obtain ⟨t_fault_133, hcl134, hm134⟩ := bd1_some hm132; clear hm132
      have sb135 := ctS.mk (n := 10) (k := 0) (pre := [oB (r0 0) 1 [.ref (r0 1), .ref (r0 2), .ref (r0 3), .ref (r0 5), .ref (r0 7), .int h_columns_7, .int h_rows_16, .int h_limit], aI (r0 1) cI 8 h_scales, aI (r0 2) cI 16 h_steps, oB (r0 3) 5 [.ref (r0 4), .int h_h1_nodeCount, .int h_h1_tokenCount, .int h_h1_root], aI (r0 4) cI 88 h_h1_branches, oB (r0 5) 5 [.ref (r0 6), .int h_h2_nodeCount, .int h_h2_tokenCount, .int h_h2_root], aI (r0 6) cI 88 h_h2_branches, aI (r0 7) cI 36 h_order, oB (r1 0) 4 [.ref (r1 1), .int t_size, .int t_position_11, .int t_fault_12], aI (r1 1) cB 6000 t_bytes]) (tl := []) [8] [0, 1, 2, 3, 4, 5, 6, 7, 9] [] [] rfl rfl (by decide +kernel) (by decide +kernel)
      refine ct_callv E sb135 hP18 hD18 hS18 (va_runV (As := [.int (2 : Int32)]) (rest := []) ⟨hx, hb, hml, hown, hts⟩ (c_X4_fail l D cB cI cJ cQ N r1 H18.size (2 : Int32) t_size t_position_11 t_fault_12 (t_fault_133) hcl134) (cwV 1 hts gX1_read_X4_fail rfl rfl rfl cdV_X4_fail ⟨Nat.le_of_ble_eq_true rfl, Nat.le_of_ble_eq_true rfl⟩) (ct_preV (q0 := 8) (ci := 4) E sb135 hP18 hD18 hS18 rfl rfl) rfl rfl hl0.1 rfl (lv_room (Nat.le_of_ble_eq_true rfl)) dX1_read_42 ⟨Nat.zero_le _, Nat.zero_le _⟩) (fun H136 lc136 hP136 hD136 hS136 => ?_); clear sb135 hcl134
      clear hP18 hD18 hS18
      have hP136 : va_P D vwCl (wf [oB (r0 0) 1 [.ref (r0 1), .ref (r0 2), .ref (r0 3), .ref (r0 5), .ref (r0 7), .int h_columns_7, .int h_rows_16, .int h_limit], aI (r0 1) cI 8 h_scales, aI (r0 2) cI 16 h_steps, oB (r0 3) 5 [.ref (r0 4), .int h_h1_nodeCount, .int h_h1_tokenCount, .int h_h1_root], aI (r0 4) cI 88 h_h1_branches, oB (r0 5) 5 [.ref (r0 6), .int h_h2_nodeCount, .int h_h2_tokenCount, .int h_h2_root], aI (r0 6) cI 88 h_h2_branches, aI (r0 7) cI 36 h_order, aI (r1 1) cB 6000 t_bytes, oB (r1 0) 4 [.ref (r1 1), .int t_size, .int t_position_11, .int t_fault_133]] []) H136 := hP136
      have hD136 : va_D A (wf [oB (r0 0) 1 [.ref (r0 1), .ref (r0 2), .ref (r0 3), .ref (r0 5), .ref (r0 7), .int h_columns_7, .int h_rows_16, .int h_limit], aI (r0 1) cI 8 h_scales, aI (r0 2) cI 16 h_steps, oB (r0 3) 5 [.ref (r0 4), .int h_h1_nodeCount, .int h_h1_tokenCount, .int h_h1_root], aI (r0 4) cI 88 h_h1_branches, oB (r0 5) 5 [.ref (r0 6), .int h_h2_nodeCount, .int h_h2_tokenCount, .int h_h2_root], aI (r0 6) cI 88 h_h2_branches, aI (r0 7) cI 36 h_order, aI (r1 1) cB 6000 t_bytes, oB (r1 0) 4 [.ref (r1 1), .int t_size, .int t_position_11, .int t_fault_133]] []) := hD136
      obtain ⟨hP137, hD137⟩ := ct_ord (n := 10) (k := 0) [0, 1, 2, 3, 4, 5, 6, 7, 9, 8] [] hP136 hD136 rfl rfl (by decide +kernel) (by decide +kernel)
      have hS137 := hS136
      have hP137 : va_P D vwCl (wf [oB (r0 0) 1 [.ref (r0 1), .ref (r0 2), .ref (r0 3), .ref (r0 5), .ref (r0 7), .int h_columns_7, .int h_rows_16, .int h_limit], aI (r0 1) cI 8 h_scales, aI (r0 2) cI 16 h_steps, oB (r0 3) 5 [.ref (r0 4), .int h_h1_nodeCount, .int h_h1_tokenCount, .int h_h1_root], aI (r0 4) cI 88 h_h1_branches, oB (r0 5) 5 [.ref (r0 6), .int h_h2_nodeCount, .int h_h2_tokenCount, .int h_h2_root], aI (r0 6) cI 88 h_h2_branches, aI (r0 7) cI 36 h_order, oB (r1 0) 4 [.ref (r1 1), .int t_size, .int t_position_11, .int t_fault_133], aI (r1 1) cB 6000 t_bytes] []) H136 := hP137
      have hD137 : va_D A (wf [oB (r0 0) 1 [.ref (r0 1), .ref (r0 2), .ref (r0 3), .ref (r0 5), .ref (r0 7), .int h_columns_7, .int h_rows_16, .int h_limit], aI (r0 1) cI 8 h_scales, aI (r0 2) cI 16 h_steps, oB (r0 3) 5 [.ref (r0 4), .int h_h1_nodeCount, .int h_h1_tokenCount, .int h_h1_root], aI (r0 4) cI 88 h_h1_branches, oB (r0 5) 5 [.ref (r0 6), .int h_h2_nodeCount, .int h_h2_tokenCount, .int h_h2_root], aI (r0 6) cI 88 h_h2_branches, aI (r0 7) cI 36 h_order, oB (r1 0) 4 [.ref (r1 1), .int t_size, .int t_position_11, .int t_fault_133], aI (r1 1) cB 6000 t_bytes] []) := hD137
      exact KJ20 t_fault_133 _ _ _ hm134 hP137 hD137 hS137 (lv_sub hl0 [0, 1] rfl)

def f_J7_fill_53178_L5 (x1 : Int32) : Nat → (Nat → Int32) → Int32 → Option ((Nat → Int32))
  | 0, _, _ => none
  | n + 1, a0_4, v2_5 =>
  (if (64 : Int32) ≤ v2_5 then
  (some (a0_4))
  else
  (gi v2_5 64 <|
  nm (upd a0_4 v2_5.toNatClampNeg x1 : Nat → Int32) fun a0_13 =>
  nm (v2_5 + (1 : Int32) : Int32) fun v2_16 =>
  f_J7_fill_53178_L5 x1 n a0_13 v2_16))

def f_J7_fill_53178 (x1 : Int32) (a0 : Nat → Int32) : Option ((Nat → Int32)) :=
  bd1 (f_J7_fill_53178_L5 x1 4000 a0 (0 : Int32)) fun a0_19 =>
  some (a0_19)

abbrev rm_J7_fill_53178 : Room := { frames := 0, cells := 0, slots := 0, locals := 0 }

theorem cdS_J7_fill_53178 : yJ7_fill_53178.cls ≠ "java/lang/invoke/MethodHandle" ∧ yJ7_fill_53178.cls ≠ "java/lang/invoke/VarHandle" ∧ (parseMethodDescriptor yJ7_fill_53178.desc).map (fun d => d.parameters.length) = some 2 := by decide +kernel

set_option maxHeartbeats 40000000 in
set_option maxRecDepth 100000 in
theorem c_J7_fill_53178 (l : Launch) (D : va_G) (cB cI cJ cQ : ClassId) (N : Nat) (r0 : Nat → Nat) (sz : Nat) (x1 : Int32) (a0 : Nat → Int32) (o : (Nat → Int32)) (hm0 : f_J7_fill_53178 x1 a0 = some o) : Met l yJ7_fill_53178 wsJ7_fill_53178 rm_J7_fill_53178 (ctP D cB cI cJ cQ N sz [.ref (r0 0), .int x1] (wf [aI (r0 0) cI 64 a0] [])) (ctQv D (wf [aI (r0 0) cI 64 o] []) (va_A (wf [aI (r0 0) cI 64 a0] []) sz)) 0 0 (va_A (wf [aI (r0 0) cI 64 a0] []) sz) := by
  refine ct_of (cc := cJ7_fill_53178) (maxL := 4) (ret := none) (own := RJ7) (Qp := ctQv D (wf [aI (r0 0) cI 64 o] [])) (by decide) rfl rfl (Nat.le_of_ble_eq_true rfl) ?_
  intro p e s m args below meth c A hx hb hr hml hown hts hlk hnm hsz hAe E hP0 hD0 hS0 ls0 hl0
  subst hsz
  have hl0 : lv_has ls0 4 [(0, .ref (r0 0)), (1, .int x1)] := hl0
  obtain ⟨QQ, hQ⟩ : ∃ Q : State → Prop, Q = MQ below (ctQv D (wf [aI (r0 0) cI 64 o] []) A) args s 0 0 A := ⟨_, rfl⟩
  rw [← hQ]
  unfold f_J7_fill_53178 at hm0
  refine lv_iconst (v := 0) hx hb dJ7_fill_53178_0 (by decide) ?_
  refine lv_istore_n (lv' := [(2, .int (0 : Int32)), (0, .ref (r0 0)), (1, .int x1)]) hx hb dJ7_fill_53178_1 rfl hl0 (by decide) rfl (fun ls1 hl1 => ?_); clear hl0
  refine lv_aload_n hx hb dJ7_fill_53178_2 rfl (lv_at hl1 1 rfl) ?_
  refine va_alen (v := 64) hx hb E.1 hP0 0 0 rfl rfl rfl dJ7_fill_53178_3 ?_
  refine lv_istore_n (lv' := [(3, .int (64 : Int32)), (2, .int (0 : Int32)), (0, .ref (r0 0)), (1, .int x1)]) hx hb dJ7_fill_53178_4 rfl hl1 (by decide) rfl (fun ls2 hl2 => ?_); clear hl1
  obtain ⟨a0_19, hlp3, hm20⟩ := bd1_some hm0; clear hm0
  have LP3 : ∀ (n : Nat) (a0_4 : Nat → Int32) (v2_5 : Int32) (z3 : (Nat → Int32)) (H6 : Heap) (lc6 : List Loc) (ls6 : Array Slot), f_J7_fill_53178_L5 x1 n a0_4 v2_5 = some z3 → va_P D vwCl (wf [aI (r0 0) cI 64 a0_4] []) H6 → va_D A (wf [aI (r0 0) cI 64 a0_4] []) → va_S A s.heap H6 lc6 → lv_has ls6 4 [(0, .ref (r0 0)), (1, .int x1), (2, .int v2_5), (3, .int (64 : Int32))] → (∀ (H : Heap) (lc : List Loc) (ls : Array Slot), va_P D vwCl (wf [aI (r0 0) cI 64 z3] []) H → va_D A (wf [aI (r0 0) cI 64 z3] []) → va_S A s.heap H lc → lv_has ls 4 [] → W p l e rm_J7_fill_53178 s m args below meth c H lc 0 0 QQ (F0 m 20 ls [])) → W p l e rm_J7_fill_53178 s m args below meth c H6 lc6 0 0 QQ (F0 m 5 ls6 []) := by
    intro n
    induction n with
    | zero =>
      intro a0_4 v2_5 z3 H6 lc6 ls6 hm8; simp [f_J7_fill_53178_L5] at hm8
    | succ n ih =>
      intro a0_4 v2_5 z3 H6 lc6 ls6 hm8 hP6 hD6 hS6 hl6 kx
      rw [f_J7_fill_53178_L5] at hm8
      refine lv_iload_n hx hb dJ7_fill_53178_5 rfl (lv_at hl6 2 rfl) ?_
      refine lv_iload_n hx hb dJ7_fill_53178_6 rfl (lv_at hl6 3 rfl) ?_
      refine lv_icmp_ge (tgt := 20) hx hb dJ7_fill_53178_7 (by decide) (fun hc9 => ?_) (fun hc9 => ?_)
      · have hm10 := bq_t hm8 hc9; clear hm8
        obtain rfl := Option.some.inj hm10
        exact kx _ _ _ hP6 hD6 hS6 (lv_sub hl6 [] rfl)
      · have hm11 := bq_f hm8 hc9; clear hm8
        refine lv_aload_n hx hb dJ7_fill_53178_10 rfl (lv_at hl6 0 rfl) ?_
        refine lv_iload_n hx hb dJ7_fill_53178_11 rfl (lv_at hl6 2 rfl) ?_
        refine lv_iload_n hx hb dJ7_fill_53178_12 rfl (lv_at hl6 1 rfl) ?_
        obtain ⟨hin12, hm12⟩ := gi_some hm11; clear hm11
        obtain ⟨a0_13, ea0_13, hm14⟩ := nm_some hm12; clear hm12
        refine ct_iast (g := a0_13) (ws' := (wf [aI (r0 0) cI 64 a0_13] [])) hx hb E.1 hP6 hD6 hS6 0 0 rfl rfl hin12 ea0_13 rfl dJ7_fill_53178_13 (fun H15 lc15 hP15 hD15 hS15 => ?_)
        clear hP6 hD6 hS6
        obtain ⟨v2_16, ev2_16, hm17⟩ := nm_some hm14; clear hm14
        refine lv_iinc (v := v2_16) (lv' := [(2, .int v2_16), (0, .ref (r0 0)), (1, .int x1), (3, .int (64 : Int32))]) hx hb dJ7_fill_53178_14 hl6 (k := 2) rfl (by rw [ev2_16]; rfl) (by decide) rfl (fun ls18 hl18 => ?_); clear hl6
        refine lv_goto (tgt := 5) hx hb dJ7_fill_53178_17 (by decide) ?_
        exact ih a0_13 v2_16 _ _ _ _ hm17 hP15 hD15 hS15 (lv_sub hl18 [1, 2, 0, 3] rfl) kx
  refine LP3 4000 a0 (0 : Int32) (a0_19) _ _ _ hlp3 hP0 hD0 hS0 (lv_sub hl2 [2, 3, 1, 0] rfl) (fun H21 lc21 ls21 hP21 hD21 hS21 hl21 => ?_); clear LP3 hlp3
  clear hP0 hD0 hS0
  have hl21 : lv_has ls21 4 [] := hl21
  have hP21 : va_P D vwCl (wf [aI (r0 0) cI 64 a0_19] []) H21 := hP21
  have hD21 : va_D A (wf [aI (r0 0) cI 64 a0_19] []) := hD21
  obtain rfl := Option.some.inj hm20
  rw [hQ]
  exact ct_vret hx hb hr hlk hP21 hD21 hS21 dJ7_fill_53178_20

def f_J7_fill_d0a16_L6 (x1 : Int64) : Nat → (Nat → Int64) → Int32 → Option ((Nat → Int64))
  | 0, _, _ => none
  | n + 1, a0_4, v3_5 =>
  (if (8 : Int32) ≤ v3_5 then
  (some (a0_4))
  else
  (gi v3_5 8 <|
  nm (vp_updL a0_4 v3_5.toNatClampNeg x1 : Nat → Int64) fun a0_13 =>
  nm (v3_5 + (1 : Int32) : Int32) fun v3_16 =>
  f_J7_fill_d0a16_L6 x1 n a0_13 v3_16))

def f_J7_fill_d0a16 (x1 : Int64) (a0 : Nat → Int64) : Option ((Nat → Int64)) :=
  bd1 (f_J7_fill_d0a16_L6 x1 4000 a0 (0 : Int32)) fun a0_19 =>
  some (a0_19)

abbrev rm_J7_fill_d0a16 : Room := { frames := 0, cells := 0, slots := 0, locals := 0 }

theorem cdS_J7_fill_d0a16 : yJ7_fill_d0a16.cls ≠ "java/lang/invoke/MethodHandle" ∧ yJ7_fill_d0a16.cls ≠ "java/lang/invoke/VarHandle" ∧ (parseMethodDescriptor yJ7_fill_d0a16.desc).map (fun d => d.parameters.length) = some 2 := by decide +kernel

set_option maxHeartbeats 40000000 in
set_option maxRecDepth 100000 in
theorem c_J7_fill_d0a16 (l : Launch) (D : va_G) (cB cI cJ cQ : ClassId) (N : Nat) (r0 : Nat → Nat) (sz : Nat) (x1 : Int64) (a0 : Nat → Int64) (o : (Nat → Int64)) (hm0 : f_J7_fill_d0a16 x1 a0 = some o) : Met l yJ7_fill_d0a16 wsJ7_fill_d0a16 rm_J7_fill_d0a16 (ctP D cB cI cJ cQ N sz [.ref (r0 0), .long x1] (wf [aJ (r0 0) cJ 8 a0] [])) (ctQv D (wf [aJ (r0 0) cJ 8 o] []) (va_A (wf [aJ (r0 0) cJ 8 a0] []) sz)) 0 0 (va_A (wf [aJ (r0 0) cJ 8 a0] []) sz) := by
  refine ct_of (cc := cJ7_fill_d0a16) (maxL := 5) (ret := none) (own := RJ7) (Qp := ctQv D (wf [aJ (r0 0) cJ 8 o] [])) (by decide) rfl rfl (Nat.le_of_ble_eq_true rfl) ?_
  intro p e s m args below meth c A hx hb hr hml hown hts hlk hnm hsz hAe E hP0 hD0 hS0 ls0 hl0
  subst hsz
  have hl0 : lv_has ls0 5 [(0, .ref (r0 0)), (1, .long x1)] := hl0
  obtain ⟨QQ, hQ⟩ : ∃ Q : State → Prop, Q = MQ below (ctQv D (wf [aJ (r0 0) cJ 8 o] []) A) args s 0 0 A := ⟨_, rfl⟩
  rw [← hQ]
  unfold f_J7_fill_d0a16 at hm0
  refine lv_iconst (v := 0) hx hb dJ7_fill_d0a16_0 (by decide) ?_
  refine lv_istore_n (lv' := [(3, .int (0 : Int32)), (0, .ref (r0 0)), (1, .long x1)]) hx hb dJ7_fill_d0a16_1 rfl hl0 (by decide) rfl (fun ls1 hl1 => ?_); clear hl0
  refine lv_aload_n hx hb dJ7_fill_d0a16_2 rfl (lv_at hl1 1 rfl) ?_
  refine va_alen (v := 8) hx hb E.1 hP0 0 2 rfl rfl rfl dJ7_fill_d0a16_3 ?_
  refine lv_istore (lv' := [(4, .int (8 : Int32)), (3, .int (0 : Int32)), (0, .ref (r0 0)), (1, .long x1)]) hx hb dJ7_fill_d0a16_4 hl1 (by decide) rfl (fun ls2 hl2 => ?_); clear hl1
  obtain ⟨a0_19, hlp3, hm20⟩ := bd1_some hm0; clear hm0
  have LP3 : ∀ (n : Nat) (a0_4 : Nat → Int64) (v3_5 : Int32) (z3 : (Nat → Int64)) (H6 : Heap) (lc6 : List Loc) (ls6 : Array Slot), f_J7_fill_d0a16_L6 x1 n a0_4 v3_5 = some z3 → va_P D vwCl (wf [aJ (r0 0) cJ 8 a0_4] []) H6 → va_D A (wf [aJ (r0 0) cJ 8 a0_4] []) → va_S A s.heap H6 lc6 → lv_has ls6 5 [(0, .ref (r0 0)), (1, .long x1), (3, .int v3_5), (4, .int (8 : Int32))] → (∀ (H : Heap) (lc : List Loc) (ls : Array Slot), va_P D vwCl (wf [aJ (r0 0) cJ 8 z3] []) H → va_D A (wf [aJ (r0 0) cJ 8 z3] []) → va_S A s.heap H lc → lv_has ls 5 [] → W p l e rm_J7_fill_d0a16 s m args below meth c H lc 0 0 QQ (F0 m 22 ls [])) → W p l e rm_J7_fill_d0a16 s m args below meth c H6 lc6 0 0 QQ (F0 m 6 ls6 []) := by
    intro n
    induction n with
    | zero =>
      intro a0_4 v3_5 z3 H6 lc6 ls6 hm8; simp [f_J7_fill_d0a16_L6] at hm8
    | succ n ih =>
      intro a0_4 v3_5 z3 H6 lc6 ls6 hm8 hP6 hD6 hS6 hl6 kx
      rw [f_J7_fill_d0a16_L6] at hm8
      refine lv_iload_n hx hb dJ7_fill_d0a16_6 rfl (lv_at hl6 2 rfl) ?_
      refine lv_iload hx hb dJ7_fill_d0a16_7 (lv_at hl6 3 rfl) ?_
      refine lv_icmp_ge (tgt := 22) hx hb dJ7_fill_d0a16_9 (by decide) (fun hc9 => ?_) (fun hc9 => ?_)
      · have hm10 := bq_t hm8 hc9; clear hm8
        obtain rfl := Option.some.inj hm10
        exact kx _ _ _ hP6 hD6 hS6 (lv_sub hl6 [] rfl)
      · have hm11 := bq_f hm8 hc9; clear hm8
        refine lv_aload_n hx hb dJ7_fill_d0a16_12 rfl (lv_at hl6 0 rfl) ?_
        refine lv_iload_n hx hb dJ7_fill_d0a16_13 rfl (lv_at hl6 2 rfl) ?_
        refine lv_lload_n hx hb dJ7_fill_d0a16_14 rfl (lv_at hl6 1 rfl) ?_
        obtain ⟨hin12, hm12⟩ := gi_some hm11; clear hm11
        obtain ⟨a0_13, ea0_13, hm14⟩ := nm_some hm12; clear hm12
        refine ct_last (g := a0_13) (ws' := (wf [aJ (r0 0) cJ 8 a0_13] [])) hx hb E.1 hP6 hD6 hS6 0 2 rfl rfl hin12 ea0_13 rfl dJ7_fill_d0a16_15 (fun H15 lc15 hP15 hD15 hS15 => ?_)
        clear hP6 hD6 hS6
        obtain ⟨v3_16, ev3_16, hm17⟩ := nm_some hm14; clear hm14
        refine lv_iinc (v := v3_16) (lv' := [(3, .int v3_16), (0, .ref (r0 0)), (1, .long x1), (4, .int (8 : Int32))]) hx hb dJ7_fill_d0a16_16 hl6 (k := 2) rfl (by rw [ev3_16]; rfl) (by decide) rfl (fun ls18 hl18 => ?_); clear hl6
        refine lv_goto (tgt := 6) hx hb dJ7_fill_d0a16_19 (by decide) ?_
        exact ih a0_13 v3_16 _ _ _ _ hm17 hP15 hD15 hS15 (lv_sub hl18 [1, 2, 0, 3] rfl) kx
  refine LP3 4000 a0 (0 : Int32) (a0_19) _ _ _ hlp3 hP0 hD0 hS0 (lv_sub hl2 [2, 3, 1, 0] rfl) (fun H21 lc21 ls21 hP21 hD21 hS21 hl21 => ?_); clear LP3 hlp3
  clear hP0 hD0 hS0
  have hl21 : lv_has ls21 5 [] := hl21
  have hP21 : va_P D vwCl (wf [aJ (r0 0) cJ 8 a0_19] []) H21 := hP21
  have hD21 : va_D A (wf [aJ (r0 0) cJ 8 a0_19] []) := hD21
  obtain rfl := Option.some.inj hm20
  rw [hQ]
  exact ct_vret hx hb hr hlk hP21 hD21 hS21 dJ7_fill_d0a16_22
