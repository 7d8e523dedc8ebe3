def f_X0_has (x1 : Int32) (x2 : Int32) (f_columns : Int32) (f_rows : Int32) : Option (Int32) :=
  (if x1 < (0 : Int32) then
  (some ((0 : Int32)))
  else
  ((if f_columns ≤ x1 then
  (some ((0 : Int32)))
  else
  ((if x2 < (0 : Int32) then
  (some ((0 : Int32)))
  else
  ((if f_rows ≤ x2 then
  (some ((0 : Int32)))
  else
  (some ((1 : Int32))))))))))

abbrev rm_X0_has : Room := { frames := 0, cells := 0, slots := 0, locals := 0 }

theorem cdS_X0_has : yX0_has.cls ≠ "java/lang/invoke/MethodHandle" ∧ yX0_has.cls ≠ "java/lang/invoke/VarHandle" ∧ (parseMethodDescriptor yX0_has.desc).map (fun d => d.parameters.length) = some 2 := by decide +kernel

theorem cdV_X0_has : yX0_has.cls = RX0 ∧ yX0_has.cls ≠ "java/lang/invoke/MethodHandle" ∧ yX0_has.cls ≠ "java/lang/invoke/VarHandle" ∧ (parseMethodDescriptor yX0_has.desc).map (fun d => d.parameters.length) = some 2 := ⟨rfl, cdS_X0_has⟩

theorem hi_X0_has_0 : ∀ w ∈ u_ws RX0 TX0 12, w ∈ wsX0_has := fun _ h => List.mem_cons_of_mem _ (List.mem_append_right _ h)

set_option maxHeartbeats 40000000 in
set_option maxRecDepth 100000 in
theorem c_X0_has (l : Launch) (D : va_G) (cB cI cJ cQ : ClassId) (N : Nat) (r0 : Nat → Nat) (sz : Nat) (x1 : Int32) (x2 : Int32) (f_columns : Int32) (f_rows : Int32) (f_scale : Int32) (f_toEnd : Int32) (f_between : Int32) (f_kept : Int32) (o : Int32) (hm0 : f_X0_has x1 x2 f_columns f_rows = some o) : Met l yX0_has wsX0_has rm_X0_has (ctP D cB cI cJ cQ N sz [.ref (r0 0), .int x1, .int x2] (wf [oB (r0 0) 0 [.ref (r0 1), .ref (r0 2), .ref (r0 3), .ref (r0 4), .ref (r0 5), .ref (r0 6), .int f_columns, .int f_rows, .int f_scale, .int f_toEnd, .int f_between, .int f_kept]] [])) (ctQi D o (wf [oB (r0 0) 0 [.ref (r0 1), .ref (r0 2), .ref (r0 3), .ref (r0 4), .ref (r0 5), .ref (r0 6), .int f_columns, .int f_rows, .int f_scale, .int f_toEnd, .int f_between, .int f_kept]] []) (va_A (wf [oB (r0 0) 0 [.ref (r0 1), .ref (r0 2), .ref (r0 3), .ref (r0 4), .ref (r0 5), .ref (r0 6), .int f_columns, .int f_rows, .int f_scale, .int f_toEnd, .int f_between, .int f_kept]] []) sz)) 0 0 (va_A (wf [oB (r0 0) 0 [.ref (r0 1), .ref (r0 2), .ref (r0 3), .ref (r0 4), .ref (r0 5), .ref (r0 6), .int f_columns, .int f_rows, .int f_scale, .int f_toEnd, .int f_between, .int f_kept]] []) sz) := by
  refine ct_of (cc := cX0_has) (maxL := 3) (ret := (some .boolean)) (own := RX0) (Qp := ctQi D o (wf [oB (r0 0) 0 [.ref (r0 1), .ref (r0 2), .ref (r0 3), .ref (r0 4), .ref (r0 5), .ref (r0 6), .int f_columns, .int f_rows, .int f_scale, .int f_toEnd, .int f_between, .int f_kept]] [])) (by decide) rfl rfl (Nat.le_of_ble_eq_true rfl) ?_
  intro p e s m args below meth c A hx hb hr hml hown hts hlk hnm hsz hAe E hP0 hD0 hS0 ls0 hl0
  subst hsz
  have hl0 : lv_has ls0 3 [(0, .ref (r0 0)), (1, .int x1), (2, .int x2)] := hl0
  obtain ⟨QQ, hQ⟩ : ∃ Q : State → Prop, Q = MQ below (ctQi D o (wf [oB (r0 0) 0 [.ref (r0 1), .ref (r0 2), .ref (r0 3), .ref (r0 4), .ref (r0 5), .ref (r0 6), .int f_columns, .int f_rows, .int f_scale, .int f_toEnd, .int f_between, .int f_kept]] []) A) args s 0 0 A := ⟨_, rfl⟩
  rw [← hQ]
  unfold f_X0_has at hm0
  refine lv_iload_n hx hb dX0_has_0 rfl (lv_at hl0 1 rfl) ?_
  refine lv_if_lt (tgt := 28) hx hb dX0_has_1 (by decide) (fun hc1 => ?_) (fun hc1 => ?_)
  · have hm2 := bq_t hm0 hc1; clear hm0
    refine lv_iconst (v := 0) hx hb dX0_has_28 (by decide) ?_
    obtain rfl := Option.some.inj hm2
    rw [hQ]
    exact ct_zret hx hb hr hlk (Or.inl rfl) hP0 hD0 hS0 rfl dX0_has_29
  · have hm3 := bq_f hm0 hc1; clear hm0
    refine lv_iload_n hx hb dX0_has_4 rfl (lv_at hl0 1 rfl) ?_
    refine lv_aload_n hx hb dX0_has_5 rfl (lv_at hl0 0 rfl) ?_
    refine va_get (D := D) (ci := 0) (v := .int f_columns) (C := RX0) (T := TX0) (N := 12) hx hb hts hi_X0_has_0 hown E.1 hP0 0 rfl rfl 6 (by decide) (hts _ (List.mem_of_getElem? (i := 1) rfl)) (fun _ h9 => h9) rfl dX0_has_6 ?_
    refine lv_icmp_ge (tgt := 28) hx hb dX0_has_9 (by decide) (fun hc4 => ?_) (fun hc4 => ?_)
    · have hm5 := bq_t hm3 hc4; clear hm3
      refine lv_iconst (v := 0) hx hb dX0_has_28 (by decide) ?_
      obtain rfl := Option.some.inj hm5
      rw [hQ]
      exact ct_zret hx hb hr hlk (Or.inl rfl) hP0 hD0 hS0 rfl dX0_has_29
    · have hm6 := bq_f hm3 hc4; clear hm3
      refine lv_iload_n hx hb dX0_has_12 rfl (lv_at hl0 2 rfl) ?_
      refine lv_if_lt (tgt := 28) hx hb dX0_has_13 (by decide) (fun hc7 => ?_) (fun hc7 => ?_)
      · have hm8 := bq_t hm6 hc7; clear hm6
        refine lv_iconst (v := 0) hx hb dX0_has_28 (by decide) ?_
        obtain rfl := Option.some.inj hm8
        rw [hQ]
        exact ct_zret hx hb hr hlk (Or.inl rfl) hP0 hD0 hS0 rfl dX0_has_29
      · have hm9 := bq_f hm6 hc7; clear hm6
        refine lv_iload_n hx hb dX0_has_16 rfl (lv_at hl0 2 rfl) ?_
        refine lv_aload_n hx hb dX0_has_17 rfl (lv_at hl0 0 rfl) ?_
        refine va_get (D := D) (ci := 0) (v := .int f_rows) (C := RX0) (T := TX0) (N := 12) hx hb hts hi_X0_has_0 hown E.1 hP0 0 rfl rfl 7 (by decide) (hts _ (List.mem_of_getElem? (i := 2) rfl)) (fun _ h9 => h9) rfl dX0_has_18 ?_
        refine lv_icmp_ge (tgt := 28) hx hb dX0_has_21 (by decide) (fun hc10 => ?_) (fun hc10 => ?_)
        · have hm11 := bq_t hm9 hc10; clear hm9
          refine lv_iconst (v := 0) hx hb dX0_has_28 (by decide) ?_
          obtain rfl := Option.some.inj hm11
          rw [hQ]
          exact ct_zret hx hb hr hlk (Or.inl rfl) hP0 hD0 hS0 rfl dX0_has_29
        · have hm12 := bq_f hm9 hc10; clear hm9
          refine lv_iconst (v := 1) hx hb dX0_has_24 (by decide) ?_
          refine lv_goto (tgt := 29) hx hb dX0_has_25 (by decide) ?_
          obtain rfl := Option.some.inj hm12
          rw [hQ]
          exact ct_zret hx hb hr hlk (Or.inr rfl) hP0 hD0 hS0 rfl dX0_has_29

def f_X0_index (x1 : Int32) (x2 : Int32) (f_columns : Int32) : Option (Int32) :=
  some (((x2 * f_columns) + x1))

abbrev rm_X0_index : Room := { frames := 0, cells := 0, slots := 0, locals := 0 }

theorem cdS_X0_index : yX0_index.cls ≠ "java/lang/invoke/MethodHandle" ∧ yX0_index.cls ≠ "java/lang/invoke/VarHandle" ∧ (parseMethodDescriptor yX0_index.desc).map (fun d => d.parameters.length) = some 2 := by decide +kernel

theorem cdV_X0_index : yX0_index.cls = RX0 ∧ yX0_index.cls ≠ "java/lang/invoke/MethodHandle" ∧ yX0_index.cls ≠ "java/lang/invoke/VarHandle" ∧ (parseMethodDescriptor yX0_index.desc).map (fun d => d.parameters.length) = some 2 := ⟨rfl, cdS_X0_index⟩

theorem hi_X0_index_0 : ∀ w ∈ u_ws RX0 TX0 12, w ∈ wsX0_index := fun _ h => List.mem_cons_of_mem _ (List.mem_append_right _ h)

set_option maxHeartbeats 40000000 in
set_option maxRecDepth 100000 in
theorem c_X0_index (l : Launch) (D : va_G) (cB cI cJ cQ : ClassId) (N : Nat) (r0 : Nat → Nat) (sz : Nat) (x1 : Int32) (x2 : Int32) (f_columns : Int32) (f_rows : Int32) (f_scale : Int32) (f_toEnd : Int32) (f_between : Int32) (f_kept : Int32) (o : Int32) (hm0 : f_X0_index x1 x2 f_columns = some o) : Met l yX0_index wsX0_index rm_X0_index (ctP D cB cI cJ cQ N sz [.ref (r0 0), .int x1, .int x2] (wf [oB (r0 0) 0 [.ref (r0 1), .ref (r0 2), .ref (r0 3), .ref (r0 4), .ref (r0 5), .ref (r0 6), .int f_columns, .int f_rows, .int f_scale, .int f_toEnd, .int f_between, .int f_kept]] [])) (ctQi D o (wf [oB (r0 0) 0 [.ref (r0 1), .ref (r0 2), .ref (r0 3), .ref (r0 4), .ref (r0 5), .ref (r0 6), .int f_columns, .int f_rows, .int f_scale, .int f_toEnd, .int f_between, .int f_kept]] []) (va_A (wf [oB (r0 0) 0 [.ref (r0 1), .ref (r0 2), .ref (r0 3), .ref (r0 4), .ref (r0 5), .ref (r0 6), .int f_columns, .int f_rows, .int f_scale, .int f_toEnd, .int f_between, .int f_kept]] []) sz)) 0 0 (va_A (wf [oB (r0 0) 0 [.ref (r0 1), .ref (r0 2), .ref (r0 3), .ref (r0 4), .ref (r0 5), .ref (r0 6), .int f_columns, .int f_rows, .int f_scale, .int f_toEnd, .int f_between, .int f_kept]] []) sz) := by
  refine ct_of (cc := cX0_index) (maxL := 3) (ret := (some .int)) (own := RX0) (Qp := ctQi D o (wf [oB (r0 0) 0 [.ref (r0 1), .ref (r0 2), .ref (r0 3), .ref (r0 4), .ref (r0 5), .ref (r0 6), .int f_columns, .int f_rows, .int f_scale, .int f_toEnd, .int f_between, .int f_kept]] [])) (by decide) rfl rfl (Nat.le_of_ble_eq_true rfl) ?_
  intro p e s m args below meth c A hx hb hr hml hown hts hlk hnm hsz hAe E hP0 hD0 hS0 ls0 hl0
  subst hsz
  have hl0 : lv_has ls0 3 [(0, .ref (r0 0)), (1, .int x1), (2, .int x2)] := hl0
  obtain ⟨QQ, hQ⟩ : ∃ Q : State → Prop, Q = MQ below (ctQi D o (wf [oB (r0 0) 0 [.ref (r0 1), .ref (r0 2), .ref (r0 3), .ref (r0 4), .ref (r0 5), .ref (r0 6), .int f_columns, .int f_rows, .int f_scale, .int f_toEnd, .int f_between, .int f_kept]] []) A) args s 0 0 A := ⟨_, rfl⟩
  rw [← hQ]
  unfold f_X0_index at hm0
  refine lv_iload_n hx hb dX0_index_0 rfl (lv_at hl0 2 rfl) ?_
  refine lv_aload_n hx hb dX0_index_1 rfl (lv_at hl0 0 rfl) ?_
  refine va_get (D := D) (ci := 0) (v := .int f_columns) (C := RX0) (T := TX0) (N := 12) hx hb hts hi_X0_index_0 hown E.1 hP0 0 rfl rfl 6 (by decide) (hts _ (List.mem_of_getElem? (i := 1) rfl)) (fun _ h9 => h9) rfl dX0_index_2 ?_
  refine lv_imul hx hb dX0_index_5 ?_
  refine lv_iload_n hx hb dX0_index_6 rfl (lv_at hl0 1 rfl) ?_
  refine lv_iadd hx hb dX0_index_7 ?_
  obtain rfl := Option.some.inj hm0
  rw [hQ]
  exact ct_iret hx hb hr hlk hP0 hD0 hS0 rfl dX0_index_8

def f_X0_isCoded (x1 : Int32) (f_modes : Nat → Int32) : Option (Int32) :=
  gi x1 36 <|
  (if (f_modes x1.toNatClampNeg) = (0 : Int32) then
  (some ((0 : Int32)))
  else
  (some ((1 : Int32))))

abbrev rm_X0_isCoded : Room := { frames := 0, cells := 0, slots := 0, locals := 0 }

theorem cdS_X0_isCoded : yX0_isCoded.cls ≠ "java/lang/invoke/MethodHandle" ∧ yX0_isCoded.cls ≠ "java/lang/invoke/VarHandle" ∧ (parseMethodDescriptor yX0_isCoded.desc).map (fun d => d.parameters.length) = some 1 := by decide +kernel

theorem cdV_X0_isCoded : yX0_isCoded.cls = RX0 ∧ yX0_isCoded.cls ≠ "java/lang/invoke/MethodHandle" ∧ yX0_isCoded.cls ≠ "java/lang/invoke/VarHandle" ∧ (parseMethodDescriptor yX0_isCoded.desc).map (fun d => d.parameters.length) = some 1 := ⟨rfl, cdS_X0_isCoded⟩

theorem hi_X0_isCoded_0 : ∀ w ∈ u_ws RX0 TX0 12, w ∈ wsX0_isCoded := fun _ h => List.mem_cons_of_mem _ (List.mem_append_right _ h)

set_option maxHeartbeats 40000000 in
set_option maxRecDepth 100000 in
theorem c_X0_isCoded (l : Launch) (D : va_G) (cB cI cJ cQ : ClassId) (N : Nat) (r0 : Nat → Nat) (sz : Nat) (x1 : Int32) (f_columns : Int32) (f_rows : Int32) (f_scale : Int32) (f_toEnd : Int32) (f_between : Int32) (f_kept : Int32) (f_modes : Nat → Int32) (o : Int32) (hm0 : f_X0_isCoded x1 f_modes = some o) : Met l yX0_isCoded wsX0_isCoded rm_X0_isCoded (ctP D cB cI cJ cQ N sz [.ref (r0 0), .int x1] (wf [oB (r0 0) 0 [.ref (r0 1), .ref (r0 2), .ref (r0 3), .ref (r0 4), .ref (r0 5), .ref (r0 6), .int f_columns, .int f_rows, .int f_scale, .int f_toEnd, .int f_between, .int f_kept], aI (r0 1) cI 36 f_modes] [])) (ctQi D o (wf [oB (r0 0) 0 [.ref (r0 1), .ref (r0 2), .ref (r0 3), .ref (r0 4), .ref (r0 5), .ref (r0 6), .int f_columns, .int f_rows, .int f_scale, .int f_toEnd, .int f_between, .int f_kept], aI (r0 1) cI 36 f_modes] []) (va_A (wf [oB (r0 0) 0 [.ref (r0 1), .ref (r0 2), .ref (r0 3), .ref (r0 4), .ref (r0 5), .ref (r0 6), .int f_columns, .int f_rows, .int f_scale, .int f_toEnd, .int f_between, .int f_kept], aI (r0 1) cI 36 f_modes] []) sz)) 0 0 (va_A (wf [oB (r0 0) 0 [.ref (r0 1), .ref (r0 2), .ref (r0 3), .ref (r0 4), .ref (r0 5), .ref (r0 6), .int f_columns, .int f_rows, .int f_scale, .int f_toEnd, .int f_between, .int f_kept], aI (r0 1) cI 36 f_modes] []) sz) := by
  refine ct_of (cc := cX0_isCoded) (maxL := 2) (ret := (some .boolean)) (own := RX0) (Qp := ctQi D o (wf [oB (r0 0) 0 [.ref (r0 1), .ref (r0 2), .ref (r0 3), .ref (r0 4), .ref (r0 5), .ref (r0 6), .int f_columns, .int f_rows, .int f_scale, .int f_toEnd, .int f_between, .int f_kept], aI (r0 1) cI 36 f_modes] [])) (by decide) rfl rfl (Nat.le_of_ble_eq_true rfl) ?_
  intro p e s m args below meth c A hx hb hr hml hown hts hlk hnm hsz hAe E hP0 hD0 hS0 ls0 hl0
  subst hsz
  have hl0 : lv_has ls0 2 [(0, .ref (r0 0)), (1, .int x1)] := hl0
  obtain ⟨QQ, hQ⟩ : ∃ Q : State → Prop, Q = MQ below (ctQi D o (wf [oB (r0 0) 0 [.ref (r0 1), .ref (r0 2), .ref (r0 3), .ref (r0 4), .ref (r0 5), .ref (r0 6), .int f_columns, .int f_rows, .int f_scale, .int f_toEnd, .int f_between, .int f_kept], aI (r0 1) cI 36 f_modes] []) A) args s 0 0 A := ⟨_, rfl⟩
  rw [← hQ]
  unfold f_X0_isCoded at hm0
  refine lv_aload_n hx hb dX0_isCoded_0 rfl (lv_at hl0 0 rfl) ?_
  refine va_get (D := D) (ci := 0) (v := .ref (r0 1)) (C := RX0) (T := TX0) (N := 12) hx hb hts hi_X0_isCoded_0 hown E.1 hP0 0 rfl rfl 0 (by decide) (hts _ (List.mem_of_getElem? (i := 1) rfl)) (fun _ h9 => h9) rfl dX0_isCoded_1 ?_
  refine lv_iload_n hx hb dX0_isCoded_4 rfl (lv_at hl0 1 rfl) ?_
  obtain ⟨hin1, hm1⟩ := gi_some hm0; clear hm0
  refine va_iald hx hb E.1 hP0 1 0 rfl rfl hin1 dX0_isCoded_5 ?_
  refine lv_if_eq (tgt := 13) hx hb dX0_isCoded_6 (by decide) (fun hc2 => ?_) (fun hc2 => ?_)
  · have hm3 := bq_t hm1 hc2; clear hm1
    refine lv_iconst (v := 0) hx hb dX0_isCoded_13 (by decide) ?_
    obtain rfl := Option.some.inj hm3
    rw [hQ]
    exact ct_zret hx hb hr hlk (Or.inl rfl) hP0 hD0 hS0 rfl dX0_isCoded_14
  · have hm4 := bq_f hm1 hc2; clear hm1
    refine lv_iconst (v := 1) hx hb dX0_isCoded_9 (by decide) ?_
    refine lv_goto (tgt := 14) hx hb dX0_isCoded_10 (by decide) ?_
    obtain rfl := Option.some.inj hm4
    rw [hQ]
    exact ct_zret hx hb hr hlk (Or.inr rfl) hP0 hD0 hS0 rfl dX0_isCoded_14

def f_X0_mode (x1 : Int32) (f_modes : Nat → Int32) : Option (Int32) :=
  gi x1 36 <|
  some ((f_modes x1.toNatClampNeg))

abbrev rm_X0_mode : Room := { frames := 0, cells := 0, slots := 0, locals := 0 }

theorem cdS_X0_mode : yX0_mode.cls ≠ "java/lang/invoke/MethodHandle" ∧ yX0_mode.cls ≠ "java/lang/invoke/VarHandle" ∧ (parseMethodDescriptor yX0_mode.desc).map (fun d => d.parameters.length) = some 1 := by decide +kernel

theorem cdV_X0_mode : yX0_mode.cls = RX0 ∧ yX0_mode.cls ≠ "java/lang/invoke/MethodHandle" ∧ yX0_mode.cls ≠ "java/lang/invoke/VarHandle" ∧ (parseMethodDescriptor yX0_mode.desc).map (fun d => d.parameters.length) = some 1 := ⟨rfl, cdS_X0_mode⟩

theorem hi_X0_mode_0 : ∀ w ∈ u_ws RX0 TX0 12, w ∈ wsX0_mode := fun _ h => List.mem_cons_of_mem _ (List.mem_append_right _ h)

set_option maxHeartbeats 40000000 in
set_option maxRecDepth 100000 in
theorem c_X0_mode (l : Launch) (D : va_G) (cB cI cJ cQ : ClassId) (N : Nat) (r0 : Nat → Nat) (sz : Nat) (x1 : Int32) (f_columns : Int32) (f_rows : Int32) (f_scale : Int32) (f_toEnd : Int32) (f_between : Int32) (f_kept : Int32) (f_modes : Nat → Int32) (o : Int32) (hm0 : f_X0_mode x1 f_modes = some o) : Met l yX0_mode wsX0_mode rm_X0_mode (ctP D cB cI cJ cQ N sz [.ref (r0 0), .int x1] (wf [oB (r0 0) 0 [.ref (r0 1), .ref (r0 2), .ref (r0 3), .ref (r0 4), .ref (r0 5), .ref (r0 6), .int f_columns, .int f_rows, .int f_scale, .int f_toEnd, .int f_between, .int f_kept], aI (r0 1) cI 36 f_modes] [])) (ctQi D o (wf [oB (r0 0) 0 [.ref (r0 1), .ref (r0 2), .ref (r0 3), .ref (r0 4), .ref (r0 5), .ref (r0 6), .int f_columns, .int f_rows, .int f_scale, .int f_toEnd, .int f_between, .int f_kept], aI (r0 1) cI 36 f_modes] []) (va_A (wf [oB (r0 0) 0 [.ref (r0 1), .ref (r0 2), .ref (r0 3), .ref (r0 4), .ref (r0 5), .ref (r0 6), .int f_columns, .int f_rows, .int f_scale, .int f_toEnd, .int f_between, .int f_kept], aI (r0 1) cI 36 f_modes] []) sz)) 0 0 (va_A (wf [oB (r0 0) 0 [.ref (r0 1), .ref (r0 2), .ref (r0 3), .ref (r0 4), .ref (r0 5), .ref (r0 6), .int f_columns, .int f_rows, .int f_scale, .int f_toEnd, .int f_between, .int f_kept], aI (r0 1) cI 36 f_modes] []) sz) := by
  refine ct_of (cc := cX0_mode) (maxL := 2) (ret := (some .int)) (own := RX0) (Qp := ctQi D o (wf [oB (r0 0) 0 [.ref (r0 1), .ref (r0 2), .ref (r0 3), .ref (r0 4), .ref (r0 5), .ref (r0 6), .int f_columns, .int f_rows, .int f_scale, .int f_toEnd, .int f_between, .int f_kept], aI (r0 1) cI 36 f_modes] [])) (by decide) rfl rfl (Nat.le_of_ble_eq_true rfl) ?_
  intro p e s m args below meth c A hx hb hr hml hown hts hlk hnm hsz hAe E hP0 hD0 hS0 ls0 hl0
  subst hsz
  have hl0 : lv_has ls0 2 [(0, .ref (r0 0)), (1, .int x1)] := hl0
  obtain ⟨QQ, hQ⟩ : ∃ Q : State → Prop, Q = MQ below (ctQi D o (wf [oB (r0 0) 0 [.ref (r0 1), .ref (r0 2), .ref (r0 3), .ref (r0 4), .ref (r0 5), .ref (r0 6), .int f_columns, .int f_rows, .int f_scale, .int f_toEnd, .int f_between, .int f_kept], aI (r0 1) cI 36 f_modes] []) A) args s 0 0 A := ⟨_, rfl⟩
  rw [← hQ]
  unfold f_X0_mode at hm0
  refine lv_aload_n hx hb dX0_mode_0 rfl (lv_at hl0 0 rfl) ?_
  refine va_get (D := D) (ci := 0) (v := .ref (r0 1)) (C := RX0) (T := TX0) (N := 12) hx hb hts hi_X0_mode_0 hown E.1 hP0 0 rfl rfl 0 (by decide) (hts _ (List.mem_of_getElem? (i := 1) rfl)) (fun _ h9 => h9) rfl dX0_mode_1 ?_
  refine lv_iload_n hx hb dX0_mode_4 rfl (lv_at hl0 1 rfl) ?_
  obtain ⟨hin1, hm1⟩ := gi_some hm0; clear hm0
  refine va_iald hx hb E.1 hP0 1 0 rfl rfl hin1 dX0_mode_5 ?_
  obtain rfl := Option.some.inj hm1
  rw [hQ]
  exact ct_iret hx hb hr hlk hP0 hD0 hS0 rfl dX0_mode_6

def f_X0_across (x1 : Int32) (f_across : Nat → Int32) : Option (Int32) :=
  gi x1 36 <|
  some ((f_across x1.toNatClampNeg))

abbrev rm_X0_across : Room := { frames := 0, cells := 0, slots := 0, locals := 0 }

theorem cdS_X0_across : yX0_across.cls ≠ "java/lang/invoke/MethodHandle" ∧ yX0_across.cls ≠ "java/lang/invoke/VarHandle" ∧ (parseMethodDescriptor yX0_across.desc).map (fun d => d.parameters.length) = some 1 := by decide +kernel

theorem cdV_X0_across : yX0_across.cls = RX0 ∧ yX0_across.cls ≠ "java/lang/invoke/MethodHandle" ∧ yX0_across.cls ≠ "java/lang/invoke/VarHandle" ∧ (parseMethodDescriptor yX0_across.desc).map (fun d => d.parameters.length) = some 1 := ⟨rfl, cdS_X0_across⟩

theorem hi_X0_across_0 : ∀ w ∈ u_ws RX0 TX0 12, w ∈ wsX0_across := fun _ h => List.mem_cons_of_mem _ (List.mem_append_right _ h)

set_option maxHeartbeats 40000000 in
set_option maxRecDepth 100000 in
theorem c_X0_across (l : Launch) (D : va_G) (cB cI cJ cQ : ClassId) (N : Nat) (r0 : Nat → Nat) (sz : Nat) (x1 : Int32) (f_columns : Int32) (f_rows : Int32) (f_scale : Int32) (f_toEnd : Int32) (f_between : Int32) (f_kept : Int32) (f_across : Nat → Int32) (o : Int32) (hm0 : f_X0_across x1 f_across = some o) : Met l yX0_across wsX0_across rm_X0_across (ctP D cB cI cJ cQ N sz [.ref (r0 0), .int x1] (wf [oB (r0 0) 0 [.ref (r0 1), .ref (r0 2), .ref (r0 3), .ref (r0 4), .ref (r0 5), .ref (r0 6), .int f_columns, .int f_rows, .int f_scale, .int f_toEnd, .int f_between, .int f_kept], aI (r0 2) cI 36 f_across] [])) (ctQi D o (wf [oB (r0 0) 0 [.ref (r0 1), .ref (r0 2), .ref (r0 3), .ref (r0 4), .ref (r0 5), .ref (r0 6), .int f_columns, .int f_rows, .int f_scale, .int f_toEnd, .int f_between, .int f_kept], aI (r0 2) cI 36 f_across] []) (va_A (wf [oB (r0 0) 0 [.ref (r0 1), .ref (r0 2), .ref (r0 3), .ref (r0 4), .ref (r0 5), .ref (r0 6), .int f_columns, .int f_rows, .int f_scale, .int f_toEnd, .int f_between, .int f_kept], aI (r0 2) cI 36 f_across] []) sz)) 0 0 (va_A (wf [oB (r0 0) 0 [.ref (r0 1), .ref (r0 2), .ref (r0 3), .ref (r0 4), .ref (r0 5), .ref (r0 6), .int f_columns, .int f_rows, .int f_scale, .int f_toEnd, .int f_between, .int f_kept], aI (r0 2) cI 36 f_across] []) sz) := by
  refine ct_of (cc := cX0_across) (maxL := 2) (ret := (some .int)) (own := RX0) (Qp := ctQi D o (wf [oB (r0 0) 0 [.ref (r0 1), .ref (r0 2), .ref (r0 3), .ref (r0 4), .ref (r0 5), .ref (r0 6), .int f_columns, .int f_rows, .int f_scale, .int f_toEnd, .int f_between, .int f_kept], aI (r0 2) cI 36 f_across] [])) (by decide) rfl rfl (Nat.le_of_ble_eq_true rfl) ?_
  intro p e s m args below meth c A hx hb hr hml hown hts hlk hnm hsz hAe E hP0 hD0 hS0 ls0 hl0
  subst hsz
  have hl0 : lv_has ls0 2 [(0, .ref (r0 0)), (1, .int x1)] := hl0
  obtain ⟨QQ, hQ⟩ : ∃ Q : State → Prop, Q = MQ below (ctQi D o (wf [oB (r0 0) 0 [.ref (r0 1), .ref (r0 2), .ref (r0 3), .ref (r0 4), .ref (r0 5), .ref (r0 6), .int f_columns, .int f_rows, .int f_scale, .int f_toEnd, .int f_between, .int f_kept], aI (r0 2) cI 36 f_across] []) A) args s 0 0 A := ⟨_, rfl⟩
  rw [← hQ]
  unfold f_X0_across at hm0
  refine lv_aload_n hx hb dX0_across_0 rfl (lv_at hl0 0 rfl) ?_
  refine va_get (D := D) (ci := 0) (v := .ref (r0 2)) (C := RX0) (T := TX0) (N := 12) hx hb hts hi_X0_across_0 hown E.1 hP0 0 rfl rfl 1 (by decide) (hts _ (List.mem_of_getElem? (i := 1) rfl)) (fun _ h9 => h9) rfl dX0_across_1 ?_
  refine lv_iload_n hx hb dX0_across_4 rfl (lv_at hl0 1 rfl) ?_
  obtain ⟨hin1, hm1⟩ := gi_some hm0; clear hm0
  refine va_iald hx hb E.1 hP0 1 0 rfl rfl hin1 dX0_across_5 ?_
  obtain rfl := Option.some.inj hm1
  rw [hQ]
  exact ct_iret hx hb hr hlk hP0 hD0 hS0 rfl dX0_across_6

def f_X0_down (x1 : Int32) (f_down : Nat → Int32) : Option (Int32) :=
  gi x1 36 <|
  some ((f_down x1.toNatClampNeg))

abbrev rm_X0_down : Room := { frames := 0, cells := 0, slots := 0, locals := 0 }

theorem cdS_X0_down : yX0_down.cls ≠ "java/lang/invoke/MethodHandle" ∧ yX0_down.cls ≠ "java/lang/invoke/VarHandle" ∧ (parseMethodDescriptor yX0_down.desc).map (fun d => d.parameters.length) = some 1 := by decide +kernel

theorem cdV_X0_down : yX0_down.cls = RX0 ∧ yX0_down.cls ≠ "java/lang/invoke/MethodHandle" ∧ yX0_down.cls ≠ "java/lang/invoke/VarHandle" ∧ (parseMethodDescriptor yX0_down.desc).map (fun d => d.parameters.length) = some 1 := ⟨rfl, cdS_X0_down⟩

theorem hi_X0_down_0 : ∀ w ∈ u_ws RX0 TX0 12, w ∈ wsX0_down := fun _ h => List.mem_cons_of_mem _ (List.mem_append_right _ h)

set_option maxHeartbeats 40000000 in
set_option maxRecDepth 100000 in
theorem c_X0_down (l : Launch) (D : va_G) (cB cI cJ cQ : ClassId) (N : Nat) (r0 : Nat → Nat) (sz : Nat) (x1 : Int32) (f_columns : Int32) (f_rows : Int32) (f_scale : Int32) (f_toEnd : Int32) (f_between : Int32) (f_kept : Int32) (f_down : Nat → Int32) (o : Int32) (hm0 : f_X0_down x1 f_down = some o) : Met l yX0_down wsX0_down rm_X0_down (ctP D cB cI cJ cQ N sz [.ref (r0 0), .int x1] (wf [oB (r0 0) 0 [.ref (r0 1), .ref (r0 2), .ref (r0 3), .ref (r0 4), .ref (r0 5), .ref (r0 6), .int f_columns, .int f_rows, .int f_scale, .int f_toEnd, .int f_between, .int f_kept], aI (r0 3) cI 36 f_down] [])) (ctQi D o (wf [oB (r0 0) 0 [.ref (r0 1), .ref (r0 2), .ref (r0 3), .ref (r0 4), .ref (r0 5), .ref (r0 6), .int f_columns, .int f_rows, .int f_scale, .int f_toEnd, .int f_between, .int f_kept], aI (r0 3) cI 36 f_down] []) (va_A (wf [oB (r0 0) 0 [.ref (r0 1), .ref (r0 2), .ref (r0 3), .ref (r0 4), .ref (r0 5), .ref (r0 6), .int f_columns, .int f_rows, .int f_scale, .int f_toEnd, .int f_between, .int f_kept], aI (r0 3) cI 36 f_down] []) sz)) 0 0 (va_A (wf [oB (r0 0) 0 [.ref (r0 1), .ref (r0 2), .ref (r0 3), .ref (r0 4), .ref (r0 5), .ref (r0 6), .int f_columns, .int f_rows, .int f_scale, .int f_toEnd, .int f_between, .int f_kept], aI (r0 3) cI 36 f_down] []) sz) := by
  refine ct_of (cc := cX0_down) (maxL := 2) (ret := (some .int)) (own := RX0) (Qp := ctQi D o (wf [oB (r0 0) 0 [.ref (r0 1), .ref (r0 2), .ref (r0 3), .ref (r0 4), .ref (r0 5), .ref (r0 6), .int f_columns, .int f_rows, .int f_scale, .int f_toEnd, .int f_between, .int f_kept], aI (r0 3) cI 36 f_down] [])) (by decide) rfl rfl (Nat.le_of_ble_eq_true rfl) ?_
  intro p e s m args below meth c A hx hb hr hml hown hts hlk hnm hsz hAe E hP0 hD0 hS0 ls0 hl0
  subst hsz
  have hl0 : lv_has ls0 2 [(0, .ref (r0 0)), (1, .int x1)] := hl0
  obtain ⟨QQ, hQ⟩ : ∃ Q : State → Prop, Q = MQ below (ctQi D o (wf [oB (r0 0) 0 [.ref (r0 1), .ref (r0 2), .ref (r0 3), .ref (r0 4), .ref (r0 5), .ref (r0 6), .int f_columns, .int f_rows, .int f_scale, .int f_toEnd, .int f_between, .int f_kept], aI (r0 3) cI 36 f_down] []) A) args s 0 0 A := ⟨_, rfl⟩
  rw [← hQ]
  unfold f_X0_down at hm0
  refine lv_aload_n hx hb dX0_down_0 rfl (lv_at hl0 0 rfl) ?_
  refine va_get (D := D) (ci := 0) (v := .ref (r0 3)) (C := RX0) (T := TX0) (N := 12) hx hb hts hi_X0_down_0 hown E.1 hP0 0 rfl rfl 2 (by decide) (hts _ (List.mem_of_getElem? (i := 1) rfl)) (fun _ h9 => h9) rfl dX0_down_1 ?_
  refine lv_iload_n hx hb dX0_down_4 rfl (lv_at hl0 1 rfl) ?_
  obtain ⟨hin1, hm1⟩ := gi_some hm0; clear hm0
  refine va_iald hx hb E.1 hP0 1 0 rfl rfl hin1 dX0_down_5 ?_
  obtain rfl := Option.some.inj hm1
  rw [hQ]
  exact ct_iret hx hb hr hlk hP0 hD0 hS0 rfl dX0_down_6

def f_X0_number (x1 : Int32) (x2 : Int32) (f_grid : Nat → Nat → Int32) : Option (Int32) :=
  gi x1 36 <|
  gi x2 64 <|
  some ((f_grid x1.toNatClampNeg x2.toNatClampNeg))

abbrev rm_X0_number : Room := { frames := 0, cells := 0, slots := 0, locals := 0 }

theorem cdS_X0_number : yX0_number.cls ≠ "java/lang/invoke/MethodHandle" ∧ yX0_number.cls ≠ "java/lang/invoke/VarHandle" ∧ (parseMethodDescriptor yX0_number.desc).map (fun d => d.parameters.length) = some 2 := by decide +kernel

theorem cdV_X0_number : yX0_number.cls = RX0 ∧ yX0_number.cls ≠ "java/lang/invoke/MethodHandle" ∧ yX0_number.cls ≠ "java/lang/invoke/VarHandle" ∧ (parseMethodDescriptor yX0_number.desc).map (fun d => d.parameters.length) = some 2 := ⟨rfl, cdS_X0_number⟩

theorem hi_X0_number_0 : ∀ w ∈ u_ws RX0 TX0 12, w ∈ wsX0_number := fun _ h => List.mem_cons_of_mem _ (List.mem_append_right _ h)

set_option maxHeartbeats 40000000 in
set_option maxRecDepth 100000 in
theorem c_X0_number (l : Launch) (D : va_G) (cB cI cJ cQ : ClassId) (N : Nat) (r0 : Nat → Nat) (sz : Nat) (x1 : Int32) (x2 : Int32) (f_columns : Int32) (f_rows : Int32) (f_scale : Int32) (f_toEnd : Int32) (f_between : Int32) (f_kept : Int32) (f_grid : Nat → Nat → Int32) (o : Int32) (hm0 : f_X0_number x1 x2 f_grid = some o) : Met l yX0_number wsX0_number rm_X0_number (ctP D cB cI cJ cQ N sz [.ref (r0 0), .int x1, .int x2] (wf [oB (r0 0) 0 [.ref (r0 1), .ref (r0 2), .ref (r0 3), .ref (r0 4), .ref (r0 5), .ref (r0 6), .int f_columns, .int f_rows, .int f_scale, .int f_toEnd, .int f_between, .int f_kept], aQ (r0 4) cQ r0] [rowsW cI r0 f_grid])) (ctQi D o (wf [oB (r0 0) 0 [.ref (r0 1), .ref (r0 2), .ref (r0 3), .ref (r0 4), .ref (r0 5), .ref (r0 6), .int f_columns, .int f_rows, .int f_scale, .int f_toEnd, .int f_between, .int f_kept], aQ (r0 4) cQ r0] [rowsW cI r0 f_grid]) (va_A (wf [oB (r0 0) 0 [.ref (r0 1), .ref (r0 2), .ref (r0 3), .ref (r0 4), .ref (r0 5), .ref (r0 6), .int f_columns, .int f_rows, .int f_scale, .int f_toEnd, .int f_between, .int f_kept], aQ (r0 4) cQ r0] [rowsW cI r0 f_grid]) sz)) 0 0 (va_A (wf [oB (r0 0) 0 [.ref (r0 1), .ref (r0 2), .ref (r0 3), .ref (r0 4), .ref (r0 5), .ref (r0 6), .int f_columns, .int f_rows, .int f_scale, .int f_toEnd, .int f_between, .int f_kept], aQ (r0 4) cQ r0] [rowsW cI r0 f_grid]) sz) := by
  refine ct_of (cc := cX0_number) (maxL := 3) (ret := (some .int)) (own := RX0) (Qp := ctQi D o (wf [oB (r0 0) 0 [.ref (r0 1), .ref (r0 2), .ref (r0 3), .ref (r0 4), .ref (r0 5), .ref (r0 6), .int f_columns, .int f_rows, .int f_scale, .int f_toEnd, .int f_between, .int f_kept], aQ (r0 4) cQ r0] [rowsW cI r0 f_grid])) (by decide) rfl rfl (Nat.le_of_ble_eq_true rfl) ?_
  intro p e s m args below meth c A hx hb hr hml hown hts hlk hnm hsz hAe E hP0 hD0 hS0 ls0 hl0
  subst hsz
  have hl0 : lv_has ls0 3 [(0, .ref (r0 0)), (1, .int x1), (2, .int x2)] := hl0
  obtain ⟨QQ, hQ⟩ : ∃ Q : State → Prop, Q = MQ below (ctQi D o (wf [oB (r0 0) 0 [.ref (r0 1), .ref (r0 2), .ref (r0 3), .ref (r0 4), .ref (r0 5), .ref (r0 6), .int f_columns, .int f_rows, .int f_scale, .int f_toEnd, .int f_between, .int f_kept], aQ (r0 4) cQ r0] [rowsW cI r0 f_grid]) A) args s 0 0 A := ⟨_, rfl⟩
  rw [← hQ]
  unfold f_X0_number at hm0
  refine lv_aload_n hx hb dX0_number_0 rfl (lv_at hl0 0 rfl) ?_
  refine va_get (D := D) (ci := 0) (v := .ref (r0 4)) (C := RX0) (T := TX0) (N := 12) hx hb hts hi_X0_number_0 hown E.1 hP0 0 rfl rfl 3 (by decide) (hts _ (List.mem_of_getElem? (i := 1) rfl)) (fun _ h9 => h9) rfl dX0_number_1 ?_
  refine lv_iload_n hx hb dX0_number_4 rfl (lv_at hl0 1 rfl) ?_
  obtain ⟨hin1, hm1⟩ := gi_some hm0; clear hm0
  refine ct_aald hx hb E.1 hP0 1 rfl hin1 dX0_number_5 ?_
  refine lv_iload_n hx hb dX0_number_6 rfl (lv_at hl0 2 rfl) ?_
  obtain ⟨hin2, hm2⟩ := gi_some hm1; clear hm1
  refine ct_rld hx hb E.1 hP0 (vp_row hin1) hin2 dX0_number_7 ?_
  obtain rfl := Option.some.inj hm2
  rw [hQ]
  exact ct_iret hx hb hr hlk hP0 hD0 hS0 rfl dX0_number_8

def f_X0_scale (f_scale : Int32) : Option (Int32) :=
  some (f_scale)

abbrev rm_X0_scale : Room := { frames := 0, cells := 0, slots := 0, locals := 0 }

theorem cdS_X0_scale : yX0_scale.cls ≠ "java/lang/invoke/MethodHandle" ∧ yX0_scale.cls ≠ "java/lang/invoke/VarHandle" ∧ (parseMethodDescriptor yX0_scale.desc).map (fun d => d.parameters.length) = some 0 := by decide +kernel

theorem cdV_X0_scale : yX0_scale.cls = RX0 ∧ yX0_scale.cls ≠ "java/lang/invoke/MethodHandle" ∧ yX0_scale.cls ≠ "java/lang/invoke/VarHandle" ∧ (parseMethodDescriptor yX0_scale.desc).map (fun d => d.parameters.length) = some 0 := ⟨rfl, cdS_X0_scale⟩

theorem hi_X0_scale_0 : ∀ w ∈ u_ws RX0 TX0 12, w ∈ wsX0_scale := fun _ h => List.mem_cons_of_mem _ (List.mem_append_right _ h)

set_option maxHeartbeats 40000000 in
set_option maxRecDepth 100000 in
theorem c_X0_scale (l : Launch) (D : va_G) (cB cI cJ cQ : ClassId) (N : Nat) (r0 : Nat → Nat) (sz : Nat) (f_columns : Int32) (f_rows : Int32) (f_scale : Int32) (f_toEnd : Int32) (f_between : Int32) (f_kept : Int32) (o : Int32) (hm0 : f_X0_scale f_scale = some o) : Met l yX0_scale wsX0_scale rm_X0_scale (ctP D cB cI cJ cQ N sz [.ref (r0 0)] (wf [oB (r0 0) 0 [.ref (r0 1), .ref (r0 2), .ref (r0 3), .ref (r0 4), .ref (r0 5), .ref (r0 6), .int f_columns, .int f_rows, .int f_scale, .int f_toEnd, .int f_between, .int f_kept]] [])) (ctQi D o (wf [oB (r0 0) 0 [.ref (r0 1), .ref (r0 2), .ref (r0 3), .ref (r0 4), .ref (r0 5), .ref (r0 6), .int f_columns, .int f_rows, .int f_scale, .int f_toEnd, .int f_between, .int f_kept]] []) (va_A (wf [oB (r0 0) 0 [.ref (r0 1), .ref (r0 2), .ref (r0 3), .ref (r0 4), .ref (r0 5), .ref (r0 6), .int f_columns, .int f_rows, .int f_scale, .int f_toEnd, .int f_between, .int f_kept]] []) sz)) 0 0 (va_A (wf [oB (r0 0) 0 [.ref (r0 1), .ref (r0 2), .ref (r0 3), .ref (r0 4), .ref (r0 5), .ref (r0 6), .int f_columns, .int f_rows, .int f_scale, .int f_toEnd, .int f_between, .int f_kept]] []) sz) := by
  refine ct_of (cc := cX0_scale) (maxL := 1) (ret := (some .int)) (own := RX0) (Qp := ctQi D o (wf [oB (r0 0) 0 [.ref (r0 1), .ref (r0 2), .ref (r0 3), .ref (r0 4), .ref (r0 5), .ref (r0 6), .int f_columns, .int f_rows, .int f_scale, .int f_toEnd, .int f_between, .int f_kept]] [])) (by decide) rfl rfl (Nat.le_of_ble_eq_true rfl) ?_
  intro p e s m args below meth c A hx hb hr hml hown hts hlk hnm hsz hAe E hP0 hD0 hS0 ls0 hl0
  subst hsz
  have hl0 : lv_has ls0 1 [(0, .ref (r0 0))] := hl0
  obtain ⟨QQ, hQ⟩ : ∃ Q : State → Prop, Q = MQ below (ctQi D o (wf [oB (r0 0) 0 [.ref (r0 1), .ref (r0 2), .ref (r0 3), .ref (r0 4), .ref (r0 5), .ref (r0 6), .int f_columns, .int f_rows, .int f_scale, .int f_toEnd, .int f_between, .int f_kept]] []) A) args s 0 0 A := ⟨_, rfl⟩
  rw [← hQ]
  unfold f_X0_scale at hm0
  refine lv_aload_n hx hb dX0_scale_0 rfl (lv_at hl0 0 rfl) ?_
  refine va_get (D := D) (ci := 0) (v := .int f_scale) (C := RX0) (T := TX0) (N := 12) hx hb hts hi_X0_scale_0 hown E.1 hP0 0 rfl rfl 8 (by decide) (hts _ (List.mem_of_getElem? (i := 1) rfl)) (fun _ h9 => h9) rfl dX0_scale_1 ?_
  obtain rfl := Option.some.inj hm0
  rw [hQ]
  exact ct_iret hx hb hr hlk hP0 hD0 hS0 rfl dX0_scale_4

def f_X0_columns (f_columns : Int32) : Option (Int32) :=
  some (f_columns)

abbrev rm_X0_columns : Room := { frames := 0, cells := 0, slots := 0, locals := 0 }

theorem cdS_X0_columns : yX0_columns.cls ≠ "java/lang/invoke/MethodHandle" ∧ yX0_columns.cls ≠ "java/lang/invoke/VarHandle" ∧ (parseMethodDescriptor yX0_columns.desc).map (fun d => d.parameters.length) = some 0 := by decide +kernel

theorem cdV_X0_columns : yX0_columns.cls = RX0 ∧ yX0_columns.cls ≠ "java/lang/invoke/MethodHandle" ∧ yX0_columns.cls ≠ "java/lang/invoke/VarHandle" ∧ (parseMethodDescriptor yX0_columns.desc).map (fun d => d.parameters.length) = some 0 := ⟨rfl, cdS_X0_columns⟩

theorem hi_X0_columns_0 : ∀ w ∈ u_ws RX0 TX0 12, w ∈ wsX0_columns := fun _ h => List.mem_cons_of_mem _ (List.mem_append_right _ h)

set_option maxHeartbeats 40000000 in
set_option maxRecDepth 100000 in
theorem c_X0_columns (l : Launch) (D : va_G) (cB cI cJ cQ : ClassId) (N : Nat) (r0 : Nat → Nat) (sz : Nat) (f_columns : Int32) (f_rows : Int32) (f_scale : Int32) (f_toEnd : Int32) (f_between : Int32) (f_kept : Int32) (o : Int32) (hm0 : f_X0_columns f_columns = some o) : Met l yX0_columns wsX0_columns rm_X0_columns (ctP D cB cI cJ cQ N sz [.ref (r0 0)] (wf [oB (r0 0) 0 [.ref (r0 1), .ref (r0 2), .ref (r0 3), .ref (r0 4), .ref (r0 5), .ref (r0 6), .int f_columns, .int f_rows, .int f_scale, .int f_toEnd, .int f_between, .int f_kept]] [])) (ctQi D o (wf [oB (r0 0) 0 [.ref (r0 1), .ref (r0 2), .ref (r0 3), .ref (r0 4), .ref (r0 5), .ref (r0 6), .int f_columns, .int f_rows, .int f_scale, .int f_toEnd, .int f_between, .int f_kept]] []) (va_A (wf [oB (r0 0) 0 [.ref (r0 1), .ref (r0 2), .ref (r0 3), .ref (r0 4), .ref (r0 5), .ref (r0 6), .int f_columns, .int f_rows, .int f_scale, .int f_toEnd, .int f_between, .int f_kept]] []) sz)) 0 0 (va_A (wf [oB (r0 0) 0 [.ref (r0 1), .ref (r0 2), .ref (r0 3), .ref (r0 4), .ref (r0 5), .ref (r0 6), .int f_columns, .int f_rows, .int f_scale, .int f_toEnd, .int f_between, .int f_kept]] []) sz) := by
  refine ct_of (cc := cX0_columns) (maxL := 1) (ret := (some .int)) (own := RX0) (Qp := ctQi D o (wf [oB (r0 0) 0 [.ref (r0 1), .ref (r0 2), .ref (r0 3), .ref (r0 4), .ref (r0 5), .ref (r0 6), .int f_columns, .int f_rows, .int f_scale, .int f_toEnd, .int f_between, .int f_kept]] [])) (by decide) rfl rfl (Nat.le_of_ble_eq_true rfl) ?_
  intro p e s m args below meth c A hx hb hr hml hown hts hlk hnm hsz hAe E hP0 hD0 hS0 ls0 hl0
  subst hsz
  have hl0 : lv_has ls0 1 [(0, .ref (r0 0))] := hl0
  obtain ⟨QQ, hQ⟩ : ∃ Q : State → Prop, Q = MQ below (ctQi D o (wf [oB (r0 0) 0 [.ref (r0 1), .ref (r0 2), .ref (r0 3), .ref (r0 4), .ref (r0 5), .ref (r0 6), .int f_columns, .int f_rows, .int f_scale, .int f_toEnd, .int f_between, .int f_kept]] []) A) args s 0 0 A := ⟨_, rfl⟩
  rw [← hQ]
  unfold f_X0_columns at hm0
  refine lv_aload_n hx hb dX0_columns_0 rfl (lv_at hl0 0 rfl) ?_
  refine va_get (D := D) (ci := 0) (v := .int f_columns) (C := RX0) (T := TX0) (N := 12) hx hb hts hi_X0_columns_0 hown E.1 hP0 0 rfl rfl 6 (by decide) (hts _ (List.mem_of_getElem? (i := 1) rfl)) (fun _ h9 => h9) rfl dX0_columns_1 ?_
  obtain rfl := Option.some.inj hm0
  rw [hQ]
  exact ct_iret hx hb hr hlk hP0 hD0 hS0 rfl dX0_columns_4

def f_X0_rows (f_rows : Int32) : Option (Int32) :=
  some (f_rows)

abbrev rm_X0_rows : Room := { frames := 0, cells := 0, slots := 0, locals := 0 }

theorem cdS_X0_rows : yX0_rows.cls ≠ "java/lang/invoke/MethodHandle" ∧ yX0_rows.cls ≠ "java/lang/invoke/VarHandle" ∧ (parseMethodDescriptor yX0_rows.desc).map (fun d => d.parameters.length) = some 0 := by decide +kernel

theorem cdV_X0_rows : yX0_rows.cls = RX0 ∧ yX0_rows.cls ≠ "java/lang/invoke/MethodHandle" ∧ yX0_rows.cls ≠ "java/lang/invoke/VarHandle" ∧ (parseMethodDescriptor yX0_rows.desc).map (fun d => d.parameters.length) = some 0 := ⟨rfl, cdS_X0_rows⟩

theorem hi_X0_rows_0 : ∀ w ∈ u_ws RX0 TX0 12, w ∈ wsX0_rows := fun _ h => List.mem_cons_of_mem _ (List.mem_append_right _ h)

set_option maxHeartbeats 40000000 in
set_option maxRecDepth 100000 in
theorem c_X0_rows (l : Launch) (D : va_G) (cB cI cJ cQ : ClassId) (N : Nat) (r0 : Nat → Nat) (sz : Nat) (f_columns : Int32) (f_rows : Int32) (f_scale : Int32) (f_toEnd : Int32) (f_between : Int32) (f_kept : Int32) (o : Int32) (hm0 : f_X0_rows f_rows = some o) : Met l yX0_rows wsX0_rows rm_X0_rows (ctP D cB cI cJ cQ N sz [.ref (r0 0)] (wf [oB (r0 0) 0 [.ref (r0 1), .ref (r0 2), .ref (r0 3), .ref (r0 4), .ref (r0 5), .ref (r0 6), .int f_columns, .int f_rows, .int f_scale, .int f_toEnd, .int f_between, .int f_kept]] [])) (ctQi D o (wf [oB (r0 0) 0 [.ref (r0 1), .ref (r0 2), .ref (r0 3), .ref (r0 4), .ref (r0 5), .ref (r0 6), .int f_columns, .int f_rows, .int f_scale, .int f_toEnd, .int f_between, .int f_kept]] []) (va_A (wf [oB (r0 0) 0 [.ref (r0 1), .ref (r0 2), .ref (r0 3), .ref (r0 4), .ref (r0 5), .ref (r0 6), .int f_columns, .int f_rows, .int f_scale, .int f_toEnd, .int f_between, .int f_kept]] []) sz)) 0 0 (va_A (wf [oB (r0 0) 0 [.ref (r0 1), .ref (r0 2), .ref (r0 3), .ref (r0 4), .ref (r0 5), .ref (r0 6), .int f_columns, .int f_rows, .int f_scale, .int f_toEnd, .int f_between, .int f_kept]] []) sz) := by
  refine ct_of (cc := cX0_rows) (maxL := 1) (ret := (some .int)) (own := RX0) (Qp := ctQi D o (wf [oB (r0 0) 0 [.ref (r0 1), .ref (r0 2), .ref (r0 3), .ref (r0 4), .ref (r0 5), .ref (r0 6), .int f_columns, .int f_rows, .int f_scale, .int f_toEnd, .int f_between, .int f_kept]] [])) (by decide) rfl rfl (Nat.le_of_ble_eq_true rfl) ?_
  intro p e s m args below meth c A hx hb hr hml hown hts hlk hnm hsz hAe E hP0 hD0 hS0 ls0 hl0
  subst hsz
  have hl0 : lv_has ls0 1 [(0, .ref (r0 0))] := hl0
  obtain ⟨QQ, hQ⟩ : ∃ Q : State → Prop, Q = MQ below (ctQi D o (wf [oB (r0 0) 0 [.ref (r0 1), .ref (r0 2), .ref (r0 3), .ref (r0 4), .ref (r0 5), .ref (r0 6), .int f_columns, .int f_rows, .int f_scale, .int f_toEnd, .int f_between, .int f_kept]] []) A) args s 0 0 A := ⟨_, rfl⟩
  rw [← hQ]
  unfold f_X0_rows at hm0
  refine lv_aload_n hx hb dX0_rows_0 rfl (lv_at hl0 0 rfl) ?_
  refine va_get (D := D) (ci := 0) (v := .int f_rows) (C := RX0) (T := TX0) (N := 12) hx hb hts hi_X0_rows_0 hown E.1 hP0 0 rfl rfl 7 (by decide) (hts _ (List.mem_of_getElem? (i := 1) rfl)) (fun _ h9 => h9) rfl dX0_rows_1 ?_
  obtain rfl := Option.some.inj hm0
  rw [hQ]
  exact ct_iret hx hb hr hlk hP0 hD0 hS0 rfl dX0_rows_4

def f_X0_makesGolden (f_between : Int32) (f_kept : Int32) : Option (Int32) :=
  (if f_between = (0 : Int32) then
  (some ((1 : Int32)))
  else
  ((if f_kept = (0 : Int32) then
  (some ((0 : Int32)))
  else
  (some ((1 : Int32))))))

abbrev rm_X0_makesGolden : Room := { frames := 0, cells := 0, slots := 0, locals := 0 }

theorem cdS_X0_makesGolden : yX0_makesGolden.cls ≠ "java/lang/invoke/MethodHandle" ∧ yX0_makesGolden.cls ≠ "java/lang/invoke/VarHandle" ∧ (parseMethodDescriptor yX0_makesGolden.desc).map (fun d => d.parameters.length) = some 0 := by decide +kernel

theorem cdV_X0_makesGolden : yX0_makesGolden.cls = RX0 ∧ yX0_makesGolden.cls ≠ "java/lang/invoke/MethodHandle" ∧ yX0_makesGolden.cls ≠ "java/lang/invoke/VarHandle" ∧ (parseMethodDescriptor yX0_makesGolden.desc).map (fun d => d.parameters.length) = some 0 := ⟨rfl, cdS_X0_makesGolden⟩

theorem hi_X0_makesGolden_0 : ∀ w ∈ u_ws RX0 TX0 12, w ∈ wsX0_makesGolden := fun _ h => List.mem_cons_of_mem _ (List.mem_append_right _ h)

set_option maxHeartbeats 40000000 in
set_option maxRecDepth 100000 in
theorem c_X0_makesGolden (l : Launch) (D : va_G) (cB cI cJ cQ : ClassId) (N : Nat) (r0 : Nat → Nat) (sz : Nat) (f_columns : Int32) (f_rows : Int32) (f_scale : Int32) (f_toEnd : Int32) (f_between : Int32) (f_kept : Int32) (o : Int32) (hm0 : f_X0_makesGolden f_between f_kept = some o) : Met l yX0_makesGolden wsX0_makesGolden rm_X0_makesGolden (ctP D cB cI cJ cQ N sz [.ref (r0 0)] (wf [oB (r0 0) 0 [.ref (r0 1), .ref (r0 2), .ref (r0 3), .ref (r0 4), .ref (r0 5), .ref (r0 6), .int f_columns, .int f_rows, .int f_scale, .int f_toEnd, .int f_between, .int f_kept]] [])) (ctQi D o (wf [oB (r0 0) 0 [.ref (r0 1), .ref (r0 2), .ref (r0 3), .ref (r0 4), .ref (r0 5), .ref (r0 6), .int f_columns, .int f_rows, .int f_scale, .int f_toEnd, .int f_between, .int f_kept]] []) (va_A (wf [oB (r0 0) 0 [.ref (r0 1), .ref (r0 2), .ref (r0 3), .ref (r0 4), .ref (r0 5), .ref (r0 6), .int f_columns, .int f_rows, .int f_scale, .int f_toEnd, .int f_between, .int f_kept]] []) sz)) 0 0 (va_A (wf [oB (r0 0) 0 [.ref (r0 1), .ref (r0 2), .ref (r0 3), .ref (r0 4), .ref (r0 5), .ref (r0 6), .int f_columns, .int f_rows, .int f_scale, .int f_toEnd, .int f_between, .int f_kept]] []) sz) := by
  refine ct_of (cc := cX0_makesGolden) (maxL := 1) (ret := (some .boolean)) (own := RX0) (Qp := ctQi D o (wf [oB (r0 0) 0 [.ref (r0 1), .ref (r0 2), .ref (r0 3), .ref (r0 4), .ref (r0 5), .ref (r0 6), .int f_columns, .int f_rows, .int f_scale, .int f_toEnd, .int f_between, .int f_kept]] [])) (by decide) rfl rfl (Nat.le_of_ble_eq_true rfl) ?_
  intro p e s m args below meth c A hx hb hr hml hown hts hlk hnm hsz hAe E hP0 hD0 hS0 ls0 hl0
  subst hsz
  have hl0 : lv_has ls0 1 [(0, .ref (r0 0))] := hl0
  obtain ⟨QQ, hQ⟩ : ∃ Q : State → Prop, Q = MQ below (ctQi D o (wf [oB (r0 0) 0 [.ref (r0 1), .ref (r0 2), .ref (r0 3), .ref (r0 4), .ref (r0 5), .ref (r0 6), .int f_columns, .int f_rows, .int f_scale, .int f_toEnd, .int f_between, .int f_kept]] []) A) args s 0 0 A := ⟨_, rfl⟩
  rw [← hQ]
  unfold f_X0_makesGolden at hm0
  refine lv_aload_n hx hb dX0_makesGolden_0 rfl (lv_at hl0 0 rfl) ?_
  refine va_get (D := D) (ci := 0) (v := .int f_between) (C := RX0) (T := TX0) (N := 12) hx hb hts hi_X0_makesGolden_0 hown E.1 hP0 0 rfl rfl 10 (by decide) (hts _ (List.mem_of_getElem? (i := 1) rfl)) (fun _ h9 => h9) rfl dX0_makesGolden_1 ?_
  refine lv_if_eq (tgt := 14) hx hb dX0_makesGolden_4 (by decide) (fun hc1 => ?_) (fun hc1 => ?_)
  · have hm2 := bq_t hm0 hc1; clear hm0
    refine lv_iconst (v := 1) hx hb dX0_makesGolden_14 (by decide) ?_
    refine lv_goto (tgt := 19) hx hb dX0_makesGolden_15 (by decide) ?_
    obtain rfl := Option.some.inj hm2
    rw [hQ]
    exact ct_zret hx hb hr hlk (Or.inr rfl) hP0 hD0 hS0 rfl dX0_makesGolden_19
  · have hm3 := bq_f hm0 hc1; clear hm0
    refine lv_aload_n hx hb dX0_makesGolden_7 rfl (lv_at hl0 0 rfl) ?_
    refine va_get (D := D) (ci := 0) (v := .int f_kept) (C := RX0) (T := TX0) (N := 12) hx hb hts hi_X0_makesGolden_0 hown E.1 hP0 0 rfl rfl 11 (by decide) (hts _ (List.mem_of_getElem? (i := 2) rfl)) (fun _ h9 => h9) rfl dX0_makesGolden_8 ?_
    refine lv_if_eq (tgt := 18) hx hb dX0_makesGolden_11 (by decide) (fun hc4 => ?_) (fun hc4 => ?_)
    · have hm5 := bq_t hm3 hc4; clear hm3
      refine lv_iconst (v := 0) hx hb dX0_makesGolden_18 (by decide) ?_
      obtain rfl := Option.some.inj hm5
      rw [hQ]
      exact ct_zret hx hb hr hlk (Or.inl rfl) hP0 hD0 hS0 rfl dX0_makesGolden_19
    · have hm6 := bq_f hm3 hc4; clear hm3
      refine lv_iconst (v := 1) hx hb dX0_makesGolden_14 (by decide) ?_
      refine lv_goto (tgt := 19) hx hb dX0_makesGolden_15 (by decide) ?_
      obtain rfl := Option.some.inj hm6
      rw [hQ]
      exact ct_zret hx hb hr hlk (Or.inr rfl) hP0 hD0 hS0 rfl dX0_makesGolden_19

def f_X0_clear_L2 (f_columns : Int32) (f_rows : Int32) : Nat → (Nat → Int32) → (Nat → Int32) → (Nat → Int32) → (Nat → Nat → Int32) → Int32 → Option ((Nat → Int32) × (Nat → Int32) × (Nat → Int32) × (Nat → Nat → Int32))
  | 0, _, _, _, _, _ => none
  | n + 1, f_modes_3, f_across_4, f_down_5, f_grid_6, v1_7 =>
  (if (f_columns * f_rows) ≤ v1_7 then
  (some (f_modes_3, f_across_4, f_down_5, f_grid_6))
  else
  (gi v1_7 36 <|
  nm (upd f_modes_3 v1_7.toNatClampNeg (2 : Int32) : Nat → Int32) fun f_modes_15 =>
  gi v1_7 36 <|
  nm (upd f_across_4 v1_7.toNatClampNeg (0 : Int32) : Nat → Int32) fun f_across_19 =>
  gi v1_7 36 <|
  nm (upd f_down_5 v1_7.toNatClampNeg (0 : Int32) : Nat → Int32) fun f_down_23 =>
  gi v1_7 36 <|
  bd1 (f_J7_fill_53178 (0 : Int32) (f_grid_6 v1_7.toNatClampNeg)) fun row_27 =>
  nm (updR f_grid_6 v1_7.toNatClampNeg row_27 : Nat → Nat → Int32) fun f_grid_29 =>
  nm (v1_7 + (1 : Int32) : Int32) fun v1_32 =>
  f_X0_clear_L2 f_columns f_rows n f_modes_15 f_across_19 f_down_23 f_grid_29 v1_32))

def f_X0_clear (f_columns : Int32) (f_rows : Int32) (f_modes : Nat → Int32) (f_across : Nat → Int32) (f_down : Nat → Int32) (f_grid : Nat → Nat → Int32) : Option ((Nat → Int32) × (Nat → Int32) × (Nat → Int32) × (Nat → Nat → Int32)) :=
  bd4 (f_X0_clear_L2 f_columns f_rows 4000 f_modes f_across f_down f_grid (0 : Int32)) fun f_modes_35 f_across_36 f_down_37 f_grid_38 =>
  some (f_modes_35, f_across_36, f_down_37, f_grid_38)

abbrev rm_X0_clear : Room := { frames := 1, cells := 0, slots := 0, locals := 23 }

theorem cdS_X0_clear : yX0_clear.cls ≠ "java/lang/invoke/MethodHandle" ∧ yX0_clear.cls ≠ "java/lang/invoke/VarHandle" ∧ (parseMethodDescriptor yX0_clear.desc).map (fun d => d.parameters.length) = some 0 := by decide +kernel

theorem cdV_X0_clear : yX0_clear.cls = RX0 ∧ yX0_clear.cls ≠ "java/lang/invoke/MethodHandle" ∧ yX0_clear.cls ≠ "java/lang/invoke/VarHandle" ∧ (parseMethodDescriptor yX0_clear.desc).map (fun d => d.parameters.length) = some 0 := ⟨rfl, cdS_X0_clear⟩

theorem hi_X0_clear_0 : ∀ w ∈ u_ws RX0 TX0 12, w ∈ wsX0_clear := fun _ h => List.mem_cons_of_mem _ (List.mem_append_right _ h)

set_option maxHeartbeats 40000000 in
set_option maxRecDepth 100000 in
theorem c_X0_clear (l : Launch) (D : va_G) (cB cI cJ cQ : ClassId) (N : Nat) (r0 : Nat → Nat) (sz : Nat) (f_columns : Int32) (f_rows : Int32) (f_scale : Int32) (f_toEnd : Int32) (f_between : Int32) (f_kept : Int32) (f_modes : Nat → Int32) (f_across : Nat → Int32) (f_down : Nat → Int32) (f_grid : Nat → Nat → Int32) (o : (Nat → Int32) × (Nat → Int32) × (Nat → Int32) × (Nat → Nat → Int32)) (hm0 : f_X0_clear f_columns f_rows f_modes f_across f_down f_grid = some o) : Met l yX0_clear wsX0_clear rm_X0_clear (ctP D cB cI cJ cQ N sz [.ref (r0 0)] (wf [oB (r0 0) 0 [.ref (r0 1), .ref (r0 2), .ref (r0 3), .ref (r0 4), .ref (r0 5), .ref (r0 6), .int f_columns, .int f_rows, .int f_scale, .int f_toEnd, .int f_between, .int f_kept], aI (r0 1) cI 36 f_modes, aI (r0 2) cI 36 f_across, aI (r0 3) cI 36 f_down, aQ (r0 4) cQ r0] [rowsW cI r0 f_grid])) (ctQv D (wf [oB (r0 0) 0 [.ref (r0 1), .ref (r0 2), .ref (r0 3), .ref (r0 4), .ref (r0 5), .ref (r0 6), .int f_columns, .int f_rows, .int f_scale, .int f_toEnd, .int f_between, .int f_kept], aI (r0 1) cI 36 (o.1), aI (r0 2) cI 36 (o.2.1), aI (r0 3) cI 36 (o.2.2.1), aQ (r0 4) cQ r0] [rowsW cI r0 (o.2.2.2)]) (va_A (wf [oB (r0 0) 0 [.ref (r0 1), .ref (r0 2), .ref (r0 3), .ref (r0 4), .ref (r0 5), .ref (r0 6), .int f_columns, .int f_rows, .int f_scale, .int f_toEnd, .int f_between, .int f_kept], aI (r0 1) cI 36 f_modes, aI (r0 2) cI 36 f_across, aI (r0 3) cI 36 f_down, aQ (r0 4) cQ r0] [rowsW cI r0 f_grid]) sz)) 0 0 (va_A (wf [oB (r0 0) 0 [.ref (r0 1), .ref (r0 2), .ref (r0 3), .ref (r0 4), .ref (r0 5), .ref (r0 6), .int f_columns, .int f_rows, .int f_scale, .int f_toEnd, .int f_between, .int f_kept], aI (r0 1) cI 36 f_modes, aI (r0 2) cI 36 f_across, aI (r0 3) cI 36 f_down, aQ (r0 4) cQ r0] [rowsW cI r0 f_grid]) sz) := by
  refine ct_of (cc := cX0_clear) (maxL := 2) (ret := none) (own := RX0) (Qp := ctQv D (wf [oB (r0 0) 0 [.ref (r0 1), .ref (r0 2), .ref (r0 3), .ref (r0 4), .ref (r0 5), .ref (r0 6), .int f_columns, .int f_rows, .int f_scale, .int f_toEnd, .int f_between, .int f_kept], aI (r0 1) cI 36 (o.1), aI (r0 2) cI 36 (o.2.1), aI (r0 3) cI 36 (o.2.2.1), aQ (r0 4) cQ r0] [rowsW cI r0 (o.2.2.2)])) (by decide) rfl rfl (Nat.le_of_ble_eq_true rfl) ?_
  intro p e s m args below meth c A hx hb hr hml hown hts hlk hnm hsz hAe E hP0 hD0 hS0 ls0 hl0
  subst hsz
  have hl0 : lv_has ls0 2 [(0, .ref (r0 0))] := hl0
  obtain ⟨QQ, hQ⟩ : ∃ Q : State → Prop, Q = MQ below (ctQv D (wf [oB (r0 0) 0 [.ref (r0 1), .ref (r0 2), .ref (r0 3), .ref (r0 4), .ref (r0 5), .ref (r0 6), .int f_columns, .int f_rows, .int f_scale, .int f_toEnd, .int f_between, .int f_kept], aI (r0 1) cI 36 (o.1), aI (r0 2) cI 36 (o.2.1), aI (r0 3) cI 36 (o.2.2.1), aQ (r0 4) cQ r0] [rowsW cI r0 (o.2.2.2)]) A) args s 0 0 A := ⟨_, rfl⟩
  rw [← hQ]
  unfold f_X0_clear at hm0
  refine lv_iconst (v := 0) hx hb dX0_clear_0 (by decide) ?_
  refine lv_istore_n (lv' := [(1, .int (0 : Int32)), (0, .ref (r0 0))]) hx hb dX0_clear_1 rfl hl0 (by decide) rfl (fun ls1 hl1 => ?_); clear hl0
  obtain ⟨f_modes_35, f_across_36, f_down_37, f_grid_38, hlp2, hm39⟩ := bd4_some hm0; clear hm0
  have LP2 : ∀ (n : Nat) (f_modes_3 : Nat → Int32) (f_across_4 : Nat → Int32) (f_down_5 : Nat → Int32) (f_grid_6 : Nat → Nat → Int32) (v1_7 : Int32) (z2 : (Nat → Int32) × (Nat → Int32) × (Nat → Int32) × (Nat → Nat → Int32)) (H8 : Heap) (lc8 : List Loc) (ls8 : Array Slot), f_X0_clear_L2 f_columns f_rows n f_modes_3 f_across_4 f_down_5 f_grid_6 v1_7 = some z2 → va_P D vwCl (wf [oB (r0 0) 0 [.ref (r0 1), .ref (r0 2), .ref (r0 3), .ref (r0 4), .ref (r0 5), .ref (r0 6), .int f_columns, .int f_rows, .int f_scale, .int f_toEnd, .int f_between, .int f_kept], aI (r0 1) cI 36 f_modes_3, aI (r0 2) cI 36 f_across_4, aI (r0 3) cI 36 f_down_5, aQ (r0 4) cQ r0] [rowsW cI r0 f_grid_6]) H8 → va_D A (wf [oB (r0 0) 0 [.ref (r0 1), .ref (r0 2), .ref (r0 3), .ref (r0 4), .ref (r0 5), .ref (r0 6), .int f_columns, .int f_rows, .int f_scale, .int f_toEnd, .int f_between, .int f_kept], aI (r0 1) cI 36 f_modes_3, aI (r0 2) cI 36 f_across_4, aI (r0 3) cI 36 f_down_5, aQ (r0 4) cQ r0] [rowsW cI r0 f_grid_6]) → va_S A s.heap H8 lc8 → lv_has ls8 2 [(0, .ref (r0 0)), (1, .int v1_7)] → (∀ (H : Heap) (lc : List Loc) (ls : Array Slot), va_P D vwCl (wf [oB (r0 0) 0 [.ref (r0 1), .ref (r0 2), .ref (r0 3), .ref (r0 4), .ref (r0 5), .ref (r0 6), .int f_columns, .int f_rows, .int f_scale, .int f_toEnd, .int f_between, .int f_kept], aI (r0 1) cI 36 (z2.1), aI (r0 2) cI 36 (z2.2.1), aI (r0 3) cI 36 (z2.2.2.1), aQ (r0 4) cQ r0] [rowsW cI r0 (z2.2.2.2)]) H → va_D A (wf [oB (r0 0) 0 [.ref (r0 1), .ref (r0 2), .ref (r0 3), .ref (r0 4), .ref (r0 5), .ref (r0 6), .int f_columns, .int f_rows, .int f_scale, .int f_toEnd, .int f_between, .int f_kept], aI (r0 1) cI 36 (z2.1), aI (r0 2) cI 36 (z2.2.1), aI (r0 3) cI 36 (z2.2.2.1), aQ (r0 4) cQ r0] [rowsW cI r0 (z2.2.2.2)]) → va_S A s.heap H lc → lv_has ls 2 [] → W p l e rm_X0_clear s m args below meth c H lc 0 0 QQ (F0 m 52 ls [])) → W p l e rm_X0_clear s m args below meth c H8 lc8 0 0 QQ (F0 m 2 ls8 []) := by
    intro n
    induction n with
    | zero =>
      intro f_modes_3 f_across_4 f_down_5 f_grid_6 v1_7 z2 H8 lc8 ls8 hm10; simp [f_X0_clear_L2] at hm10
    | succ n ih =>
      intro f_modes_3 f_across_4 f_down_5 f_grid_6 v1_7 z2 H8 lc8 ls8 hm10 hP8 hD8 hS8 hl8 kx
      rw [f_X0_clear_L2] at hm10
      refine lv_iload_n hx hb dX0_clear_2 rfl (lv_at hl8 1 rfl) ?_
      refine lv_aload_n hx hb dX0_clear_3 rfl (lv_at hl8 0 rfl) ?_
      refine va_get (D := D) (ci := 0) (v := .int f_columns) (C := RX0) (T := TX0) (N := 12) hx hb hts hi_X0_clear_0 hown E.1 hP8 0 rfl rfl 6 (by decide) (hts _ (List.mem_of_getElem? (i := 1) rfl)) (fun _ h9 => h9) rfl dX0_clear_4 ?_
      refine lv_aload_n hx hb dX0_clear_7 rfl (lv_at hl8 0 rfl) ?_
      refine va_get (D := D) (ci := 0) (v := .int f_rows) (C := RX0) (T := TX0) (N := 12) hx hb hts hi_X0_clear_0 hown E.1 hP8 0 rfl rfl 7 (by decide) (hts _ (List.mem_of_getElem? (i := 2) rfl)) (fun _ h9 => h9) rfl dX0_clear_8 ?_
      refine lv_imul hx hb dX0_clear_11 ?_
      refine lv_icmp_ge (tgt := 52) hx hb dX0_clear_12 (by decide) (fun hc11 => ?_) (fun hc11 => ?_)
      · have hm12 := bq_t hm10 hc11; clear hm10
        obtain rfl := Option.some.inj hm12
        exact kx _ _ _ hP8 hD8 hS8 (lv_sub hl8 [] rfl)
      · have hm13 := bq_f hm10 hc11; clear hm10
        refine lv_aload_n hx hb dX0_clear_15 rfl (lv_at hl8 0 rfl) ?_
        refine va_get (D := D) (ci := 0) (v := .ref (r0 1)) (C := RX0) (T := TX0) (N := 12) hx hb hts hi_X0_clear_0 hown E.1 hP8 0 rfl rfl 0 (by decide) (hts _ (List.mem_of_getElem? (i := 3) rfl)) (fun _ h9 => h9) rfl dX0_clear_16 ?_
        refine lv_iload_n hx hb dX0_clear_19 rfl (lv_at hl8 1 rfl) ?_
        refine lv_iconst (v := 2) hx hb dX0_clear_20 (by decide) ?_
        obtain ⟨hin14, hm14⟩ := gi_some hm13; clear hm13
        obtain ⟨f_modes_15, ef_modes_15, hm16⟩ := nm_some hm14; clear hm14
        refine ct_iast (g := f_modes_15) (ws' := (wf [oB (r0 0) 0 [.ref (r0 1), .ref (r0 2), .ref (r0 3), .ref (r0 4), .ref (r0 5), .ref (r0 6), .int f_columns, .int f_rows, .int f_scale, .int f_toEnd, .int f_between, .int f_kept], aI (r0 1) cI 36 f_modes_15, aI (r0 2) cI 36 f_across_4, aI (r0 3) cI 36 f_down_5, aQ (r0 4) cQ r0] [rowsW cI r0 f_grid_6])) hx hb E.1 hP8 hD8 hS8 1 0 rfl rfl hin14 ef_modes_15 rfl dX0_clear_21 (fun H17 lc17 hP17 hD17 hS17 => ?_)
        clear hP8 hD8 hS8
        refine lv_aload_n hx hb dX0_clear_22 rfl (lv_at hl8 0 rfl) ?_
        refine va_get (D := D) (ci := 0) (v := .ref (r0 2)) (C := RX0) (T := TX0) (N := 12) hx hb hts hi_X0_clear_0 hown E.1 hP17 0 rfl rfl 1 (by decide) (hts _ (List.mem_of_getElem? (i := 4) rfl)) (fun _ h9 => h9) rfl dX0_clear_23 ?_
        refine lv_iload_n hx hb dX0_clear_26 rfl (lv_at hl8 1 rfl) ?_
        refine lv_iconst (v := 0) hx hb dX0_clear_27 (by decide) ?_
        obtain ⟨hin18, hm18⟩ := gi_some hm16; clear hm16
        obtain ⟨f_across_19, ef_across_19, hm20⟩ := nm_some hm18; clear hm18
        refine ct_iast (g := f_across_19) (ws' := (wf [oB (r0 0) 0 [.ref (r0 1), .ref (r0 2), .ref (r0 3), .ref (r0 4), .ref (r0 5), .ref (r0 6), .int f_columns, .int f_rows, .int f_scale, .int f_toEnd, .int f_between, .int f_kept], aI (r0 1) cI 36 f_modes_15, aI (r0 2) cI 36 f_across_19, aI (r0 3) cI 36 f_down_5, aQ (r0 4) cQ r0] [rowsW cI r0 f_grid_6])) hx hb E.1 hP17 hD17 hS17 2 0 rfl rfl hin18 ef_across_19 rfl dX0_clear_28 (fun H21 lc21 hP21 hD21 hS21 => ?_)
        clear hP17 hD17 hS17
        refine lv_aload_n hx hb dX0_clear_29 rfl (lv_at hl8 0 rfl) ?_
        refine va_get (D := D) (ci := 0) (v := .ref (r0 3)) (C := RX0) (T := TX0) (N := 12) hx hb hts hi_X0_clear_0 hown E.1 hP21 0 rfl rfl 2 (by decide) (hts _ (List.mem_of_getElem? (i := 5) rfl)) (fun _ h9 => h9) rfl dX0_clear_30 ?_
        refine lv_iload_n hx hb dX0_clear_33 rfl (lv_at hl8 1 rfl) ?_
        refine lv_iconst (v := 0) hx hb dX0_clear_34 (by decide) ?_
        obtain ⟨hin22, hm22⟩ := gi_some hm20; clear hm20
        obtain ⟨f_down_23, ef_down_23, hm24⟩ := nm_some hm22; clear hm22
        refine ct_iast (g := f_down_23) (ws' := (wf [oB (r0 0) 0 [.ref (r0 1), .ref (r0 2), .ref (r0 3), .ref (r0 4), .ref (r0 5), .ref (r0 6), .int f_columns, .int f_rows, .int f_scale, .int f_toEnd, .int f_between, .int f_kept], aI (r0 1) cI 36 f_modes_15, aI (r0 2) cI 36 f_across_19, aI (r0 3) cI 36 f_down_23, aQ (r0 4) cQ r0] [rowsW cI r0 f_grid_6])) hx hb E.1 hP21 hD21 hS21 3 0 rfl rfl hin22 ef_down_23 rfl dX0_clear_35 (fun H25 lc25 hP25 hD25 hS25 => ?_)
        clear hP21 hD21 hS21
        refine lv_aload_n hx hb dX0_clear_36 rfl (lv_at hl8 0 rfl) ?_
        refine va_get (D := D) (ci := 0) (v := .ref (r0 4)) (C := RX0) (T := TX0) (N := 12) hx hb hts hi_X0_clear_0 hown E.1 hP25 0 rfl rfl 3 (by decide) (hts _ (List.mem_of_getElem? (i := 6) rfl)) (fun _ h9 => h9) rfl dX0_clear_37 ?_
        refine lv_iload_n hx hb dX0_clear_40 rfl (lv_at hl8 1 rfl) ?_
        obtain ⟨hin26, hm26⟩ := gi_some hm24; clear hm24
        refine ct_aald hx hb E.1 hP25 4 rfl hin26 dX0_clear_41 ?_
        refine lv_iconst (v := 0) hx hb dX0_clear_42 (by decide) ?_
        obtain ⟨row_27, hcl28, hm28⟩ := bd1_some hm26; clear hm26
        obtain ⟨f_grid_29, ef_grid_29, hm30⟩ := nm_some hm28; clear hm28
        refine ct_callrow E hP25 hD25 hS25 (vp_row hin26) ef_grid_29 (fun hPq hDq => va_runS (As := [.ref (r0 (7 + v1_7.toNatClampNeg)), .int (0 : Int32)]) (rest := []) ⟨hx, hb, hml, hown, hts⟩ (c_J7_fill_53178 l D cB cI cJ cQ N (fun _ => r0 (7 + v1_7.toNatClampNeg)) H25.size (0 : Int32) (f_grid_6 v1_7.toNatClampNeg) row_27 hcl28) (va_cwS 2 hts gX0_clear_J7_fill_53178 rfl rfl rfl cdS_J7_fill_53178 ⟨Nat.le_of_ble_eq_true rfl, Nat.le_of_ble_eq_true rfl⟩) ⟨ct_blind, ct_pc E hS25 hPq hDq⟩ rfl rfl hl8.1 rfl (lv_room (Nat.le_of_ble_eq_true rfl)) dX0_clear_43 ⟨Nat.zero_le _, Nat.zero_le _⟩) (fun H31 lc31 hP31 hD31 hS31 => ?_); clear hcl28
        clear hP25 hD25 hS25
        have hP31 : va_P D vwCl (wf [oB (r0 0) 0 [.ref (r0 1), .ref (r0 2), .ref (r0 3), .ref (r0 4), .ref (r0 5), .ref (r0 6), .int f_columns, .int f_rows, .int f_scale, .int f_toEnd, .int f_between, .int f_kept], aI (r0 1) cI 36 f_modes_15, aI (r0 2) cI 36 f_across_19, aI (r0 3) cI 36 f_down_23, aQ (r0 4) cQ r0] [rowsW cI r0 f_grid_29]) H31 := hP31
        have hD31 : va_D A (wf [oB (r0 0) 0 [.ref (r0 1), .ref (r0 2), .ref (r0 3), .ref (r0 4), .ref (r0 5), .ref (r0 6), .int f_columns, .int f_rows, .int f_scale, .int f_toEnd, .int f_between, .int f_kept], aI (r0 1) cI 36 f_modes_15, aI (r0 2) cI 36 f_across_19, aI (r0 3) cI 36 f_down_23, aQ (r0 4) cQ r0] [rowsW cI r0 f_grid_29]) := hD31
        obtain ⟨v1_32, ev1_32, hm33⟩ := nm_some hm30; clear hm30
        refine lv_iinc (v := v1_32) (lv' := [(1, .int v1_32), (0, .ref (r0 0))]) hx hb dX0_clear_46 hl8 (k := 1) rfl (by rw [ev1_32]; rfl) (by decide) rfl (fun ls34 hl34 => ?_); clear hl8
        refine lv_goto (tgt := 2) hx hb dX0_clear_49 (by decide) ?_
        exact ih f_modes_15 f_across_19 f_down_23 f_grid_29 v1_32 _ _ _ _ hm33 hP31 hD31 hS31 (lv_sub hl34 [1, 0] rfl) kx
  refine LP2 4000 f_modes f_across f_down f_grid (0 : Int32) (f_modes_35, f_across_36, f_down_37, f_grid_38) _ _ _ hlp2 hP0 hD0 hS0 (lv_sub hl1 [1, 0] rfl) (fun H40 lc40 ls40 hP40 hD40 hS40 hl40 => ?_); clear LP2 hlp2
  clear hP0 hD0 hS0
  have hl40 : lv_has ls40 2 [] := hl40
  have hP40 : va_P D vwCl (wf [oB (r0 0) 0 [.ref (r0 1), .ref (r0 2), .ref (r0 3), .ref (r0 4), .ref (r0 5), .ref (r0 6), .int f_columns, .int f_rows, .int f_scale, .int f_toEnd, .int f_between, .int f_kept], aI (r0 1) cI 36 f_modes_35, aI (r0 2) cI 36 f_across_36, aI (r0 3) cI 36 f_down_37, aQ (r0 4) cQ r0] [rowsW cI r0 f_grid_38]) H40 := hP40
  have hD40 : va_D A (wf [oB (r0 0) 0 [.ref (r0 1), .ref (r0 2), .ref (r0 3), .ref (r0 4), .ref (r0 5), .ref (r0 6), .int f_columns, .int f_rows, .int f_scale, .int f_toEnd, .int f_between, .int f_kept], aI (r0 1) cI 36 f_modes_35, aI (r0 2) cI 36 f_across_36, aI (r0 3) cI 36 f_down_37, aQ (r0 4) cQ r0] [rowsW cI r0 f_grid_38]) := hD40
  obtain rfl := Option.some.inj hm39
  rw [hQ]
  exact ct_vret hx hb hr hlk hP40 hD40 hS40 dX0_clear_52

def f_X0_readRun (t_size : Int32) (t_position : Int32) (t_fault : Int32) (t_bytes : Nat → Int32) : Option (Int32 × Int32 × Int32) :=
  bd3 (f_X4_bit t_size t_position t_fault t_bytes) fun y_1 t_position_2 t_fault_3 =>
  (if y_1 = (0 : Int32) then
  (some ((1 : Int32), t_position_2, t_fault_3))
  else
  (bd3 (f_X4_bit t_size t_position_2 t_fault_3 t_bytes) fun y_9 t_position_10 t_fault_11 =>
  (if y_9 = (0 : Int32) then
  (bd3 (f_X4_number (1 : Int32) t_size t_position_10 t_fault_11 t_bytes) fun y_39 t_position_40 t_fault_41 =>
  some (((2 : Int32) + y_39), t_position_40, t_fault_41))
  else
  (bd3 (f_X4_bit t_size t_position_10 t_fault_11 t_bytes) fun y_17 t_position_18 t_fault_19 =>
  (if y_17 = (0 : Int32) then
  (bd3 (f_X4_number (2 : Int32) t_size t_position_18 t_fault_19 t_bytes) fun y_32 t_position_33 t_fault_34 =>
  some (((4 : Int32) + y_32), t_position_33, t_fault_34))
  else
  (bd3 (f_X4_number (5 : Int32) t_size t_position_18 t_fault_19 t_bytes) fun y_25 t_position_26 t_fault_27 =>
  some (((8 : Int32) + y_25), t_position_26, t_fault_27)))))))

abbrev rm_X0_readRun : Room := { frames := 3, cells := 0, slots := 0, locals := 65 }

theorem cdS_X0_readRun : yX0_readRun.cls ≠ "java/lang/invoke/MethodHandle" ∧ yX0_readRun.cls ≠ "java/lang/invoke/VarHandle" ∧ (parseMethodDescriptor yX0_readRun.desc).map (fun d => d.parameters.length) = some 1 := by decide +kernel

set_option maxHeartbeats 40000000 in
set_option maxRecDepth 100000 in
theorem c_X0_readRun (l : Launch) (D : va_G) (cB cI cJ cQ : ClassId) (N : Nat) (r0 : Nat → Nat) (sz : Nat) (t_size : Int32) (t_position : Int32) (t_fault : Int32) (t_bytes : Nat → Int32) (o : Int32 × Int32 × Int32) (hm0 : f_X0_readRun t_size t_position t_fault t_bytes = some o) : Met l yX0_readRun wsX0_readRun rm_X0_readRun (ctP D cB cI cJ cQ N sz [.ref (r0 0)] (wf [oB (r0 0) 4 [.ref (r0 1), .int t_size, .int t_position, .int t_fault], aI (r0 1) cB 6000 t_bytes] [])) (ctQi D (o.1) (wf [oB (r0 0) 4 [.ref (r0 1), .int t_size, .int (o.2.1), .int (o.2.2)], aI (r0 1) cB 6000 t_bytes] []) (va_A (wf [oB (r0 0) 4 [.ref (r0 1), .int t_size, .int t_position, .int t_fault], aI (r0 1) cB 6000 t_bytes] []) sz)) 0 0 (va_A (wf [oB (r0 0) 4 [.ref (r0 1), .int t_size, .int t_position, .int t_fault], aI (r0 1) cB 6000 t_bytes] []) sz) := by
  refine ct_of (cc := cX0_readRun) (maxL := 1) (ret := (some .int)) (own := RX0) (Qp := ctQi D (o.1) (wf [oB (r0 0) 4 [.ref (r0 1), .int t_size, .int (o.2.1), .int (o.2.2)], aI (r0 1) cB 6000 t_bytes] [])) (by decide) rfl rfl (Nat.le_of_ble_eq_true rfl) ?_
  intro p e s m args below meth c A hx hb hr hml hown hts hlk hnm hsz hAe E hP0 hD0 hS0 ls0 hl0
  subst hsz
  have hl0 : lv_has ls0 1 [(0, .ref (r0 0))] := hl0
  obtain ⟨QQ, hQ⟩ : ∃ Q : State → Prop, Q = MQ below (ctQi D (o.1) (wf [oB (r0 0) 4 [.ref (r0 1), .int t_size, .int (o.2.1), .int (o.2.2)], aI (r0 1) cB 6000 t_bytes] []) A) args s 0 0 A := ⟨_, rfl⟩
  rw [← hQ]
  unfold f_X0_readRun at hm0
  refine lv_aload_n hx hb dX0_readRun_0 rfl (lv_at hl0 0 rfl) ?_
  obtain ⟨y_1, t_position_2, t_fault_3, hcl4, hm4⟩ := bd3_some hm0; clear hm0
  have sb5 := ctS.mk (n := 2) (k := 0) (pre := [oB (r0 0) 4 [.ref (r0 1), .int t_size, .int t_position, .int t_fault], aI (r0 1) cB 6000 t_bytes]) (tl := []) [0, 1] [] [] [] rfl rfl (by decide +kernel) (by decide +kernel)
  refine ct_calli (r := y_1) E sb5 hP0 hD0 hS0 (va_runV (As := []) (rest := []) ⟨hx, hb, hml, hown, hts⟩ (c_X4_bit l D cB cI cJ cQ N r0 s.heap.size t_size t_position t_fault t_bytes (y_1, t_position_2, t_fault_3) hcl4) (cwV 0 hts gX0_readRun_X4_bit rfl rfl rfl cdV_X4_bit ⟨Nat.le_of_ble_eq_true rfl, Nat.le_of_ble_eq_true rfl⟩) (ct_preV (q0 := 0) (ci := 4) E sb5 hP0 hD0 hS0 rfl rfl) rfl rfl hl0.1 rfl (lv_room (Nat.le_of_ble_eq_true rfl)) dX0_readRun_1 ⟨Nat.zero_le _, Nat.zero_le _⟩) (fun H6 lc6 hP6 hD6 hS6 => ?_); clear sb5 hcl4
  clear hP0 hD0 hS0
  have hP6 : va_P D vwCl (wf [oB (r0 0) 4 [.ref (r0 1), .int t_size, .int t_position_2, .int t_fault_3], aI (r0 1) cB 6000 t_bytes] []) H6 := hP6
  have hD6 : va_D A (wf [oB (r0 0) 4 [.ref (r0 1), .int t_size, .int t_position_2, .int t_fault_3], aI (r0 1) cB 6000 t_bytes] []) := hD6
  refine lv_if_ne (tgt := 9) hx hb dX0_readRun_4 (by decide) (fun hc7 => ?_) (fun hc7 => ?_)
  · have hm8 := bq_f hm4 hc7; clear hm4
    refine lv_aload_n hx hb dX0_readRun_9 rfl (lv_at hl0 0 rfl) ?_
    obtain ⟨y_9, t_position_10, t_fault_11, hcl12, hm12⟩ := bd3_some hm8; clear hm8
    have sb13 := ctS.mk (n := 2) (k := 0) (pre := [oB (r0 0) 4 [.ref (r0 1), .int t_size, .int t_position_2, .int t_fault_3], aI (r0 1) cB 6000 t_bytes]) (tl := []) [0, 1] [] [] [] rfl rfl (by decide +kernel) (by decide +kernel)
    refine ct_calli (r := y_9) E sb13 hP6 hD6 hS6 (va_runV (As := []) (rest := []) ⟨hx, hb, hml, hown, hts⟩ (c_X4_bit l D cB cI cJ cQ N r0 H6.size t_size t_position_2 t_fault_3 t_bytes (y_9, t_position_10, t_fault_11) hcl12) (cwV 0 hts gX0_readRun_X4_bit rfl rfl rfl cdV_X4_bit ⟨Nat.le_of_ble_eq_true rfl, Nat.le_of_ble_eq_true rfl⟩) (ct_preV (q0 := 0) (ci := 4) E sb13 hP6 hD6 hS6 rfl rfl) rfl rfl hl0.1 rfl (lv_room (Nat.le_of_ble_eq_true rfl)) dX0_readRun_10 ⟨Nat.zero_le _, Nat.zero_le _⟩) (fun H14 lc14 hP14 hD14 hS14 => ?_); clear sb13 hcl12
    clear hP6 hD6 hS6
    have hP14 : va_P D vwCl (wf [oB (r0 0) 4 [.ref (r0 1), .int t_size, .int t_position_10, .int t_fault_11], aI (r0 1) cB 6000 t_bytes] []) H14 := hP14
    have hD14 : va_D A (wf [oB (r0 0) 4 [.ref (r0 1), .int t_size, .int t_position_10, .int t_fault_11], aI (r0 1) cB 6000 t_bytes] []) := hD14
    refine lv_if_ne (tgt := 24) hx hb dX0_readRun_13 (by decide) (fun hc15 => ?_) (fun hc15 => ?_)
    · have hm16 := bq_f hm12 hc15; clear hm12
      refine lv_aload_n hx hb dX0_readRun_24 rfl (lv_at hl0 0 rfl) ?_
      obtain ⟨y_17, t_position_18, t_fault_19, hcl20, hm20⟩ := bd3_some hm16; clear hm16
      have sb21 := ctS.mk (n := 2) (k := 0) (pre := [oB (r0 0) 4 [.ref (r0 1), .int t_size, .int t_position_10, .int t_fault_11], aI (r0 1) cB 6000 t_bytes]) (tl := []) [0, 1] [] [] [] rfl rfl (by decide +kernel) (by decide +kernel)
      refine ct_calli (r := y_17) E sb21 hP14 hD14 hS14 (va_runV (As := []) (rest := []) ⟨hx, hb, hml, hown, hts⟩ (c_X4_bit l D cB cI cJ cQ N r0 H14.size t_size t_position_10 t_fault_11 t_bytes (y_17, t_position_18, t_fault_19) hcl20) (cwV 0 hts gX0_readRun_X4_bit rfl rfl rfl cdV_X4_bit ⟨Nat.le_of_ble_eq_true rfl, Nat.le_of_ble_eq_true rfl⟩) (ct_preV (q0 := 0) (ci := 4) E sb21 hP14 hD14 hS14 rfl rfl) rfl rfl hl0.1 rfl (lv_room (Nat.le_of_ble_eq_true rfl)) dX0_readRun_25 ⟨Nat.zero_le _, Nat.zero_le _⟩) (fun H22 lc22 hP22 hD22 hS22 => ?_); clear sb21 hcl20
      clear hP14 hD14 hS14
      have hP22 : va_P D vwCl (wf [oB (r0 0) 4 [.ref (r0 1), .int t_size, .int t_position_18, .int t_fault_19], aI (r0 1) cB 6000 t_bytes] []) H22 := hP22
      have hD22 : va_D A (wf [oB (r0 0) 4 [.ref (r0 1), .int t_size, .int t_position_18, .int t_fault_19], aI (r0 1) cB 6000 t_bytes] []) := hD22
      refine lv_if_ne (tgt := 39) hx hb dX0_readRun_28 (by decide) (fun hc23 => ?_) (fun hc23 => ?_)
      · have hm24 := bq_f hm20 hc23; clear hm20
        refine lv_bipush (v := 8) hx hb dX0_readRun_39 (by decide) ?_
        refine lv_aload_n hx hb dX0_readRun_41 rfl (lv_at hl0 0 rfl) ?_
        refine lv_iconst (v := 5) hx hb dX0_readRun_42 (by decide) ?_
        obtain ⟨y_25, t_position_26, t_fault_27, hcl28, hm28⟩ := bd3_some hm24; clear hm24
        have sb29 := ctS.mk (n := 2) (k := 0) (pre := [oB (r0 0) 4 [.ref (r0 1), .int t_size, .int t_position_18, .int t_fault_19], aI (r0 1) cB 6000 t_bytes]) (tl := []) [0, 1] [] [] [] rfl rfl (by decide +kernel) (by decide +kernel)
        refine ct_calli (r := y_25) E sb29 hP22 hD22 hS22 (va_runV (As := [.int (5 : Int32)]) (rest := [.int (8 : Int32)]) ⟨hx, hb, hml, hown, hts⟩ (c_X4_number l D cB cI cJ cQ N r0 H22.size (5 : Int32) t_size t_position_18 t_fault_19 t_bytes (y_25, t_position_26, t_fault_27) hcl28) (cwV 1 hts gX0_readRun_X4_number rfl rfl rfl cdV_X4_number ⟨Nat.le_of_ble_eq_true rfl, Nat.le_of_ble_eq_true rfl⟩) (ct_preV (q0 := 0) (ci := 4) E sb29 hP22 hD22 hS22 rfl rfl) rfl rfl hl0.1 rfl (lv_room (Nat.le_of_ble_eq_true rfl)) dX0_readRun_43 ⟨Nat.zero_le _, Nat.zero_le _⟩) (fun H30 lc30 hP30 hD30 hS30 => ?_); clear sb29 hcl28
        clear hP22 hD22 hS22
        have hP30 : va_P D vwCl (wf [oB (r0 0) 4 [.ref (r0 1), .int t_size, .int t_position_26, .int t_fault_27], aI (r0 1) cB 6000 t_bytes] []) H30 := hP30
        have hD30 : va_D A (wf [oB (r0 0) 4 [.ref (r0 1), .int t_size, .int t_position_26, .int t_fault_27], aI (r0 1) cB 6000 t_bytes] []) := hD30
        refine lv_iadd hx hb dX0_readRun_46 ?_
        obtain rfl := Option.some.inj hm28
        rw [hQ]
        exact ct_iret hx hb hr hlk hP30 hD30 hS30 rfl dX0_readRun_47
      · have hm31 := bq_t hm20 hc23; clear hm20
        refine lv_iconst (v := 4) hx hb dX0_readRun_31 (by decide) ?_
        refine lv_aload_n hx hb dX0_readRun_32 rfl (lv_at hl0 0 rfl) ?_
        refine lv_iconst (v := 2) hx hb dX0_readRun_33 (by decide) ?_
        obtain ⟨y_32, t_position_33, t_fault_34, hcl35, hm35⟩ := bd3_some hm31; clear hm31
        have sb36 := ctS.mk (n := 2) (k := 0) (pre := [oB (r0 0) 4 [.ref (r0 1), .int t_size, .int t_position_18, .int t_fault_19], aI (r0 1) cB 6000 t_bytes]) (tl := []) [0, 1] [] [] [] rfl rfl (by decide +kernel) (by decide +kernel)
        refine ct_calli (r := y_32) E sb36 hP22 hD22 hS22 (va_runV (As := [.int (2 : Int32)]) (rest := [.int (4 : Int32)]) ⟨hx, hb, hml, hown, hts⟩ (c_X4_number l D cB cI cJ cQ N r0 H22.size (2 : Int32) t_size t_position_18 t_fault_19 t_bytes (y_32, t_position_33, t_fault_34) hcl35) (cwV 1 hts gX0_readRun_X4_number rfl rfl rfl cdV_X4_number ⟨Nat.le_of_ble_eq_true rfl, Nat.le_of_ble_eq_true rfl⟩) (ct_preV (q0 := 0) (ci := 4) E sb36 hP22 hD22 hS22 rfl rfl) rfl rfl hl0.1 rfl (lv_room (Nat.le_of_ble_eq_true rfl)) dX0_readRun_34 ⟨Nat.zero_le _, Nat.zero_le _⟩) (fun H37 lc37 hP37 hD37 hS37 => ?_); clear sb36 hcl35
        clear hP22 hD22 hS22
        have hP37 : va_P D vwCl (wf [oB (r0 0) 4 [.ref (r0 1), .int t_size, .int t_position_33, .int t_fault_34], aI (r0 1) cB 6000 t_bytes] []) H37 := hP37
        have hD37 : va_D A (wf [oB (r0 0) 4 [.ref (r0 1), .int t_size, .int t_position_33, .int t_fault_34], aI (r0 1) cB 6000 t_bytes] []) := hD37
        refine lv_iadd hx hb dX0_readRun_37 ?_
        obtain rfl := Option.some.inj hm35
        rw [hQ]
        exact ct_iret hx hb hr hlk hP37 hD37 hS37 rfl dX0_readRun_38
    · have hm38 := bq_t hm12 hc15; clear hm12
      refine lv_iconst (v := 2) hx hb dX0_readRun_16 (by decide) ?_
      refine lv_aload_n hx hb dX0_readRun_17 rfl (lv_at hl0 0 rfl) ?_
      refine lv_iconst (v := 1) hx hb dX0_readRun_18 (by decide) ?_
      obtain ⟨y_39, t_position_40, t_fault_41, hcl42, hm42⟩ := bd3_some hm38; clear hm38
      have sb43 := ctS.mk (n := 2) (k := 0) (pre := [oB (r0 0) 4 [.ref (r0 1), .int t_size, .int t_position_10, .int t_fault_11], aI (r0 1) cB 6000 t_bytes]) (tl := []) [0, 1] [] [] [] rfl rfl (by decide +kernel) (by decide +kernel)
      refine ct_calli (r := y_39) E sb43 hP14 hD14 hS14 (va_runV (As := [.int (1 : Int32)]) (rest := [.int (2 : Int32)]) ⟨hx, hb, hml, hown, hts⟩ (c_X4_number l D cB cI cJ cQ N r0 H14.size (1 : Int32) t_size t_position_10 t_fault_11 t_bytes (y_39, t_position_40, t_fault_41) hcl42) (cwV 1 hts gX0_readRun_X4_number rfl rfl rfl cdV_X4_number ⟨Nat.le_of_ble_eq_true rfl, Nat.le_of_ble_eq_true rfl⟩) (ct_preV (q0 := 0) (ci := 4) E sb43 hP14 hD14 hS14 rfl rfl) rfl rfl hl0.1 rfl (lv_room (Nat.le_of_ble_eq_true rfl)) dX0_readRun_19 ⟨Nat.zero_le _, Nat.zero_le _⟩) (fun H44 lc44 hP44 hD44 hS44 => ?_); clear sb43 hcl42
      clear hP14 hD14 hS14
      have hP44 : va_P D vwCl (wf [oB (r0 0) 4 [.ref (r0 1), .int t_size, .int t_position_40, .int t_fault_41], aI (r0 1) cB 6000 t_bytes] []) H44 := hP44
      have hD44 : va_D A (wf [oB (r0 0) 4 [.ref (r0 1), .int t_size, .int t_position_40, .int t_fault_41], aI (r0 1) cB 6000 t_bytes] []) := hD44
      refine lv_iadd hx hb dX0_readRun_22 ?_
      obtain rfl := Option.some.inj hm42
      rw [hQ]
      exact ct_iret hx hb hr hlk hP44 hD44 hS44 rfl dX0_readRun_23
  · have hm45 := bq_t hm4 hc7; clear hm4
    refine lv_iconst (v := 1) hx hb dX0_readRun_7 (by decide) ?_
    obtain rfl := Option.some.inj hm45
    rw [hQ]
    exact ct_iret hx hb hr hlk hP6 hD6 hS6 rfl dX0_readRun_8

def f_X0_readFlags_L24 (t_size : Int32) (t_bytes : Nat → Int32) (h_order : Nat → Int32) (v3_1 : Int32) : Nat → (Nat → Int32) → Int32 → Int32 → Int32 → Int32 → Int32 → Option ((Nat → Int32) × Int32 × Int32)
  | 0, _, _, _, _, _, _ => none
  | n + 1, f_modes_16, t_position_17, t_fault_18, v4_19, v5_20, v6_21 =>
  (if v3_1 ≤ v6_21 then
  (some (f_modes_16, t_position_17, t_fault_18))
  else
  (jn (fun (k29 : Int32 → Int32 → Int32 → Int32 → Option ((Nat → Int32) × Int32 × Int32)) => (if v5_20 = (0 : Int32) then
  (bd3 (f_X0_readRun t_size t_position_17 t_fault_18 t_bytes) fun y_62 t_position_63 t_fault_64 =>
  nm (((1 : Int32) - v4_19) : Int32) fun v4_69 =>
  (if y_62 ≤ (v3_1 - v6_21) then
  (k29 t_position_63 t_fault_64 v4_69 y_62)
  else
  (bd1 (f_X4_fail (5 : Int32) t_fault_64) fun t_fault_75 =>
  k29 t_position_63 t_fault_75 v4_69 y_62)))
  else
  (k29 t_position_17 t_fault_18 v4_19 v5_20))) fun t_position_30 t_fault_31 v4_32 v5_33 =>
  nm (v5_33 + (-1 : Int32) : Int32) fun v5_36 =>
  jn (fun (k40 : (Nat → Int32) → Option ((Nat → Int32) × Int32 × Int32)) => (if v4_32 = (0 : Int32) then
  (bd1 (f_X1_ordered v6_21 h_order) fun y_50 =>
  gi y_50 36 <|
  nm (upd f_modes_16 y_50.toNatClampNeg (0 : Int32) : Nat → Int32) fun f_modes_55 =>
  k40 f_modes_55)
  else
  (k40 f_modes_16))) fun f_modes_41 =>
  nm (v6_21 + (1 : Int32) : Int32) fun v6_44 =>
  f_X0_readFlags_L24 t_size t_bytes h_order v3_1 n f_modes_41 t_position_30 t_fault_31 v4_32 v5_36 v6_44))

def f_X0_readFlags (f_columns : Int32) (f_rows : Int32) (f_modes : Nat → Int32) (t_size : Int32) (t_position : Int32) (t_fault : Int32) (t_bytes : Nat → Int32) (h_order : Nat → Int32) : Option ((Nat → Int32) × Int32 × Int32) :=
  nm ((f_columns * f_rows) : Int32) fun v3_1 =>
  bd3 (f_X4_bit t_size t_position t_fault t_bytes) fun y_4 t_position_5 t_fault_6 =>
  nm (((1 : Int32) - y_4) : Int32) fun v4_10 =>
  bd3 (f_X0_readFlags_L24 t_size t_bytes h_order v3_1 4000 f_modes t_position_5 t_fault_6 v4_10 (0 : Int32) (0 : Int32)) fun f_modes_80 t_position_81 t_fault_82 =>
  some (f_modes_80, t_position_81, t_fault_82)

abbrev rm_X0_readFlags : Room := { frames := 4, cells := 0, slots := 0, locals := 85 }

theorem cdS_X0_readFlags : yX0_readFlags.cls ≠ "java/lang/invoke/MethodHandle" ∧ yX0_readFlags.cls ≠ "java/lang/invoke/VarHandle" ∧ (parseMethodDescriptor yX0_readFlags.desc).map (fun d => d.parameters.length) = some 2 := by decide +kernel

theorem cdV_X0_readFlags : yX0_readFlags.cls = RX0 ∧ yX0_readFlags.cls ≠ "java/lang/invoke/MethodHandle" ∧ yX0_readFlags.cls ≠ "java/lang/invoke/VarHandle" ∧ (parseMethodDescriptor yX0_readFlags.desc).map (fun d => d.parameters.length) = some 2 := ⟨rfl, cdS_X0_readFlags⟩

theorem hi_X0_readFlags_0 : ∀ w ∈ u_ws RX0 TX0 12, w ∈ wsX0_readFlags := fun _ h => List.mem_cons_of_mem _ (List.mem_append_left _ (List.mem_append_left _ (List.mem_append_right _ h)))

set_option maxHeartbeats 40000000 in
set_option maxRecDepth 100000 in
theorem c_X0_readFlags (l : Launch) (D : va_G) (cB cI cJ cQ : ClassId) (N : Nat) (r0 : Nat → Nat) (r1 : Nat → Nat) (r2 : Nat → Nat) (sz : Nat) (f_columns : Int32) (f_rows : Int32) (f_scale : Int32) (f_toEnd : Int32) (f_between : Int32) (f_kept : Int32) (f_modes : Nat → Int32) (t_size : Int32) (t_position : Int32) (t_fault : Int32) (t_bytes : Nat → Int32) (h_columns : Int32) (h_rows : Int32) (h_limit : Int32) (h_order : Nat → Int32) (o : (Nat → Int32) × Int32 × Int32) (hm0 : f_X0_readFlags f_columns f_rows f_modes t_size t_position t_fault t_bytes h_order = some o) : Met l yX0_readFlags wsX0_readFlags rm_X0_readFlags (ctP D cB cI cJ cQ N sz [.ref (r0 0), .ref (r1 0), .ref (r2 0)] (wf [oB (r0 0) 0 [.ref (r0 1), .ref (r0 2), .ref (r0 3), .ref (r0 4), .ref (r0 5), .ref (r0 6), .int f_columns, .int f_rows, .int f_scale, .int f_toEnd, .int f_between, .int f_kept], aI (r0 1) cI 36 f_modes, oB (r1 0) 4 [.ref (r1 1), .int t_size, .int t_position, .int t_fault], aI (r1 1) cB 6000 t_bytes, oB (r2 0) 1 [.ref (r2 1), .ref (r2 2), .ref (r2 3), .ref (r2 5), .ref (r2 7), .int h_columns, .int h_rows, .int h_limit], aI (r2 7) cI 36 h_order] [])) (ctQv D (wf [oB (r0 0) 0 [.ref (r0 1), .ref (r0 2), .ref (r0 3), .ref (r0 4), .ref (r0 5), .ref (r0 6), .int f_columns, .int f_rows, .int f_scale, .int f_toEnd, .int f_between, .int f_kept], aI (r0 1) cI 36 (o.1), oB (r1 0) 4 [.ref (r1 1), .int t_size, .int (o.2.1), .int (o.2.2)], aI (r1 1) cB 6000 t_bytes, oB (r2 0) 1 [.ref (r2 1), .ref (r2 2), .ref (r2 3), .ref (r2 5), .ref (r2 7), .int h_columns, .int h_rows, .int h_limit], aI (r2 7) cI 36 h_order] []) (va_A (wf [oB (r0 0) 0 [.ref (r0 1), .ref (r0 2), .ref (r0 3), .ref (r0 4), .ref (r0 5), .ref (r0 6), .int f_columns, .int f_rows, .int f_scale, .int f_toEnd, .int f_between, .int f_kept], aI (r0 1) cI 36 f_modes, oB (r1 0) 4 [.ref (r1 1), .int t_size, .int t_position, .int t_fault], aI (r1 1) cB 6000 t_bytes, oB (r2 0) 1 [.ref (r2 1), .ref (r2 2), .ref (r2 3), .ref (r2 5), .ref (r2 7), .int h_columns, .int h_rows, .int h_limit], aI (r2 7) cI 36 h_order] []) sz)) 0 0 (va_A (wf [oB (r0 0) 0 [.ref (r0 1), .ref (r0 2), .ref (r0 3), .ref (r0 4), .ref (r0 5), .ref (r0 6), .int f_columns, .int f_rows, .int f_scale, .int f_toEnd, .int f_between, .int f_kept], aI (r0 1) cI 36 f_modes, oB (r1 0) 4 [.ref (r1 1), .int t_size, .int t_position, .int t_fault], aI (r1 1) cB 6000 t_bytes, oB (r2 0) 1 [.ref (r2 1), .ref (r2 2), .ref (r2 3), .ref (r2 5), .ref (r2 7), .int h_columns, .int h_rows, .int h_limit], aI (r2 7) cI 36 h_order] []) sz) := by
  refine ct_of (cc := cX0_readFlags) (maxL := 7) (ret := none) (own := RX0) (Qp := ctQv D (wf [oB (r0 0) 0 [.ref (r0 1), .ref (r0 2), .ref (r0 3), .ref (r0 4), .ref (r0 5), .ref (r0 6), .int f_columns, .int f_rows, .int f_scale, .int f_toEnd, .int f_between, .int f_kept], aI (r0 1) cI 36 (o.1), oB (r1 0) 4 [.ref (r1 1), .int t_size, .int (o.2.1), .int (o.2.2)], aI (r1 1) cB 6000 t_bytes, oB (r2 0) 1 [.ref (r2 1), .ref (r2 2), .ref (r2 3), .ref (r2 5), .ref (r2 7), .int h_columns, .int h_rows, .int h_limit], aI (r2 7) cI 36 h_order] [])) (by decide) rfl rfl (Nat.le_of_ble_eq_true rfl) ?_
  intro p e s m args below meth c A hx hb hr hml hown hts hlk hnm hsz hAe E hP0 hD0 hS0 ls0 hl0
  subst hsz
  have hl0 : lv_has ls0 7 [(0, .ref (r0 0)), (1, .ref (r1 0)), (2, .ref (r2 0))] := hl0
  obtain ⟨QQ, hQ⟩ : ∃ Q : State → Prop, Q = MQ below (ctQv D (wf [oB (r0 0) 0 [.ref (r0 1), .ref (r0 2), .ref (r0 3), .ref (r0 4), .ref (r0 5), .ref (r0 6), .int f_columns, .int f_rows, .int f_scale, .int f_toEnd, .int f_between, .int f_kept], aI (r0 1) cI 36 (o.1), oB (r1 0) 4 [.ref (r1 1), .int t_size, .int (o.2.1), .int (o.2.2)], aI (r1 1) cB 6000 t_bytes, oB (r2 0) 1 [.ref (r2 1), .ref (r2 2), .ref (r2 3), .ref (r2 5), .ref (r2 7), .int h_columns, .int h_rows, .int h_limit], aI (r2 7) cI 36 h_order] []) A) args s 0 0 A := ⟨_, rfl⟩
  rw [← hQ]
  unfold f_X0_readFlags at hm0
  refine lv_aload_n hx hb dX0_readFlags_0 rfl (lv_at hl0 0 rfl) ?_
  refine va_get (D := D) (ci := 0) (v := .int f_columns) (C := RX0) (T := TX0) (N := 12) hx hb hts hi_X0_readFlags_0 hown E.1 hP0 0 rfl rfl 6 (by decide) (hts _ (List.mem_of_getElem? (i := 1) rfl)) (fun _ h9 => h9) rfl dX0_readFlags_1 ?_
  refine lv_aload_n hx hb dX0_readFlags_4 rfl (lv_at hl0 0 rfl) ?_
  refine va_get (D := D) (ci := 0) (v := .int f_rows) (C := RX0) (T := TX0) (N := 12) hx hb hts hi_X0_readFlags_0 hown E.1 hP0 0 rfl rfl 7 (by decide) (hts _ (List.mem_of_getElem? (i := 2) rfl)) (fun _ h9 => h9) rfl dX0_readFlags_5 ?_
  refine lv_imul hx hb dX0_readFlags_8 ?_
  obtain ⟨v3_1, ev3_1, hm2⟩ := nm_some hm0; clear hm0
  refine ct_topi ev3_1 ?_
  refine lv_istore_n (lv' := [(3, .int v3_1), (0, .ref (r0 0)), (1, .ref (r1 0)), (2, .ref (r2 0))]) hx hb dX0_readFlags_9 rfl hl0 (by decide) rfl (fun ls3 hl3 => ?_); clear hl0
  refine lv_iconst (v := 1) hx hb dX0_readFlags_10 (by decide) ?_
  refine lv_aload_n hx hb dX0_readFlags_11 rfl (lv_at hl3 2 rfl) ?_
  obtain ⟨y_4, t_position_5, t_fault_6, hcl7, hm7⟩ := bd3_some hm2; clear hm2
  have sb8 := ctS.mk (n := 6) (k := 0) (pre := [oB (r0 0) 0 [.ref (r0 1), .ref (r0 2), .ref (r0 3), .ref (r0 4), .ref (r0 5), .ref (r0 6), .int f_columns, .int f_rows, .int f_scale, .int f_toEnd, .int f_between, .int f_kept], aI (r0 1) cI 36 f_modes, oB (r1 0) 4 [.ref (r1 1), .int t_size, .int t_position, .int t_fault], aI (r1 1) cB 6000 t_bytes, oB (r2 0) 1 [.ref (r2 1), .ref (r2 2), .ref (r2 3), .ref (r2 5), .ref (r2 7), .int h_columns, .int h_rows, .int h_limit], aI (r2 7) cI 36 h_order]) (tl := []) [2, 3] [0, 1, 4, 5] [] [] rfl rfl (by decide +kernel) (by decide +kernel)
  refine ct_calli (r := y_4) E sb8 hP0 hD0 hS0 (va_runV (As := []) (rest := [.int (1 : Int32)]) ⟨hx, hb, hml, hown, hts⟩ (c_X4_bit l D cB cI cJ cQ N r1 s.heap.size t_size t_position t_fault t_bytes (y_4, t_position_5, t_fault_6) hcl7) (cwV 0 hts gX0_readFlags_X4_bit rfl rfl rfl cdV_X4_bit ⟨Nat.le_of_ble_eq_true rfl, Nat.le_of_ble_eq_true rfl⟩) (ct_preV (q0 := 2) (ci := 4) E sb8 hP0 hD0 hS0 rfl rfl) rfl rfl hl3.1 rfl (lv_room (Nat.le_of_ble_eq_true rfl)) dX0_readFlags_12 ⟨Nat.zero_le _, Nat.zero_le _⟩) (fun H9 lc9 hP9 hD9 hS9 => ?_); clear sb8 hcl7
  clear hP0 hD0 hS0
  have hP9 : va_P D vwCl (wf [oB (r0 0) 0 [.ref (r0 1), .ref (r0 2), .ref (r0 3), .ref (r0 4), .ref (r0 5), .ref (r0 6), .int f_columns, .int f_rows, .int f_scale, .int f_toEnd, .int f_between, .int f_kept], aI (r0 1) cI 36 f_modes, oB (r2 0) 1 [.ref (r2 1), .ref (r2 2), .ref (r2 3), .ref (r2 5), .ref (r2 7), .int h_columns, .int h_rows, .int h_limit], aI (r2 7) cI 36 h_order, oB (r1 0) 4 [.ref (r1 1), .int t_size, .int t_position_5, .int t_fault_6], aI (r1 1) cB 6000 t_bytes] []) H9 := hP9
  have hD9 : va_D A (wf [oB (r0 0) 0 [.ref (r0 1), .ref (r0 2), .ref (r0 3), .ref (r0 4), .ref (r0 5), .ref (r0 6), .int f_columns, .int f_rows, .int f_scale, .int f_toEnd, .int f_between, .int f_kept], aI (r0 1) cI 36 f_modes, oB (r2 0) 1 [.ref (r2 1), .ref (r2 2), .ref (r2 3), .ref (r2 5), .ref (r2 7), .int h_columns, .int h_rows, .int h_limit], aI (r2 7) cI 36 h_order, oB (r1 0) 4 [.ref (r1 1), .int t_size, .int t_position_5, .int t_fault_6], aI (r1 1) cB 6000 t_bytes] []) := hD9
  refine lv_isub hx hb dX0_readFlags_15 ?_
  obtain ⟨v4_10, ev4_10, hm11⟩ := nm_some hm7; clear hm7
  refine ct_topi ev4_10 ?_
  refine lv_istore (lv' := [(4, .int v4_10), (3, .int v3_1), (0, .ref (r0 0)), (1, .ref (r1 0)), (2, .ref (r2 0))]) hx hb dX0_readFlags_16 hl3 (by decide) rfl (fun ls12 hl12 => ?_); clear hl3
  refine lv_iconst (v := 0) hx hb dX0_readFlags_18 (by decide) ?_
  refine lv_istore (lv' := [(5, .int (0 : Int32)), (4, .int v4_10), (3, .int v3_1), (0, .ref (r0 0)), (1, .ref (r1 0)), (2, .ref (r2 0))]) hx hb dX0_readFlags_19 hl12 (by decide) rfl (fun ls13 hl13 => ?_); clear hl12
  refine lv_iconst (v := 0) hx hb dX0_readFlags_21 (by decide) ?_
  refine lv_istore (lv' := [(6, .int (0 : Int32)), (5, .int (0 : Int32)), (4, .int v4_10), (3, .int v3_1), (0, .ref (r0 0)), (1, .ref (r1 0)), (2, .ref (r2 0))]) hx hb dX0_readFlags_22 hl13 (by decide) rfl (fun ls14 hl14 => ?_); clear hl13
  obtain ⟨f_modes_80, t_position_81, t_fault_82, hlp15, hm83⟩ := bd3_some hm11; clear hm11
  have LP15 : ∀ (n : Nat) (f_modes_16 : Nat → Int32) (t_position_17 : Int32) (t_fault_18 : Int32) (v4_19 : Int32) (v5_20 : Int32) (v6_21 : Int32) (z15 : (Nat → Int32) × Int32 × Int32) (H22 : Heap) (lc22 : List Loc) (ls22 : Array Slot), f_X0_readFlags_L24 t_size t_bytes h_order v3_1 n f_modes_16 t_position_17 t_fault_18 v4_19 v5_20 v6_21 = some z15 → va_P D vwCl (wf [oB (r0 0) 0 [.ref (r0 1), .ref (r0 2), .ref (r0 3), .ref (r0 4), .ref (r0 5), .ref (r0 6), .int f_columns, .int f_rows, .int f_scale, .int f_toEnd, .int f_between, .int f_kept], aI (r0 1) cI 36 f_modes_16, oB (r2 0) 1 [.ref (r2 1), .ref (r2 2), .ref (r2 3), .ref (r2 5), .ref (r2 7), .int h_columns, .int h_rows, .int h_limit], aI (r2 7) cI 36 h_order, oB (r1 0) 4 [.ref (r1 1), .int t_size, .int t_position_17, .int t_fault_18], aI (r1 1) cB 6000 t_bytes] []) H22 → va_D A (wf [oB (r0 0) 0 [.ref (r0 1), .ref (r0 2), .ref (r0 3), .ref (r0 4), .ref (r0 5), .ref (r0 6), .int f_columns, .int f_rows, .int f_scale, .int f_toEnd, .int f_between, .int f_kept], aI (r0 1) cI 36 f_modes_16, oB (r2 0) 1 [.ref (r2 1), .ref (r2 2), .ref (r2 3), .ref (r2 5), .ref (r2 7), .int h_columns, .int h_rows, .int h_limit], aI (r2 7) cI 36 h_order, oB (r1 0) 4 [.ref (r1 1), .int t_size, .int t_position_17, .int t_fault_18], aI (r1 1) cB 6000 t_bytes] []) → va_S A s.heap H22 lc22 → lv_has ls22 7 [(0, .ref (r0 0)), (1, .ref (r1 0)), (2, .ref (r2 0)), (3, .int v3_1), (4, .int v4_19), (5, .int v5_20), (6, .int v6_21)] → (∀ (H : Heap) (lc : List Loc) (ls : Array Slot), va_P D vwCl (wf [oB (r0 0) 0 [.ref (r0 1), .ref (r0 2), .ref (r0 3), .ref (r0 4), .ref (r0 5), .ref (r0 6), .int f_columns, .int f_rows, .int f_scale, .int f_toEnd, .int f_between, .int f_kept], aI (r0 1) cI 36 (z15.1), oB (r2 0) 1 [.ref (r2 1), .ref (r2 2), .ref (r2 3), .ref (r2 5), .ref (r2 7), .int h_columns, .int h_rows, .int h_limit], aI (r2 7) cI 36 h_order, oB (r1 0) 4 [.ref (r1 1), .int t_size, .int (z15.2.1), .int (z15.2.2)], aI (r1 1) cB 6000 t_bytes] []) H → va_D A (wf [oB (r0 0) 0 [.ref (r0 1), .ref (r0 2), .ref (r0 3), .ref (r0 4), .ref (r0 5), .ref (r0 6), .int f_columns, .int f_rows, .int f_scale, .int f_toEnd, .int f_between, .int f_kept], aI (r0 1) cI 36 (z15.1), oB (r2 0) 1 [.ref (r2 1), .ref (r2 2), .ref (r2 3), .ref (r2 5), .ref (r2 7), .int h_columns, .int h_rows, .int h_limit], aI (r2 7) cI 36 h_order, oB (r1 0) 4 [.ref (r1 1), .int t_size, .int (z15.2.1), .int (z15.2.2)], aI (r1 1) cB 6000 t_bytes] []) → va_S A s.heap H lc → lv_has ls 7 [] → W p l e rm_X0_readFlags s m args below meth c H lc 0 0 QQ (F0 m 87 ls [])) → W p l e rm_X0_readFlags s m args below meth c H22 lc22 0 0 QQ (F0 m 24 ls22 []) := by
    intro n
    induction n with
    | zero =>
      intro f_modes_16 t_position_17 t_fault_18 v4_19 v5_20 v6_21 z15 H22 lc22 ls22 hm24; simp [f_X0_readFlags_L24] at hm24
    | succ n ih =>
      intro f_modes_16 t_position_17 t_fault_18 v4_19 v5_20 v6_21 z15 H22 lc22 ls22 hm24 hP22 hD22 hS22 hl22 kx
      rw [f_X0_readFlags_L24] at hm24
      refine lv_iload hx hb dX0_readFlags_24 (lv_at hl22 6 rfl) ?_
      refine lv_iload_n hx hb dX0_readFlags_26 rfl (lv_at hl22 3 rfl) ?_
      refine lv_icmp_ge (tgt := 87) hx hb dX0_readFlags_27 (by decide) (fun hc25 => ?_) (fun hc25 => ?_)
      · have hm26 := bq_t hm24 hc25; clear hm24
        obtain rfl := Option.some.inj hm26
        exact kx _ _ _ hP22 hD22 hS22 (lv_sub hl22 [] rfl)
      · have hm27 := bq_f hm24 hc25; clear hm24
        refine lv_iload hx hb dX0_readFlags_30 (lv_at hl22 5 rfl) ?_
        obtain ⟨k29, ek29, hm29⟩ := jn_some hm27; clear hm27
        have KJ29 : ∀ (t_position_30 : Int32) (t_fault_31 : Int32) (v4_32 : Int32) (v5_33 : Int32) (H34 : Heap) (lc34 : List Loc) (ls34 : Array Slot), k29 t_position_30 t_fault_31 v4_32 v5_33 = some z15 → va_P D vwCl (wf [oB (r0 0) 0 [.ref (r0 1), .ref (r0 2), .ref (r0 3), .ref (r0 4), .ref (r0 5), .ref (r0 6), .int f_columns, .int f_rows, .int f_scale, .int f_toEnd, .int f_between, .int f_kept], aI (r0 1) cI 36 f_modes_16, oB (r2 0) 1 [.ref (r2 1), .ref (r2 2), .ref (r2 3), .ref (r2 5), .ref (r2 7), .int h_columns, .int h_rows, .int h_limit], aI (r2 7) cI 36 h_order, oB (r1 0) 4 [.ref (r1 1), .int t_size, .int t_position_30, .int t_fault_31], aI (r1 1) cB 6000 t_bytes] []) H34 → va_D A (wf [oB (r0 0) 0 [.ref (r0 1), .ref (r0 2), .ref (r0 3), .ref (r0 4), .ref (r0 5), .ref (r0 6), .int f_columns, .int f_rows, .int f_scale, .int f_toEnd, .int f_between, .int f_kept], aI (r0 1) cI 36 f_modes_16, oB (r2 0) 1 [.ref (r2 1), .ref (r2 2), .ref (r2 3), .ref (r2 5), .ref (r2 7), .int h_columns, .int h_rows, .int h_limit], aI (r2 7) cI 36 h_order, oB (r1 0) 4 [.ref (r1 1), .int t_size, .int t_position_30, .int t_fault_31], aI (r1 1) cB 6000 t_bytes] []) → va_S A s.heap H34 lc34 → lv_has ls34 7 [(0, .ref (r0 0)), (1, .ref (r1 0)), (2, .ref (r2 0)), (3, .int v3_1), (4, .int v4_32), (5, .int v5_33), (6, .int v6_21)] → W p l e rm_X0_readFlags s m args below meth c H34 lc34 0 0 QQ (F0 m 61 ls34 []) := by
          intro t_position_30 t_fault_31 v4_32 v5_33 H34 lc34 ls34 hm35 hP34 hD34 hS34 hl34
          rw [ek29] at hm35
          obtain ⟨v5_36, ev5_36, hm37⟩ := nm_some hm35; clear hm35
          refine lv_iinc (v := v5_36) (lv' := [(5, .int v5_36), (0, .ref (r0 0)), (1, .ref (r1 0)), (2, .ref (r2 0)), (3, .int v3_1), (4, .int v4_32), (6, .int v6_21)]) hx hb dX0_readFlags_61 hl34 (k := 5) rfl (by rw [ev5_36]; rfl) (by decide) rfl (fun ls38 hl38 => ?_); clear hl34
          refine lv_iload hx hb dX0_readFlags_64 (lv_at hl38 5 rfl) ?_
          obtain ⟨k40, ek40, hm40⟩ := jn_some hm37; clear hm37
          have KJ40 : ∀ (f_modes_41 : Nat → Int32) (H42 : Heap) (lc42 : List Loc) (ls42 : Array Slot), k40 f_modes_41 = some z15 → va_P D vwCl (wf [oB (r0 0) 0 [.ref (r0 1), .ref (r0 2), .ref (r0 3), .ref (r0 4), .ref (r0 5), .ref (r0 6), .int f_columns, .int f_rows, .int f_scale, .int f_toEnd, .int f_between, .int f_kept], aI (r0 1) cI 36 f_modes_41, oB (r2 0) 1 [.ref (r2 1), .ref (r2 2), .ref (r2 3), .ref (r2 5), .ref (r2 7), .int h_columns, .int h_rows, .int h_limit], aI (r2 7) cI 36 h_order, oB (r1 0) 4 [.ref (r1 1), .int t_size, .int t_position_30, .int t_fault_31], aI (r1 1) cB 6000 t_bytes] []) H42 → va_D A (wf [oB (r0 0) 0 [.ref (r0 1), .ref (r0 2), .ref (r0 3), .ref (r0 4), .ref (r0 5), .ref (r0 6), .int f_columns, .int f_rows, .int f_scale, .int f_toEnd, .int f_between, .int f_kept], aI (r0 1) cI 36 f_modes_41, oB (r2 0) 1 [.ref (r2 1), .ref (r2 2), .ref (r2 3), .ref (r2 5), .ref (r2 7), .int h_columns, .int h_rows, .int h_limit], aI (r2 7) cI 36 h_order, oB (r1 0) 4 [.ref (r1 1), .int t_size, .int t_position_30, .int t_fault_31], aI (r1 1) cB 6000 t_bytes] []) → va_S A s.heap H42 lc42 → lv_has ls42 7 [(0, .ref (r0 0)), (1, .ref (r1 0)), (2, .ref (r2 0)), (3, .int v3_1), (4, .int v4_32), (5, .int v5_36), (6, .int v6_21)] → W p l e rm_X0_readFlags s m args below meth c H42 lc42 0 0 QQ (F0 m 81 ls42 []) := by
            intro f_modes_41 H42 lc42 ls42 hm43 hP42 hD42 hS42 hl42
            rw [ek40] at hm43
            obtain ⟨v6_44, ev6_44, hm45⟩ := nm_some hm43; clear hm43
            refine lv_iinc (v := v6_44) (lv' := [(6, .int v6_44), (0, .ref (r0 0)), (1, .ref (r1 0)), (2, .ref (r2 0)), (3, .int v3_1), (4, .int v4_32), (5, .int v5_36)]) hx hb dX0_readFlags_81 hl42 (k := 6) rfl (by rw [ev6_44]; rfl) (by decide) rfl (fun ls46 hl46 => ?_); clear hl42
            refine lv_goto (tgt := 24) hx hb dX0_readFlags_84 (by decide) ?_
            exact ih f_modes_41 t_position_30 t_fault_31 v4_32 v5_36 v6_44 _ _ _ _ hm45 hP42 hD42 hS42 (lv_sub hl46 [1, 2, 3, 4, 5, 6, 0] rfl) kx
          refine lv_if_ne (tgt := 81) hx hb dX0_readFlags_66 (by decide) (fun hc47 => ?_) (fun hc47 => ?_)
          · have hm48 := bq_f hm40 hc47; clear hm40
            exact KJ40 f_modes_16 _ _ _ hm48 hP34 hD34 hS34 (lv_sub hl38 [1, 2, 3, 4, 5, 0, 6] rfl)
          · have hm49 := bq_t hm40 hc47; clear hm40
            refine lv_aload_n hx hb dX0_readFlags_69 rfl (lv_at hl38 1 rfl) ?_
            refine va_get (D := D) (ci := 0) (v := .ref (r0 1)) (C := RX0) (T := TX0) (N := 12) hx hb hts hi_X0_readFlags_0 hown E.1 hP34 0 rfl rfl 0 (by decide) (hts _ (List.mem_of_getElem? (i := 3) rfl)) (fun _ h9 => h9) rfl dX0_readFlags_70 ?_
            refine lv_aload_n hx hb dX0_readFlags_73 rfl (lv_at hl38 3 rfl) ?_
            refine lv_iload hx hb dX0_readFlags_74 (lv_at hl38 6 rfl) ?_
            obtain ⟨y_50, hcl51, hm51⟩ := bd1_some hm49; clear hm49
            have sb52 := ctS.mk (n := 6) (k := 0) (pre := [oB (r0 0) 0 [.ref (r0 1), .ref (r0 2), .ref (r0 3), .ref (r0 4), .ref (r0 5), .ref (r0 6), .int f_columns, .int f_rows, .int f_scale, .int f_toEnd, .int f_between, .int f_kept], aI (r0 1) cI 36 f_modes_16, oB (r2 0) 1 [.ref (r2 1), .ref (r2 2), .ref (r2 3), .ref (r2 5), .ref (r2 7), .int h_columns, .int h_rows, .int h_limit], aI (r2 7) cI 36 h_order, oB (r1 0) 4 [.ref (r1 1), .int t_size, .int t_position_30, .int t_fault_31], aI (r1 1) cB 6000 t_bytes]) (tl := []) [2, 3] [0, 1, 4, 5] [] [] rfl rfl (by decide +kernel) (by decide +kernel)
            refine ct_calli (r := y_50) E sb52 hP34 hD34 hS34 (va_runV (As := [.int v6_21]) (rest := [.ref (r0 1)]) ⟨hx, hb, hml, hown, hts⟩ (c_X1_ordered l D cB cI cJ cQ N r2 H34.size v6_21 h_columns h_rows h_limit h_order (y_50) hcl51) (cwV 1 hts gX0_readFlags_X1_ordered rfl rfl rfl cdV_X1_ordered ⟨Nat.le_of_ble_eq_true rfl, Nat.le_of_ble_eq_true rfl⟩) (ct_preV (q0 := 2) (ci := 1) E sb52 hP34 hD34 hS34 rfl rfl) rfl rfl hl38.1 rfl (lv_room (Nat.le_of_ble_eq_true rfl)) dX0_readFlags_76 ⟨Nat.zero_le _, Nat.zero_le _⟩) (fun H53 lc53 hP53 hD53 hS53 => ?_); clear sb52 hcl51
            clear hP34 hD34 hS34
            have hP53 : va_P D vwCl (wf [oB (r0 0) 0 [.ref (r0 1), .ref (r0 2), .ref (r0 3), .ref (r0 4), .ref (r0 5), .ref (r0 6), .int f_columns, .int f_rows, .int f_scale, .int f_toEnd, .int f_between, .int f_kept], aI (r0 1) cI 36 f_modes_16, oB (r1 0) 4 [.ref (r1 1), .int t_size, .int t_position_30, .int t_fault_31], aI (r1 1) cB 6000 t_bytes, oB (r2 0) 1 [.ref (r2 1), .ref (r2 2), .ref (r2 3), .ref (r2 5), .ref (r2 7), .int h_columns, .int h_rows, .int h_limit], aI (r2 7) cI 36 h_order] []) H53 := hP53
            have hD53 : va_D A (wf [oB (r0 0) 0 [.ref (r0 1), .ref (r0 2), .ref (r0 3), .ref (r0 4), .ref (r0 5), .ref (r0 6), .int f_columns, .int f_rows, .int f_scale, .int f_toEnd, .int f_between, .int f_kept], aI (r0 1) cI 36 f_modes_16, oB (r1 0) 4 [.ref (r1 1), .int t_size, .int t_position_30, .int t_fault_31], aI (r1 1) cB 6000 t_bytes, oB (r2 0) 1 [.ref (r2 1), .ref (r2 2), .ref (r2 3), .ref (r2 5), .ref (r2 7), .int h_columns, .int h_rows, .int h_limit], aI (r2 7) cI 36 h_order] []) := hD53
            refine lv_iconst (v := 0) hx hb dX0_readFlags_79 (by decide) ?_
            obtain ⟨hin54, hm54⟩ := gi_some hm51; clear hm51
            obtain ⟨f_modes_55, ef_modes_55, hm56⟩ := nm_some hm54; clear hm54
            refine ct_iast (g := f_modes_55) (ws' := (wf [oB (r0 0) 0 [.ref (r0 1), .ref (r0 2), .ref (r0 3), .ref (r0 4), .ref (r0 5), .ref (r0 6), .int f_columns, .int f_rows, .int f_scale, .int f_toEnd, .int f_between, .int f_kept], aI (r0 1) cI 36 f_modes_55, oB (r1 0) 4 [.ref (r1 1), .int t_size, .int t_position_30, .int t_fault_31], aI (r1 1) cB 6000 t_bytes, oB (r2 0) 1 [.ref (r2 1), .ref (r2 2), .ref (r2 3), .ref (r2 5), .ref (r2 7), .int h_columns, .int h_rows, .int h_limit], aI (r2 7) cI 36 h_order] [])) hx hb E.1 hP53 hD53 hS53 1 0 rfl rfl hin54 ef_modes_55 rfl dX0_readFlags_80 (fun H57 lc57 hP57 hD57 hS57 => ?_)
            clear hP53 hD53 hS53
            obtain ⟨hP58, hD58⟩ := ct_ord (n := 6) (k := 0) [0, 1, 4, 5, 2, 3] [] hP57 hD57 rfl rfl (by decide +kernel) (by decide +kernel)
            have hS58 := hS57
            have hP58 : va_P D vwCl (wf [oB (r0 0) 0 [.ref (r0 1), .ref (r0 2), .ref (r0 3), .ref (r0 4), .ref (r0 5), .ref (r0 6), .int f_columns, .int f_rows, .int f_scale, .int f_toEnd, .int f_between, .int f_kept], aI (r0 1) cI 36 f_modes_55, oB (r2 0) 1 [.ref (r2 1), .ref (r2 2), .ref (r2 3), .ref (r2 5), .ref (r2 7), .int h_columns, .int h_rows, .int h_limit], aI (r2 7) cI 36 h_order, oB (r1 0) 4 [.ref (r1 1), .int t_size, .int t_position_30, .int t_fault_31], aI (r1 1) cB 6000 t_bytes] []) H57 := hP58
            have hD58 : va_D A (wf [oB (r0 0) 0 [.ref (r0 1), .ref (r0 2), .ref (r0 3), .ref (r0 4), .ref (r0 5), .ref (r0 6), .int f_columns, .int f_rows, .int f_scale, .int f_toEnd, .int f_between, .int f_kept], aI (r0 1) cI 36 f_modes_55, oB (r2 0) 1 [.ref (r2 1), .ref (r2 2), .ref (r2 3), .ref (r2 5), .ref (r2 7), .int h_columns, .int h_rows, .int h_limit], aI (r2 7) cI 36 h_order, oB (r1 0) 4 [.ref (r1 1), .int t_size, .int t_position_30, .int t_fault_31], aI (r1 1) cB 6000 t_bytes] []) := hD58
            exact KJ40 f_modes_55 _ _ _ hm56 hP58 hD58 hS58 (lv_sub hl38 [1, 2, 3, 4, 5, 0, 6] rfl)
        refine lv_if_ne (tgt := 61) hx hb dX0_readFlags_32 (by decide) (fun hc59 => ?_) (fun hc59 => ?_)
        · have hm60 := bq_f hm29 hc59; clear hm29
          exact KJ29 t_position_17 t_fault_18 v4_19 v5_20 _ _ _ hm60 hP22 hD22 hS22 (lv_sub hl22 [0, 1, 2, 3, 4, 5, 6] rfl)
        · have hm61 := bq_t hm29 hc59; clear hm29
          refine lv_aload_n hx hb dX0_readFlags_35 rfl (lv_at hl22 1 rfl) ?_
          obtain ⟨y_62, t_position_63, t_fault_64, hcl65, hm65⟩ := bd3_some hm61; clear hm61
          have sb66 := ctS.mk (n := 6) (k := 0) (pre := [oB (r0 0) 0 [.ref (r0 1), .ref (r0 2), .ref (r0 3), .ref (r0 4), .ref (r0 5), .ref (r0 6), .int f_columns, .int f_rows, .int f_scale, .int f_toEnd, .int f_between, .int f_kept], aI (r0 1) cI 36 f_modes_16, oB (r2 0) 1 [.ref (r2 1), .ref (r2 2), .ref (r2 3), .ref (r2 5), .ref (r2 7), .int h_columns, .int h_rows, .int h_limit], aI (r2 7) cI 36 h_order, oB (r1 0) 4 [.ref (r1 1), .int t_size, .int t_position_17, .int t_fault_18], aI (r1 1) cB 6000 t_bytes]) (tl := []) [4, 5] [0, 1, 2, 3] [] [] rfl rfl (by decide +kernel) (by decide +kernel)
          refine ct_calli (r := y_62) E sb66 hP22 hD22 hS22 (va_runS (As := [.ref (r1 0)]) (rest := []) ⟨hx, hb, hml, hown, hts⟩ (c_X0_readRun l D cB cI cJ cQ N r1 H22.size t_size t_position_17 t_fault_18 t_bytes (y_62, t_position_63, t_fault_64) hcl65) (va_cwS 1 hts gX0_readFlags_X0_readRun rfl rfl rfl cdS_X0_readRun ⟨Nat.le_of_ble_eq_true rfl, Nat.le_of_ble_eq_true rfl⟩) (ct_preS E sb66 hP22 hD22 hS22) rfl rfl hl22.1 rfl (lv_room (Nat.le_of_ble_eq_true rfl)) dX0_readFlags_36 ⟨Nat.zero_le _, Nat.zero_le _⟩) (fun H67 lc67 hP67 hD67 hS67 => ?_); clear sb66 hcl65
          clear hP22 hD22 hS22
          have hP67 : va_P D vwCl (wf [oB (r0 0) 0 [.ref (r0 1), .ref (r0 2), .ref (r0 3), .ref (r0 4), .ref (r0 5), .ref (r0 6), .int f_columns, .int f_rows, .int f_scale, .int f_toEnd, .int f_between, .int f_kept], aI (r0 1) cI 36 f_modes_16, oB (r2 0) 1 [.ref (r2 1), .ref (r2 2), .ref (r2 3), .ref (r2 5), .ref (r2 7), .int h_columns, .int h_rows, .int h_limit], aI (r2 7) cI 36 h_order, oB (r1 0) 4 [.ref (r1 1), .int t_size, .int t_position_63, .int t_fault_64], aI (r1 1) cB 6000 t_bytes] []) H67 := hP67
          have hD67 : va_D A (wf [oB (r0 0) 0 [.ref (r0 1), .ref (r0 2), .ref (r0 3), .ref (r0 4), .ref (r0 5), .ref (r0 6), .int f_columns, .int f_rows, .int f_scale, .int f_toEnd, .int f_between, .int f_kept], aI (r0 1) cI 36 f_modes_16, oB (r2 0) 1 [.ref (r2 1), .ref (r2 2), .ref (r2 3), .ref (r2 5), .ref (r2 7), .int h_columns, .int h_rows, .int h_limit], aI (r2 7) cI 36 h_order, oB (r1 0) 4 [.ref (r1 1), .int t_size, .int t_position_63, .int t_fault_64], aI (r1 1) cB 6000 t_bytes] []) := hD67
          refine lv_istore (lv' := [(5, .int y_62), (0, .ref (r0 0)), (1, .ref (r1 0)), (2, .ref (r2 0)), (3, .int v3_1), (4, .int v4_19), (6, .int v6_21)]) hx hb dX0_readFlags_39 hl22 (by decide) rfl (fun ls68 hl68 => ?_); clear hl22
          refine lv_iconst (v := 1) hx hb dX0_readFlags_41 (by decide) ?_
          refine lv_iload hx hb dX0_readFlags_42 (lv_at hl68 5 rfl) ?_
          refine lv_isub hx hb dX0_readFlags_44 ?_
          obtain ⟨v4_69, ev4_69, hm70⟩ := nm_some hm65; clear hm65
          refine ct_topi ev4_69 ?_
          refine lv_istore (lv' := [(4, .int v4_69), (5, .int y_62), (0, .ref (r0 0)), (1, .ref (r1 0)), (2, .ref (r2 0)), (3, .int v3_1), (6, .int v6_21)]) hx hb dX0_readFlags_45 hl68 (by decide) rfl (fun ls71 hl71 => ?_); clear hl68
          refine lv_iload hx hb dX0_readFlags_47 (lv_at hl71 1 rfl) ?_
          refine lv_iload_n hx hb dX0_readFlags_49 rfl (lv_at hl71 5 rfl) ?_
          refine lv_iload hx hb dX0_readFlags_50 (lv_at hl71 6 rfl) ?_
          refine lv_isub hx hb dX0_readFlags_52 ?_
          refine lv_icmp_le (tgt := 61) hx hb dX0_readFlags_53 (by decide) (fun hc72 => ?_) (fun hc72 => ?_)
          · have hm73 := bq_t hm70 hc72; clear hm70
            exact KJ29 t_position_63 t_fault_64 v4_69 y_62 _ _ _ hm73 hP67 hD67 hS67 (lv_sub hl71 [2, 3, 4, 5, 0, 1, 6] rfl)
          · have hm74 := bq_f hm70 hc72; clear hm70
            refine lv_aload_n hx hb dX0_readFlags_56 rfl (lv_at hl71 3 rfl) ?_
            refine lv_iconst (v := 5) hx hb dX0_readFlags_57 (by decide) ?_
            obtain ⟨t_fault_75, hcl76, hm76⟩ := bd1_some hm74; clear hm74
            have sb77 := ctS.mk (n := 6) (k := 0) (pre := [oB (r0 0) 0 [.ref (r0 1), .ref (r0 2), .ref (r0 3), .ref (r0 4), .ref (r0 5), .ref (r0 6), .int f_columns, .int f_rows, .int f_scale, .int f_toEnd, .int f_between, .int f_kept], aI (r0 1) cI 36 f_modes_16, oB (r2 0) 1 [.ref (r2 1), .ref (r2 2), .ref (r2 3), .ref (r2 5), .ref (r2 7), .int h_columns, .int h_rows, .int h_limit], aI (r2 7) cI 36 h_order, oB (r1 0) 4 [.ref (r1 1), .int t_size, .int t_position_63, .int t_fault_64], aI (r1 1) cB 6000 t_bytes]) (tl := []) [4] [0, 1, 2, 3, 5] [] [] rfl rfl (by decide +kernel) (by decide +kernel)
            refine ct_callv E sb77 hP67 hD67 hS67 (va_runV (As := [.int (5 : Int32)]) (rest := []) ⟨hx, hb, hml, hown, hts⟩ (c_X4_fail l D cB cI cJ cQ N r1 H67.size (5 : Int32) t_size t_position_63 t_fault_64 (t_fault_75) hcl76) (cwV 1 hts gX0_readFlags_X4_fail rfl rfl rfl cdV_X4_fail ⟨Nat.le_of_ble_eq_true rfl, Nat.le_of_ble_eq_true rfl⟩) (ct_preV (q0 := 4) (ci := 4) E sb77 hP67 hD67 hS67 rfl rfl) rfl rfl hl71.1 rfl (lv_room (Nat.le_of_ble_eq_true rfl)) dX0_readFlags_58 ⟨Nat.zero_le _, Nat.zero_le _⟩) (fun H78 lc78 hP78 hD78 hS78 => ?_); clear sb77 hcl76
            clear hP67 hD67 hS67
            have hP78 : va_P D vwCl (wf [oB (r0 0) 0 [.ref (r0 1), .ref (r0 2), .ref (r0 3), .ref (r0 4), .ref (r0 5), .ref (r0 6), .int f_columns, .int f_rows, .int f_scale, .int f_toEnd, .int f_between, .int f_kept], aI (r0 1) cI 36 f_modes_16, oB (r2 0) 1 [.ref (r2 1), .ref (r2 2), .ref (r2 3), .ref (r2 5), .ref (r2 7), .int h_columns, .int h_rows, .int h_limit], aI (r2 7) cI 36 h_order, aI (r1 1) cB 6000 t_bytes, oB (r1 0) 4 [.ref (r1 1), .int t_size, .int t_position_63, .int t_fault_75]] []) H78 := hP78
            have hD78 : va_D A (wf [oB (r0 0) 0 [.ref (r0 1), .ref (r0 2), .ref (r0 3), .ref (r0 4), .ref (r0 5), .ref (r0 6), .int f_columns, .int f_rows, .int f_scale, .int f_toEnd, .int f_between, .int f_kept], aI (r0 1) cI 36 f_modes_16, oB (r2 0) 1 [.ref (r2 1), .ref (r2 2), .ref (r2 3), .ref (r2 5), .ref (r2 7), .int h_columns, .int h_rows, .int h_limit], aI (r2 7) cI 36 h_order, aI (r1 1) cB 6000 t_bytes, oB (r1 0) 4 [.ref (r1 1), .int t_size, .int t_position_63, .int t_fault_75]] []) := hD78
            obtain ⟨hP79, hD79⟩ := ct_ord (n := 6) (k := 0) [0, 1, 2, 3, 5, 4] [] hP78 hD78 rfl rfl (by decide +kernel) (by decide +kernel)
            have hS79 := hS78
            have hP79 : va_P D vwCl (wf [oB (r0 0) 0 [.ref (r0 1), .ref (r0 2), .ref (r0 3), .ref (r0 4), .ref (r0 5), .ref (r0 6), .int f_columns, .int f_rows, .int f_scale, .int f_toEnd, .int f_between, .int f_kept], aI (r0 1) cI 36 f_modes_16, oB (r2 0) 1 [.ref (r2 1), .ref (r2 2), .ref (r2 3), .ref (r2 5), .ref (r2 7), .int h_columns, .int h_rows, .int h_limit], aI (r2 7) cI 36 h_order, oB (r1 0) 4 [.ref (r1 1), .int t_size, .int t_position_63, .int t_fault_75], aI (r1 1) cB 6000 t_bytes] []) H78 := hP79
            have hD79 : va_D A (wf [oB (r0 0) 0 [.ref (r0 1), .ref (r0 2), .ref (r0 3), .ref (r0 4), .ref (r0 5), .ref (r0 6), .int f_columns, .int f_rows, .int f_scale, .int f_toEnd, .int f_between, .int f_kept], aI (r0 1) cI 36 f_modes_16, oB (r2 0) 1 [.ref (r2 1), .ref (r2 2), .ref (r2 3), .ref (r2 5), .ref (r2 7), .int h_columns, .int h_rows, .int h_limit], aI (r2 7) cI 36 h_order, oB (r1 0) 4 [.ref (r1 1), .int t_size, .int t_position_63, .int t_fault_75], aI (r1 1) cB 6000 t_bytes] []) := hD79
            exact KJ29 t_position_63 t_fault_75 v4_69 y_62 _ _ _ hm76 hP79 hD79 hS79 (lv_sub hl71 [2, 3, 4, 5, 0, 1, 6] rfl)
  refine LP15 4000 f_modes t_position_5 t_fault_6 v4_10 (0 : Int32) (0 : Int32) (f_modes_80, t_position_81, t_fault_82) _ _ _ hlp15 hP9 hD9 hS9 (lv_sub hl14 [4, 5, 6, 3, 2, 1, 0] rfl) (fun H84 lc84 ls84 hP84 hD84 hS84 hl84 => ?_); clear LP15 hlp15
  clear hP9 hD9 hS9
  have hl84 : lv_has ls84 7 [] := hl84
  have hP84 : va_P D vwCl (wf [oB (r0 0) 0 [.ref (r0 1), .ref (r0 2), .ref (r0 3), .ref (r0 4), .ref (r0 5), .ref (r0 6), .int f_columns, .int f_rows, .int f_scale, .int f_toEnd, .int f_between, .int f_kept], aI (r0 1) cI 36 f_modes_80, oB (r2 0) 1 [.ref (r2 1), .ref (r2 2), .ref (r2 3), .ref (r2 5), .ref (r2 7), .int h_columns, .int h_rows, .int h_limit], aI (r2 7) cI 36 h_order, oB (r1 0) 4 [.ref (r1 1), .int t_size, .int t_position_81, .int t_fault_82], aI (r1 1) cB 6000 t_bytes] []) H84 := hP84
  have hD84 : va_D A (wf [oB (r0 0) 0 [.ref (r0 1), .ref (r0 2), .ref (r0 3), .ref (r0 4), .ref (r0 5), .ref (r0 6), .int f_columns, .int f_rows, .int f_scale, .int f_toEnd, .int f_between, .int f_kept], aI (r0 1) cI 36 f_modes_80, oB (r2 0) 1 [.ref (r2 1), .ref (r2 2), .ref (r2 3), .ref (r2 5), .ref (r2 7), .int h_columns, .int h_rows, .int h_limit], aI (r2 7) cI 36 h_order, oB (r1 0) 4 [.ref (r1 1), .int t_size, .int t_position_81, .int t_fault_82], aI (r1 1) cB 6000 t_bytes] []) := hD84
  obtain ⟨hP85, hD85⟩ := ct_ord (n := 6) (k := 0) [0, 1, 4, 5, 2, 3] [] hP84 hD84 rfl rfl (by decide +kernel) (by decide +kernel)
  have hS85 := hS84
  have hP85 : va_P D vwCl (wf [oB (r0 0) 0 [.ref (r0 1), .ref (r0 2), .ref (r0 3), .ref (r0 4), .ref (r0 5), .ref (r0 6), .int f_columns, .int f_rows, .int f_scale, .int f_toEnd, .int f_between, .int f_kept], aI (r0 1) cI 36 f_modes_80, oB (r1 0) 4 [.ref (r1 1), .int t_size, .int t_position_81, .int t_fault_82], aI (r1 1) cB 6000 t_bytes, oB (r2 0) 1 [.ref (r2 1), .ref (r2 2), .ref (r2 3), .ref (r2 5), .ref (r2 7), .int h_columns, .int h_rows, .int h_limit], aI (r2 7) cI 36 h_order] []) H84 := hP85
  have hD85 : va_D A (wf [oB (r0 0) 0 [.ref (r0 1), .ref (r0 2), .ref (r0 3), .ref (r0 4), .ref (r0 5), .ref (r0 6), .int f_columns, .int f_rows, .int f_scale, .int f_toEnd, .int f_between, .int f_kept], aI (r0 1) cI 36 f_modes_80, oB (r1 0) 4 [.ref (r1 1), .int t_size, .int t_position_81, .int t_fault_82], aI (r1 1) cB 6000 t_bytes, oB (r2 0) 1 [.ref (r2 1), .ref (r2 2), .ref (r2 3), .ref (r2 5), .ref (r2 7), .int h_columns, .int h_rows, .int h_limit], aI (r2 7) cI 36 h_order] []) := hD85
  obtain rfl := Option.some.inj hm83
  rw [hQ]
  exact ct_vret hx hb hr hlk hP85 hD85 hS85 dX0_readFlags_87

def f_X0_readMove (t_size : Int32) (t_position : Int32) (t_fault : Int32) (t_bytes : Nat → Int32) : Option (Int32 × Int32 × Int32) :=
  bd3 (f_X4_number (5 : Int32) t_size t_position t_fault t_bytes) fun y_1 t_position_2 t_fault_3 =>
  bd3 (f_X4_bit t_size t_position_2 t_fault_3 t_bytes) fun y_8 t_position_9 t_fault_10 =>
  (if y_8 = (1 : Int32) then
  (some ((-y_1), t_position_9, t_fault_10))
  else
  (some (y_1, t_position_9, t_fault_10)))

abbrev rm_X0_readMove : Room := { frames := 3, cells := 0, slots := 0, locals := 65 }

theorem cdS_X0_readMove : yX0_readMove.cls ≠ "java/lang/invoke/MethodHandle" ∧ yX0_readMove.cls ≠ "java/lang/invoke/VarHandle" ∧ (parseMethodDescriptor yX0_readMove.desc).map (fun d => d.parameters.length) = some 1 := by decide +kernel

set_option maxHeartbeats 40000000 in
set_option maxRecDepth 100000 in
theorem c_X0_readMove (l : Launch) (D : va_G) (cB cI cJ cQ : ClassId) (N : Nat) (r0 : Nat → Nat) (sz : Nat) (t_size : Int32) (t_position : Int32) (t_fault : Int32) (t_bytes : Nat → Int32) (o : Int32 × Int32 × Int32) (hm0 : f_X0_readMove t_size t_position t_fault t_bytes = some o) : Met l yX0_readMove wsX0_readMove rm_X0_readMove (ctP D cB cI cJ cQ N sz [.ref (r0 0)] (wf [oB (r0 0) 4 [.ref (r0 1), .int t_size, .int t_position, .int t_fault], aI (r0 1) cB 6000 t_bytes] [])) (ctQi D (o.1) (wf [oB (r0 0) 4 [.ref (r0 1), .int t_size, .int (o.2.1), .int (o.2.2)], aI (r0 1) cB 6000 t_bytes] []) (va_A (wf [oB (r0 0) 4 [.ref (r0 1), .int t_size, .int t_position, .int t_fault], aI (r0 1) cB 6000 t_bytes] []) sz)) 0 0 (va_A (wf [oB (r0 0) 4 [.ref (r0 1), .int t_size, .int t_position, .int t_fault], aI (r0 1) cB 6000 t_bytes] []) sz) := by
  refine ct_of (cc := cX0_readMove) (maxL := 2) (ret := (some .int)) (own := RX0) (Qp := ctQi D (o.1) (wf [oB (r0 0) 4 [.ref (r0 1), .int t_size, .int (o.2.1), .int (o.2.2)], aI (r0 1) cB 6000 t_bytes] [])) (by decide) rfl rfl (Nat.le_of_ble_eq_true rfl) ?_
  intro p e s m args below meth c A hx hb hr hml hown hts hlk hnm hsz hAe E hP0 hD0 hS0 ls0 hl0
  subst hsz
  have hl0 : lv_has ls0 2 [(0, .ref (r0 0))] := hl0
  obtain ⟨QQ, hQ⟩ : ∃ Q : State → Prop, Q = MQ below (ctQi D (o.1) (wf [oB (r0 0) 4 [.ref (r0 1), .int t_size, .int (o.2.1), .int (o.2.2)], aI (r0 1) cB 6000 t_bytes] []) A) args s 0 0 A := ⟨_, rfl⟩
  rw [← hQ]
  unfold f_X0_readMove at hm0
  refine lv_aload_n hx hb dX0_readMove_0 rfl (lv_at hl0 0 rfl) ?_
  refine lv_iconst (v := 5) hx hb dX0_readMove_1 (by decide) ?_
  obtain ⟨y_1, t_position_2, t_fault_3, hcl4, hm4⟩ := bd3_some hm0; clear hm0
  have sb5 := ctS.mk (n := 2) (k := 0) (pre := [oB (r0 0) 4 [.ref (r0 1), .int t_size, .int t_position, .int t_fault], aI (r0 1) cB 6000 t_bytes]) (tl := []) [0, 1] [] [] [] rfl rfl (by decide +kernel) (by decide +kernel)
  refine ct_calli (r := y_1) E sb5 hP0 hD0 hS0 (va_runV (As := [.int (5 : Int32)]) (rest := []) ⟨hx, hb, hml, hown, hts⟩ (c_X4_number l D cB cI cJ cQ N r0 s.heap.size (5 : Int32) t_size t_position t_fault t_bytes (y_1, t_position_2, t_fault_3) hcl4) (cwV 1 hts gX0_readMove_X4_number rfl rfl rfl cdV_X4_number ⟨Nat.le_of_ble_eq_true rfl, Nat.le_of_ble_eq_true rfl⟩) (ct_preV (q0 := 0) (ci := 4) E sb5 hP0 hD0 hS0 rfl rfl) rfl rfl hl0.1 rfl (lv_room (Nat.le_of_ble_eq_true rfl)) dX0_readMove_2 ⟨Nat.zero_le _, Nat.zero_le _⟩) (fun H6 lc6 hP6 hD6 hS6 => ?_); clear sb5 hcl4
  clear hP0 hD0 hS0
  have hP6 : va_P D vwCl (wf [oB (r0 0) 4 [.ref (r0 1), .int t_size, .int t_position_2, .int t_fault_3], aI (r0 1) cB 6000 t_bytes] []) H6 := hP6
  have hD6 : va_D A (wf [oB (r0 0) 4 [.ref (r0 1), .int t_size, .int t_position_2, .int t_fault_3], aI (r0 1) cB 6000 t_bytes] []) := hD6
  refine lv_istore_n (lv' := [(1, .int y_1), (0, .ref (r0 0))]) hx hb dX0_readMove_5 rfl hl0 (by decide) rfl (fun ls7 hl7 => ?_); clear hl0
  refine lv_aload_n hx hb dX0_readMove_6 rfl (lv_at hl7 1 rfl) ?_
  obtain ⟨y_8, t_position_9, t_fault_10, hcl11, hm11⟩ := bd3_some hm4; clear hm4
  have sb12 := ctS.mk (n := 2) (k := 0) (pre := [oB (r0 0) 4 [.ref (r0 1), .int t_size, .int t_position_2, .int t_fault_3], aI (r0 1) cB 6000 t_bytes]) (tl := []) [0, 1] [] [] [] rfl rfl (by decide +kernel) (by decide +kernel)
  refine ct_calli (r := y_8) E sb12 hP6 hD6 hS6 (va_runV (As := []) (rest := []) ⟨hx, hb, hml, hown, hts⟩ (c_X4_bit l D cB cI cJ cQ N r0 H6.size t_size t_position_2 t_fault_3 t_bytes (y_8, t_position_9, t_fault_10) hcl11) (cwV 0 hts gX0_readMove_X4_bit rfl rfl rfl cdV_X4_bit ⟨Nat.le_of_ble_eq_true rfl, Nat.le_of_ble_eq_true rfl⟩) (ct_preV (q0 := 0) (ci := 4) E sb12 hP6 hD6 hS6 rfl rfl) rfl rfl hl7.1 rfl (lv_room (Nat.le_of_ble_eq_true rfl)) dX0_readMove_7 ⟨Nat.zero_le _, Nat.zero_le _⟩) (fun H13 lc13 hP13 hD13 hS13 => ?_); clear sb12 hcl11
  clear hP6 hD6 hS6
  have hP13 : va_P D vwCl (wf [oB (r0 0) 4 [.ref (r0 1), .int t_size, .int t_position_9, .int t_fault_10], aI (r0 1) cB 6000 t_bytes] []) H13 := hP13
  have hD13 : va_D A (wf [oB (r0 0) 4 [.ref (r0 1), .int t_size, .int t_position_9, .int t_fault_10], aI (r0 1) cB 6000 t_bytes] []) := hD13
  refine lv_iconst (v := 1) hx hb dX0_readMove_10 (by decide) ?_
  refine lv_icmp_ne (tgt := 19) hx hb dX0_readMove_11 (by decide) (fun hc14 => ?_) (fun hc14 => ?_)
  · have hm15 := bq_f hm11 hc14; clear hm11
    refine lv_iload_n hx hb dX0_readMove_19 rfl (lv_at hl7 0 rfl) ?_
    obtain rfl := Option.some.inj hm15
    rw [hQ]
    exact ct_iret hx hb hr hlk hP13 hD13 hS13 rfl dX0_readMove_20
  · have hm16 := bq_t hm11 hc14; clear hm11
    refine lv_iload_n hx hb dX0_readMove_14 rfl (lv_at hl7 0 rfl) ?_
    refine lv_ineg hx hb dX0_readMove_15 ?_
    refine lv_goto (tgt := 20) hx hb dX0_readMove_16 (by decide) ?_
    obtain rfl := Option.some.inj hm16
    rw [hQ]
    exact ct_iret hx hb hr hlk hP13 hD13 hS13 rfl dX0_readMove_20

def f_X0_setMoved (x1 : Int32) (x2 : Int32) (x3 : Int32) (f_modes : Nat → Int32) (f_across : Nat → Int32) (f_down : Nat → Int32) : Option ((Nat → Int32) × (Nat → Int32) × (Nat → Int32)) :=
  gi x1 36 <|
  nm (upd f_modes x1.toNatClampNeg (3 : Int32) : Nat → Int32) fun f_modes_2 =>
  gi x1 36 <|
  nm (upd f_across x1.toNatClampNeg x2 : Nat → Int32) fun f_across_6 =>
  gi x1 36 <|
  nm (upd f_down x1.toNatClampNeg x3 : Nat → Int32) fun f_down_10 =>
  some (f_modes_2, f_across_6, f_down_10)

abbrev rm_X0_setMoved : Room := { frames := 0, cells := 0, slots := 0, locals := 0 }

theorem cdS_X0_setMoved : yX0_setMoved.cls ≠ "java/lang/invoke/MethodHandle" ∧ yX0_setMoved.cls ≠ "java/lang/invoke/VarHandle" ∧ (parseMethodDescriptor yX0_setMoved.desc).map (fun d => d.parameters.length) = some 3 := by decide +kernel

theorem cdV_X0_setMoved : yX0_setMoved.cls = RX0 ∧ yX0_setMoved.cls ≠ "java/lang/invoke/MethodHandle" ∧ yX0_setMoved.cls ≠ "java/lang/invoke/VarHandle" ∧ (parseMethodDescriptor yX0_setMoved.desc).map (fun d => d.parameters.length) = some 3 := ⟨rfl, cdS_X0_setMoved⟩

theorem hi_X0_setMoved_0 : ∀ w ∈ u_ws RX0 TX0 12, w ∈ wsX0_setMoved := fun _ h => List.mem_cons_of_mem _ (List.mem_append_right _ h)

set_option maxHeartbeats 40000000 in
set_option maxRecDepth 100000 in
theorem c_X0_setMoved (l : Launch) (D : va_G) (cB cI cJ cQ : ClassId) (N : Nat) (r0 : Nat → Nat) (sz : Nat) (x1 : Int32) (x2 : Int32) (x3 : Int32) (f_columns : Int32) (f_rows : Int32) (f_scale : Int32) (f_toEnd : Int32) (f_between : Int32) (f_kept : Int32) (f_modes : Nat → Int32) (f_across : Nat → Int32) (f_down : Nat → Int32) (o : (Nat → Int32) × (Nat → Int32) × (Nat → Int32)) (hm0 : f_X0_setMoved x1 x2 x3 f_modes f_across f_down = some o) : Met l yX0_setMoved wsX0_setMoved rm_X0_setMoved (ctP D cB cI cJ cQ N sz [.ref (r0 0), .int x1, .int x2, .int x3] (wf [oB (r0 0) 0 [.ref (r0 1), .ref (r0 2), .ref (r0 3), .ref (r0 4), .ref (r0 5), .ref (r0 6), .int f_columns, .int f_rows, .int f_scale, .int f_toEnd, .int f_between, .int f_kept], aI (r0 1) cI 36 f_modes, aI (r0 2) cI 36 f_across, aI (r0 3) cI 36 f_down] [])) (ctQv D (wf [oB (r0 0) 0 [.ref (r0 1), .ref (r0 2), .ref (r0 3), .ref (r0 4), .ref (r0 5), .ref (r0 6), .int f_columns, .int f_rows, .int f_scale, .int f_toEnd, .int f_between, .int f_kept], aI (r0 1) cI 36 (o.1), aI (r0 2) cI 36 (o.2.1), aI (r0 3) cI 36 (o.2.2)] []) (va_A (wf [oB (r0 0) 0 [.ref (r0 1), .ref (r0 2), .ref (r0 3), .ref (r0 4), .ref (r0 5), .ref (r0 6), .int f_columns, .int f_rows, .int f_scale, .int f_toEnd, .int f_between, .int f_kept], aI (r0 1) cI 36 f_modes, aI (r0 2) cI 36 f_across, aI (r0 3) cI 36 f_down] []) sz)) 0 0 (va_A (wf [oB (r0 0) 0 [.ref (r0 1), .ref (r0 2), .ref (r0 3), .ref (r0 4), .ref (r0 5), .ref (r0 6), .int f_columns, .int f_rows, .int f_scale, .int f_toEnd, .int f_between, .int f_kept], aI (r0 1) cI 36 f_modes, aI (r0 2) cI 36 f_across, aI (r0 3) cI 36 f_down] []) sz) := by
  refine ct_of (cc := cX0_setMoved) (maxL := 4) (ret := none) (own := RX0) (Qp := ctQv D (wf [oB (r0 0) 0 [.ref (r0 1), .ref (r0 2), .ref (r0 3), .ref (r0 4), .ref (r0 5), .ref (r0 6), .int f_columns, .int f_rows, .int f_scale, .int f_toEnd, .int f_between, .int f_kept], aI (r0 1) cI 36 (o.1), aI (r0 2) cI 36 (o.2.1), aI (r0 3) cI 36 (o.2.2)] [])) (by decide) rfl rfl (Nat.le_of_ble_eq_true rfl) ?_
  intro p e s m args below meth c A hx hb hr hml hown hts hlk hnm hsz hAe E hP0 hD0 hS0 ls0 hl0
  subst hsz
  have hl0 : lv_has ls0 4 [(0, .ref (r0 0)), (1, .int x1), (2, .int x2), (3, .int x3)] := hl0
  obtain ⟨QQ, hQ⟩ : ∃ Q : State → Prop, Q = MQ below (ctQv D (wf [oB (r0 0) 0 [.ref (r0 1), .ref (r0 2), .ref (r0 3), .ref (r0 4), .ref (r0 5), .ref (r0 6), .int f_columns, .int f_rows, .int f_scale, .int f_toEnd, .int f_between, .int f_kept], aI (r0 1) cI 36 (o.1), aI (r0 2) cI 36 (o.2.1), aI (r0 3) cI 36 (o.2.2)] []) A) args s 0 0 A := ⟨_, rfl⟩
  rw [← hQ]
  unfold f_X0_setMoved at hm0
  refine lv_aload_n hx hb dX0_setMoved_0 rfl (lv_at hl0 0 rfl) ?_
  refine va_get (D := D) (ci := 0) (v := .ref (r0 1)) (C := RX0) (T := TX0) (N := 12) hx hb hts hi_X0_setMoved_0 hown E.1 hP0 0 rfl rfl 0 (by decide) (hts _ (List.mem_of_getElem? (i := 1) rfl)) (fun _ h9 => h9) rfl dX0_setMoved_1 ?_
  refine lv_iload_n hx hb dX0_setMoved_4 rfl (lv_at hl0 1 rfl) ?_
  refine lv_iconst (v := 3) hx hb dX0_setMoved_5 (by decide) ?_
  obtain ⟨hin1, hm1⟩ := gi_some hm0; clear hm0
  obtain ⟨f_modes_2, ef_modes_2, hm3⟩ := nm_some hm1; clear hm1
  refine ct_iast (g := f_modes_2) (ws' := (wf [oB (r0 0) 0 [.ref (r0 1), .ref (r0 2), .ref (r0 3), .ref (r0 4), .ref (r0 5), .ref (r0 6), .int f_columns, .int f_rows, .int f_scale, .int f_toEnd, .int f_between, .int f_kept], aI (r0 1) cI 36 f_modes_2, aI (r0 2) cI 36 f_across, aI (r0 3) cI 36 f_down] [])) hx hb E.1 hP0 hD0 hS0 1 0 rfl rfl hin1 ef_modes_2 rfl dX0_setMoved_6 (fun H4 lc4 hP4 hD4 hS4 => ?_)
  clear hP0 hD0 hS0
  refine lv_aload_n hx hb dX0_setMoved_7 rfl (lv_at hl0 0 rfl) ?_
  refine va_get (D := D) (ci := 0) (v := .ref (r0 2)) (C := RX0) (T := TX0) (N := 12) hx hb hts hi_X0_setMoved_0 hown E.1 hP4 0 rfl rfl 1 (by decide) (hts _ (List.mem_of_getElem? (i := 2) rfl)) (fun _ h9 => h9) rfl dX0_setMoved_8 ?_
  refine lv_iload_n hx hb dX0_setMoved_11 rfl (lv_at hl0 1 rfl) ?_
  refine lv_iload_n hx hb dX0_setMoved_12 rfl (lv_at hl0 2 rfl) ?_
  obtain ⟨hin5, hm5⟩ := gi_some hm3; clear hm3
  obtain ⟨f_across_6, ef_across_6, hm7⟩ := nm_some hm5; clear hm5
  refine ct_iast (g := f_across_6) (ws' := (wf [oB (r0 0) 0 [.ref (r0 1), .ref (r0 2), .ref (r0 3), .ref (r0 4), .ref (r0 5), .ref (r0 6), .int f_columns, .int f_rows, .int f_scale, .int f_toEnd, .int f_between, .int f_kept], aI (r0 1) cI 36 f_modes_2, aI (r0 2) cI 36 f_across_6, aI (r0 3) cI 36 f_down] [])) hx hb E.1 hP4 hD4 hS4 2 0 rfl rfl hin5 ef_across_6 rfl dX0_setMoved_13 (fun H8 lc8 hP8 hD8 hS8 => ?_)
  clear hP4 hD4 hS4
  refine lv_aload_n hx hb dX0_setMoved_14 rfl (lv_at hl0 0 rfl) ?_
  refine va_get (D := D) (ci := 0) (v := .ref (r0 3)) (C := RX0) (T := TX0) (N := 12) hx hb hts hi_X0_setMoved_0 hown E.1 hP8 0 rfl rfl 2 (by decide) (hts _ (List.mem_of_getElem? (i := 3) rfl)) (fun _ h9 => h9) rfl dX0_setMoved_15 ?_
  refine lv_iload_n hx hb dX0_setMoved_18 rfl (lv_at hl0 1 rfl) ?_
  refine lv_iload_n hx hb dX0_setMoved_19 rfl (lv_at hl0 3 rfl) ?_
  obtain ⟨hin9, hm9⟩ := gi_some hm7; clear hm7
  obtain ⟨f_down_10, ef_down_10, hm11⟩ := nm_some hm9; clear hm9
  refine ct_iast (g := f_down_10) (ws' := (wf [oB (r0 0) 0 [.ref (r0 1), .ref (r0 2), .ref (r0 3), .ref (r0 4), .ref (r0 5), .ref (r0 6), .int f_columns, .int f_rows, .int f_scale, .int f_toEnd, .int f_between, .int f_kept], aI (r0 1) cI 36 f_modes_2, aI (r0 2) cI 36 f_across_6, aI (r0 3) cI 36 f_down_10] [])) hx hb E.1 hP8 hD8 hS8 3 0 rfl rfl hin9 ef_down_10 rfl dX0_setMoved_20 (fun H12 lc12 hP12 hD12 hS12 => ?_)
  clear hP8 hD8 hS8
  obtain rfl := Option.some.inj hm11
  rw [hQ]
  exact ct_vret hx hb hr hlk hP12 hD12 hS12 dX0_setMoved_21

def f_X0_readModes_L8 (f_columns : Int32) (f_rows : Int32) (t_size : Int32) (t_bytes : Nat → Int32) (h_order : Nat → Int32) : Nat → (Nat → Int32) → (Nat → Int32) → (Nat → Int32) → Int32 → Int32 → Int32 → Int32 → Int32 → Option ((Nat → Int32) × (Nat → Int32) × (Nat → Int32) × Int32 × Int32)
  | 0, _, _, _, _, _, _, _, _ => none
  | n + 1, f_modes_5, f_across_6, f_down_7, t_position_8, t_fault_9, v3_10, v4_11, v5_12 =>
  (if (f_columns * f_rows) ≤ v5_12 then
  (some (f_modes_5, f_across_6, f_down_7, t_position_8, t_fault_9))
  else
  (bd1 (f_X1_ordered v5_12 h_order) fun y_19 =>
  bd1 (f_X0_isCoded y_19 f_modes_5) fun y_24 =>
  jn (fun (k29 : (Nat → Int32) → (Nat → Int32) → (Nat → Int32) → Int32 → Int32 → Int32 → Int32 → Option ((Nat → Int32) × (Nat → Int32) × (Nat → Int32) × Int32 × Int32)) => (if y_24 = (0 : Int32) then
  (k29 f_modes_5 f_across_6 f_down_7 t_position_8 t_fault_9 v3_10 v4_11)
  else
  (bd3 (f_X4_bit t_size t_position_8 t_fault_9 t_bytes) fun y_45 t_position_46 t_fault_47 =>
  (if y_45 = (0 : Int32) then
  (gi y_19 36 <|
  nm (upd f_modes_5 y_19.toNatClampNeg (1 : Int32) : Nat → Int32) fun f_modes_120 =>
  k29 f_modes_120 f_across_6 f_down_7 t_position_46 t_fault_47 v3_10 v4_11)
  else
  (bd3 (f_X4_bit t_size t_position_46 t_fault_47 t_bytes) fun y_53 t_position_54 t_fault_55 =>
  (if y_53 = (0 : Int32) then
  (gi y_19 36 <|
  nm (upd f_modes_5 y_19.toNatClampNeg (2 : Int32) : Nat → Int32) fun f_modes_114 =>
  k29 f_modes_114 f_across_6 f_down_7 t_position_54 t_fault_55 v3_10 v4_11)
  else
  (bd3 (f_X4_bit t_size t_position_54 t_fault_55 t_bytes) fun y_61 t_position_62 t_fault_63 =>
  (if y_61 = (0 : Int32) then
  (bd3 (f_X0_readMove t_size t_position_62 t_fault_63 t_bytes) fun y_91 t_position_92 t_fault_93 =>
  bd3 (f_X0_readMove t_size t_position_92 t_fault_93 t_bytes) fun y_98 t_position_99 t_fault_100 =>
  bd3 (f_X0_setMoved y_19 y_91 y_98 f_modes_5 f_across_6 f_down_7) fun f_modes_105 f_across_106 f_down_107 =>
  k29 f_modes_105 f_across_106 f_down_107 t_position_99 t_fault_100 y_91 y_98)
  else
  (bd3 (f_X4_bit t_size t_position_62 t_fault_63 t_bytes) fun y_69 t_position_70 t_fault_71 =>
  (if y_69 = (0 : Int32) then
  (bd3 (f_X0_setMoved y_19 v3_10 v4_11 f_modes_5 f_across_6 f_down_7) fun f_modes_83 f_across_84 f_down_85 =>
  k29 f_modes_83 f_across_84 f_down_85 t_position_70 t_fault_71 v3_10 v4_11)
  else
  (gi y_19 36 <|
  nm (upd f_modes_5 y_19.toNatClampNeg (4 : Int32) : Nat → Int32) fun f_modes_78 =>
  k29 f_modes_78 f_across_6 f_down_7 t_position_70 t_fault_71 v3_10 v4_11))))))))))) fun f_modes_30 f_across_31 f_down_32 t_position_33 t_fault_34 v3_35 v4_36 =>
  nm (v5_12 + (1 : Int32) : Int32) fun v5_39 =>
  f_X0_readModes_L8 f_columns f_rows t_size t_bytes h_order n f_modes_30 f_across_31 f_down_32 t_position_33 t_fault_34 v3_35 v4_36 v5_39))

def f_X0_readModes (f_columns : Int32) (f_rows : Int32) (f_modes : Nat → Int32) (f_across : Nat → Int32) (f_down : Nat → Int32) (t_size : Int32) (t_position : Int32) (t_fault : Int32) (t_bytes : Nat → Int32) (h_order : Nat → Int32) : Option ((Nat → Int32) × (Nat → Int32) × (Nat → Int32) × Int32 × Int32) :=
  bd5 (f_X0_readModes_L8 f_columns f_rows t_size t_bytes h_order 4000 f_modes f_across f_down t_position t_fault (0 : Int32) (0 : Int32) (0 : Int32)) fun f_modes_125 f_across_126 f_down_127 t_position_128 t_fault_129 =>
  some (f_modes_125, f_across_126, f_down_127, t_position_128, t_fault_129)

abbrev rm_X0_readModes : Room := { frames := 4, cells := 0, slots := 0, locals := 86 }

theorem cdS_X0_readModes : yX0_readModes.cls ≠ "java/lang/invoke/MethodHandle" ∧ yX0_readModes.cls ≠ "java/lang/invoke/VarHandle" ∧ (parseMethodDescriptor yX0_readModes.desc).map (fun d => d.parameters.length) = some 2 := by decide +kernel

theorem cdV_X0_readModes : yX0_readModes.cls = RX0 ∧ yX0_readModes.cls ≠ "java/lang/invoke/MethodHandle" ∧ yX0_readModes.cls ≠ "java/lang/invoke/VarHandle" ∧ (parseMethodDescriptor yX0_readModes.desc).map (fun d => d.parameters.length) = some 2 := ⟨rfl, cdS_X0_readModes⟩

theorem hi_X0_readModes_0 : ∀ w ∈ u_ws RX0 TX0 12, w ∈ wsX0_readModes := fun _ h => List.mem_cons_of_mem _ (List.mem_append_left _ (List.mem_append_left _ (List.mem_append_right _ h)))

set_option maxHeartbeats 40000000 in
set_option maxRecDepth 100000 in
theorem c_X0_readModes (l : Launch) (D : va_G) (cB cI cJ cQ : ClassId) (N : Nat) (r0 : Nat → Nat) (r1 : Nat → Nat) (r2 : Nat → Nat) (sz : Nat) (f_columns : Int32) (f_rows : Int32) (f_scale : Int32) (f_toEnd : Int32) (f_between : Int32) (f_kept : Int32) (f_modes : Nat → Int32) (f_across : Nat → Int32) (f_down : Nat → Int32) (t_size : Int32) (t_position : Int32) (t_fault : Int32) (t_bytes : Nat → Int32) (h_columns : Int32) (h_rows : Int32) (h_limit : Int32) (h_order : Nat → Int32) (o : (Nat → Int32) × (Nat → Int32) × (Nat → Int32) × Int32 × Int32) (hm0 : f_X0_readModes f_columns f_rows f_modes f_across f_down t_size t_position t_fault t_bytes h_order = some o) : Met l yX0_readModes wsX0_readModes rm_X0_readModes (ctP D cB cI cJ cQ N sz [.ref (r0 0), .ref (r1 0), .ref (r2 0)] (wf [oB (r0 0) 0 [.ref (r0 1), .ref (r0 2), .ref (r0 3), .ref (r0 4), .ref (r0 5), .ref (r0 6), .int f_columns, .int f_rows, .int f_scale, .int f_toEnd, .int f_between, .int f_kept], aI (r0 1) cI 36 f_modes, aI (r0 2) cI 36 f_across, aI (r0 3) cI 36 f_down, oB (r1 0) 4 [.ref (r1 1), .int t_size, .int t_position, .int t_fault], aI (r1 1) cB 6000 t_bytes, oB (r2 0) 1 [.ref (r2 1), .ref (r2 2), .ref (r2 3), .ref (r2 5), .ref (r2 7), .int h_columns, .int h_rows, .int h_limit], aI (r2 7) cI 36 h_order] [])) (ctQv D (wf [oB (r0 0) 0 [.ref (r0 1), .ref (r0 2), .ref (r0 3), .ref (r0 4), .ref (r0 5), .ref (r0 6), .int f_columns, .int f_rows, .int f_scale, .int f_toEnd, .int f_between, .int f_kept], aI (r0 1) cI 36 (o.1), aI (r0 2) cI 36 (o.2.1), aI (r0 3) cI 36 (o.2.2.1), oB (r1 0) 4 [.ref (r1 1), .int t_size, .int (o.2.2.2.1), .int (o.2.2.2.2)], aI (r1 1) cB 6000 t_bytes, oB (r2 0) 1 [.ref (r2 1), .ref (r2 2), .ref (r2 3), .ref (r2 5), .ref (r2 7), .int h_columns, .int h_rows, .int h_limit], aI (r2 7) cI 36 h_order] []) (va_A (wf [oB (r0 0) 0 [.ref (r0 1), .ref (r0 2), .ref (r0 3), .ref (r0 4), .ref (r0 5), .ref (r0 6), .int f_columns, .int f_rows, .int f_scale, .int f_toEnd, .int f_between, .int f_kept], aI (r0 1) cI 36 f_modes, aI (r0 2) cI 36 f_across, aI (r0 3) cI 36 f_down, oB (r1 0) 4 [.ref (r1 1), .int t_size, .int t_position, .int t_fault], aI (r1 1) cB 6000 t_bytes, oB (r2 0) 1 [.ref (r2 1), .ref (r2 2), .ref (r2 3), .ref (r2 5), .ref (r2 7), .int h_columns, .int h_rows, .int h_limit], aI (r2 7) cI 36 h_order] []) sz)) 0 0 (va_A (wf [oB (r0 0) 0 [.ref (r0 1), .ref (r0 2), .ref (r0 3), .ref (r0 4), .ref (r0 5), .ref (r0 6), .int f_columns, .int f_rows, .int f_scale, .int f_toEnd, .int f_between, .int f_kept], aI (r0 1) cI 36 f_modes, aI (r0 2) cI 36 f_across, aI (r0 3) cI 36 f_down, oB (r1 0) 4 [.ref (r1 1), .int t_size, .int t_position, .int t_fault], aI (r1 1) cB 6000 t_bytes, oB (r2 0) 1 [.ref (r2 1), .ref (r2 2), .ref (r2 3), .ref (r2 5), .ref (r2 7), .int h_columns, .int h_rows, .int h_limit], aI (r2 7) cI 36 h_order] []) sz) := by
  refine ct_of (cc := cX0_readModes) (maxL := 7) (ret := none) (own := RX0) (Qp := ctQv D (wf [oB (r0 0) 0 [.ref (r0 1), .ref (r0 2), .ref (r0 3), .ref (r0 4), .ref (r0 5), .ref (r0 6), .int f_columns, .int f_rows, .int f_scale, .int f_toEnd, .int f_between, .int f_kept], aI (r0 1) cI 36 (o.1), aI (r0 2) cI 36 (o.2.1), aI (r0 3) cI 36 (o.2.2.1), oB (r1 0) 4 [.ref (r1 1), .int t_size, .int (o.2.2.2.1), .int (o.2.2.2.2)], aI (r1 1) cB 6000 t_bytes, oB (r2 0) 1 [.ref (r2 1), .ref (r2 2), .ref (r2 3), .ref (r2 5), .ref (r2 7), .int h_columns, .int h_rows, .int h_limit], aI (r2 7) cI 36 h_order] [])) (by decide) rfl rfl (Nat.le_of_ble_eq_true rfl) ?_
  intro p e s m args below meth c A hx hb hr hml hown hts hlk hnm hsz hAe E hP0 hD0 hS0 ls0 hl0
  subst hsz
  have hl0 : lv_has ls0 7 [(0, .ref (r0 0)), (1, .ref (r1 0)), (2, .ref (r2 0))] := hl0
  obtain ⟨QQ, hQ⟩ : ∃ Q : State → Prop, Q = MQ below (ctQv D (wf [oB (r0 0) 0 [.ref (r0 1), .ref (r0 2), .ref (r0 3), .ref (r0 4), .ref (r0 5), .ref (r0 6), .int f_columns, .int f_rows, .int f_scale, .int f_toEnd, .int f_between, .int f_kept], aI (r0 1) cI 36 (o.1), aI (r0 2) cI 36 (o.2.1), aI (r0 3) cI 36 (o.2.2.1), oB (r1 0) 4 [.ref (r1 1), .int t_size, .int (o.2.2.2.1), .int (o.2.2.2.2)], aI (r1 1) cB 6000 t_bytes, oB (r2 0) 1 [.ref (r2 1), .ref (r2 2), .ref (r2 3), .ref (r2 5), .ref (r2 7), .int h_columns, .int h_rows, .int h_limit], aI (r2 7) cI 36 h_order] []) A) args s 0 0 A := ⟨_, rfl⟩
  rw [← hQ]
  unfold f_X0_readModes at hm0
  refine lv_iconst (v := 0) hx hb dX0_readModes_0 (by decide) ?_
  refine lv_istore_n (lv' := [(3, .int (0 : Int32)), (0, .ref (r0 0)), (1, .ref (r1 0)), (2, .ref (r2 0))]) hx hb dX0_readModes_1 rfl hl0 (by decide) rfl (fun ls1 hl1 => ?_); clear hl0
  refine lv_iconst (v := 0) hx hb dX0_readModes_2 (by decide) ?_
  refine lv_istore (lv' := [(4, .int (0 : Int32)), (3, .int (0 : Int32)), (0, .ref (r0 0)), (1, .ref (r1 0)), (2, .ref (r2 0))]) hx hb dX0_readModes_3 hl1 (by decide) rfl (fun ls2 hl2 => ?_); clear hl1
  refine lv_iconst (v := 0) hx hb dX0_readModes_5 (by decide) ?_
  refine lv_istore (lv' := [(5, .int (0 : Int32)), (4, .int (0 : Int32)), (3, .int (0 : Int32)), (0, .ref (r0 0)), (1, .ref (r1 0)), (2, .ref (r2 0))]) hx hb dX0_readModes_6 hl2 (by decide) rfl (fun ls3 hl3 => ?_); clear hl2
  obtain ⟨f_modes_125, f_across_126, f_down_127, t_position_128, t_fault_129, hlp4, hm130⟩ := bd5_some hm0; clear hm0
  have LP4 : ∀ (n : Nat) (f_modes_5 : Nat → Int32) (f_across_6 : Nat → Int32) (f_down_7 : Nat → Int32) (t_position_8 : Int32) (t_fault_9 : Int32) (v3_10 : Int32) (v4_11 : Int32) (v5_12 : Int32) (z4 : (Nat → Int32) × (Nat → Int32) × (Nat → Int32) × Int32 × Int32) (H13 : Heap) (lc13 : List Loc) (ls13 : Array Slot), f_X0_readModes_L8 f_columns f_rows t_size t_bytes h_order n f_modes_5 f_across_6 f_down_7 t_position_8 t_fault_9 v3_10 v4_11 v5_12 = some z4 → va_P D vwCl (wf [oB (r0 0) 0 [.ref (r0 1), .ref (r0 2), .ref (r0 3), .ref (r0 4), .ref (r0 5), .ref (r0 6), .int f_columns, .int f_rows, .int f_scale, .int f_toEnd, .int f_between, .int f_kept], aI (r0 1) cI 36 f_modes_5, aI (r0 2) cI 36 f_across_6, aI (r0 3) cI 36 f_down_7, oB (r1 0) 4 [.ref (r1 1), .int t_size, .int t_position_8, .int t_fault_9], aI (r1 1) cB 6000 t_bytes, oB (r2 0) 1 [.ref (r2 1), .ref (r2 2), .ref (r2 3), .ref (r2 5), .ref (r2 7), .int h_columns, .int h_rows, .int h_limit], aI (r2 7) cI 36 h_order] []) H13 → va_D A (wf [oB (r0 0) 0 [.ref (r0 1), .ref (r0 2), .ref (r0 3), .ref (r0 4), .ref (r0 5), .ref (r0 6), .int f_columns, .int f_rows, .int f_scale, .int f_toEnd, .int f_between, .int f_kept], aI (r0 1) cI 36 f_modes_5, aI (r0 2) cI 36 f_across_6, aI (r0 3) cI 36 f_down_7, oB (r1 0) 4 [.ref (r1 1), .int t_size, .int t_position_8, .int t_fault_9], aI (r1 1) cB 6000 t_bytes, oB (r2 0) 1 [.ref (r2 1), .ref (r2 2), .ref (r2 3), .ref (r2 5), .ref (r2 7), .int h_columns, .int h_rows, .int h_limit], aI (r2 7) cI 36 h_order] []) → va_S A s.heap H13 lc13 → lv_has ls13 7 [(0, .ref (r0 0)), (1, .ref (r1 0)), (2, .ref (r2 0)), (3, .int v3_10), (4, .int v4_11), (5, .int v5_12)] → (∀ (H : Heap) (lc : List Loc) (ls : Array Slot), va_P D vwCl (wf [oB (r0 0) 0 [.ref (r0 1), .ref (r0 2), .ref (r0 3), .ref (r0 4), .ref (r0 5), .ref (r0 6), .int f_columns, .int f_rows, .int f_scale, .int f_toEnd, .int f_between, .int f_kept], aI (r0 1) cI 36 (z4.1), aI (r0 2) cI 36 (z4.2.1), aI (r0 3) cI 36 (z4.2.2.1), oB (r1 0) 4 [.ref (r1 1), .int t_size, .int (z4.2.2.2.1), .int (z4.2.2.2.2)], aI (r1 1) cB 6000 t_bytes, oB (r2 0) 1 [.ref (r2 1), .ref (r2 2), .ref (r2 3), .ref (r2 5), .ref (r2 7), .int h_columns, .int h_rows, .int h_limit], aI (r2 7) cI 36 h_order] []) H → va_D A (wf [oB (r0 0) 0 [.ref (r0 1), .ref (r0 2), .ref (r0 3), .ref (r0 4), .ref (r0 5), .ref (r0 6), .int f_columns, .int f_rows, .int f_scale, .int f_toEnd, .int f_between, .int f_kept], aI (r0 1) cI 36 (z4.1), aI (r0 2) cI 36 (z4.2.1), aI (r0 3) cI 36 (z4.2.2.1), oB (r1 0) 4 [.ref (r1 1), .int t_size, .int (z4.2.2.2.1), .int (z4.2.2.2.2)], aI (r1 1) cB 6000 t_bytes, oB (r2 0) 1 [.ref (r2 1), .ref (r2 2), .ref (r2 3), .ref (r2 5), .ref (r2 7), .int h_columns, .int h_rows, .int h_limit], aI (r2 7) cI 36 h_order] []) → va_S A s.heap H lc → lv_has ls 7 [] → W p l e rm_X0_readModes s m args below meth c H lc 0 0 QQ (F0 m 141 ls [])) → W p l e rm_X0_readModes s m args below meth c H13 lc13 0 0 QQ (F0 m 8 ls13 []) := by
    intro n
    induction n with
    | zero =>
      intro f_modes_5 f_across_6 f_down_7 t_position_8 t_fault_9 v3_10 v4_11 v5_12 z4 H13 lc13 ls13 hm15; simp [f_X0_readModes_L8] at hm15
    | succ n ih =>
      intro f_modes_5 f_across_6 f_down_7 t_position_8 t_fault_9 v3_10 v4_11 v5_12 z4 H13 lc13 ls13 hm15 hP13 hD13 hS13 hl13 kx
      rw [f_X0_readModes_L8] at hm15
      refine lv_iload hx hb dX0_readModes_8 (lv_at hl13 5 rfl) ?_
      refine lv_aload_n hx hb dX0_readModes_10 rfl (lv_at hl13 0 rfl) ?_
      refine va_get (D := D) (ci := 0) (v := .int f_columns) (C := RX0) (T := TX0) (N := 12) hx hb hts hi_X0_readModes_0 hown E.1 hP13 0 rfl rfl 6 (by decide) (hts _ (List.mem_of_getElem? (i := 1) rfl)) (fun _ h9 => h9) rfl dX0_readModes_11 ?_
      refine lv_aload_n hx hb dX0_readModes_14 rfl (lv_at hl13 0 rfl) ?_
      refine va_get (D := D) (ci := 0) (v := .int f_rows) (C := RX0) (T := TX0) (N := 12) hx hb hts hi_X0_readModes_0 hown E.1 hP13 0 rfl rfl 7 (by decide) (hts _ (List.mem_of_getElem? (i := 2) rfl)) (fun _ h9 => h9) rfl dX0_readModes_15 ?_
      refine lv_imul hx hb dX0_readModes_18 ?_
      refine lv_icmp_ge (tgt := 141) hx hb dX0_readModes_19 (by decide) (fun hc16 => ?_) (fun hc16 => ?_)
      · have hm17 := bq_t hm15 hc16; clear hm15
        obtain rfl := Option.some.inj hm17
        exact kx _ _ _ hP13 hD13 hS13 (lv_sub hl13 [] rfl)
      · have hm18 := bq_f hm15 hc16; clear hm15
        refine lv_aload_n hx hb dX0_readModes_22 rfl (lv_at hl13 2 rfl) ?_
        refine lv_iload hx hb dX0_readModes_23 (lv_at hl13 5 rfl) ?_
        obtain ⟨y_19, hcl20, hm20⟩ := bd1_some hm18; clear hm18
        have sb21 := ctS.mk (n := 8) (k := 0) (pre := [oB (r0 0) 0 [.ref (r0 1), .ref (r0 2), .ref (r0 3), .ref (r0 4), .ref (r0 5), .ref (r0 6), .int f_columns, .int f_rows, .int f_scale, .int f_toEnd, .int f_between, .int f_kept], aI (r0 1) cI 36 f_modes_5, aI (r0 2) cI 36 f_across_6, aI (r0 3) cI 36 f_down_7, oB (r1 0) 4 [.ref (r1 1), .int t_size, .int t_position_8, .int t_fault_9], aI (r1 1) cB 6000 t_bytes, oB (r2 0) 1 [.ref (r2 1), .ref (r2 2), .ref (r2 3), .ref (r2 5), .ref (r2 7), .int h_columns, .int h_rows, .int h_limit], aI (r2 7) cI 36 h_order]) (tl := []) [6, 7] [0, 1, 2, 3, 4, 5] [] [] rfl rfl (by decide +kernel) (by decide +kernel)
        refine ct_calli (r := y_19) E sb21 hP13 hD13 hS13 (va_runV (As := [.int v5_12]) (rest := []) ⟨hx, hb, hml, hown, hts⟩ (c_X1_ordered l D cB cI cJ cQ N r2 H13.size v5_12 h_columns h_rows h_limit h_order (y_19) hcl20) (cwV 1 hts gX0_readModes_X1_ordered rfl rfl rfl cdV_X1_ordered ⟨Nat.le_of_ble_eq_true rfl, Nat.le_of_ble_eq_true rfl⟩) (ct_preV (q0 := 6) (ci := 1) E sb21 hP13 hD13 hS13 rfl rfl) rfl rfl hl13.1 rfl (lv_room (Nat.le_of_ble_eq_true rfl)) dX0_readModes_25 ⟨Nat.zero_le _, Nat.zero_le _⟩) (fun H22 lc22 hP22 hD22 hS22 => ?_); clear sb21 hcl20
        clear hP13 hD13 hS13
        have hP22 : va_P D vwCl (wf [oB (r0 0) 0 [.ref (r0 1), .ref (r0 2), .ref (r0 3), .ref (r0 4), .ref (r0 5), .ref (r0 6), .int f_columns, .int f_rows, .int f_scale, .int f_toEnd, .int f_between, .int f_kept], aI (r0 1) cI 36 f_modes_5, aI (r0 2) cI 36 f_across_6, aI (r0 3) cI 36 f_down_7, oB (r1 0) 4 [.ref (r1 1), .int t_size, .int t_position_8, .int t_fault_9], aI (r1 1) cB 6000 t_bytes, oB (r2 0) 1 [.ref (r2 1), .ref (r2 2), .ref (r2 3), .ref (r2 5), .ref (r2 7), .int h_columns, .int h_rows, .int h_limit], aI (r2 7) cI 36 h_order] []) H22 := hP22
        have hD22 : va_D A (wf [oB (r0 0) 0 [.ref (r0 1), .ref (r0 2), .ref (r0 3), .ref (r0 4), .ref (r0 5), .ref (r0 6), .int f_columns, .int f_rows, .int f_scale, .int f_toEnd, .int f_between, .int f_kept], aI (r0 1) cI 36 f_modes_5, aI (r0 2) cI 36 f_across_6, aI (r0 3) cI 36 f_down_7, oB (r1 0) 4 [.ref (r1 1), .int t_size, .int t_position_8, .int t_fault_9], aI (r1 1) cB 6000 t_bytes, oB (r2 0) 1 [.ref (r2 1), .ref (r2 2), .ref (r2 3), .ref (r2 5), .ref (r2 7), .int h_columns, .int h_rows, .int h_limit], aI (r2 7) cI 36 h_order] []) := hD22
        refine lv_istore (lv' := [(6, .int y_19), (0, .ref (r0 0)), (1, .ref (r1 0)), (2, .ref (r2 0)), (3, .int v3_10), (4, .int v4_11), (5, .int v5_12)]) hx hb dX0_readModes_28 hl13 (by decide) rfl (fun ls23 hl23 => ?_); clear hl13
        refine lv_aload_n hx hb dX0_readModes_30 rfl (lv_at hl23 1 rfl) ?_
        refine lv_iload hx hb dX0_readModes_31 (lv_at hl23 0 rfl) ?_
        obtain ⟨y_24, hcl25, hm25⟩ := bd1_some hm20; clear hm20
        have sb26 := ctS.mk (n := 8) (k := 0) (pre := [oB (r0 0) 0 [.ref (r0 1), .ref (r0 2), .ref (r0 3), .ref (r0 4), .ref (r0 5), .ref (r0 6), .int f_columns, .int f_rows, .int f_scale, .int f_toEnd, .int f_between, .int f_kept], aI (r0 1) cI 36 f_modes_5, aI (r0 2) cI 36 f_across_6, aI (r0 3) cI 36 f_down_7, oB (r1 0) 4 [.ref (r1 1), .int t_size, .int t_position_8, .int t_fault_9], aI (r1 1) cB 6000 t_bytes, oB (r2 0) 1 [.ref (r2 1), .ref (r2 2), .ref (r2 3), .ref (r2 5), .ref (r2 7), .int h_columns, .int h_rows, .int h_limit], aI (r2 7) cI 36 h_order]) (tl := []) [0, 1] [2, 3, 4, 5, 6, 7] [] [] rfl rfl (by decide +kernel) (by decide +kernel)
        refine ct_calli (r := y_24) E sb26 hP22 hD22 hS22 (va_runV (As := [.int y_19]) (rest := []) ⟨hx, hb, hml, hown, hts⟩ (c_X0_isCoded l D cB cI cJ cQ N r0 H22.size y_19 f_columns f_rows f_scale f_toEnd f_between f_kept f_modes_5 (y_24) hcl25) (cwV 1 hts gX0_readModes_X0_isCoded rfl rfl rfl cdV_X0_isCoded ⟨Nat.le_of_ble_eq_true rfl, Nat.le_of_ble_eq_true rfl⟩) (ct_preV (q0 := 0) (ci := 0) E sb26 hP22 hD22 hS22 rfl rfl) rfl rfl hl23.1 rfl (lv_room (Nat.le_of_ble_eq_true rfl)) dX0_readModes_33 ⟨Nat.zero_le _, Nat.zero_le _⟩) (fun H27 lc27 hP27 hD27 hS27 => ?_); clear sb26 hcl25
        clear hP22 hD22 hS22
        have hP27 : va_P D vwCl (wf [aI (r0 2) cI 36 f_across_6, aI (r0 3) cI 36 f_down_7, oB (r1 0) 4 [.ref (r1 1), .int t_size, .int t_position_8, .int t_fault_9], aI (r1 1) cB 6000 t_bytes, oB (r2 0) 1 [.ref (r2 1), .ref (r2 2), .ref (r2 3), .ref (r2 5), .ref (r2 7), .int h_columns, .int h_rows, .int h_limit], aI (r2 7) cI 36 h_order, oB (r0 0) 0 [.ref (r0 1), .ref (r0 2), .ref (r0 3), .ref (r0 4), .ref (r0 5), .ref (r0 6), .int f_columns, .int f_rows, .int f_scale, .int f_toEnd, .int f_between, .int f_kept], aI (r0 1) cI 36 f_modes_5] []) H27 := hP27
        have hD27 : va_D A (wf [aI (r0 2) cI 36 f_across_6, aI (r0 3) cI 36 f_down_7, oB (r1 0) 4 [.ref (r1 1), .int t_size, .int t_position_8, .int t_fault_9], aI (r1 1) cB 6000 t_bytes, oB (r2 0) 1 [.ref (r2 1), .ref (r2 2), .ref (r2 3), .ref (r2 5), .ref (r2 7), .int h_columns, .int h_rows, .int h_limit], aI (r2 7) cI 36 h_order, oB (r0 0) 0 [.ref (r0 1), .ref (r0 2), .ref (r0 3), .ref (r0 4), .ref (r0 5), .ref (r0 6), .int f_columns, .int f_rows, .int f_scale, .int f_toEnd, .int f_between, .int f_kept], aI (r0 1) cI 36 f_modes_5] []) := hD27
        obtain ⟨k29, ek29, hm29⟩ := jn_some hm25; clear hm25
        have KJ29 : ∀ (f_modes_30 : Nat → Int32) (f_across_31 : Nat → Int32) (f_down_32 : Nat → Int32) (t_position_33 : Int32) (t_fault_34 : Int32) (v3_35 : Int32) (v4_36 : Int32) (H37 : Heap) (lc37 : List Loc) (ls37 : Array Slot), k29 f_modes_30 f_across_31 f_down_32 t_position_33 t_fault_34 v3_35 v4_36 = some z4 → va_P D vwCl (wf [aI (r0 2) cI 36 f_across_31, aI (r0 3) cI 36 f_down_32, oB (r1 0) 4 [.ref (r1 1), .int t_size, .int t_position_33, .int t_fault_34], aI (r1 1) cB 6000 t_bytes, oB (r2 0) 1 [.ref (r2 1), .ref (r2 2), .ref (r2 3), .ref (r2 5), .ref (r2 7), .int h_columns, .int h_rows, .int h_limit], aI (r2 7) cI 36 h_order, oB (r0 0) 0 [.ref (r0 1), .ref (r0 2), .ref (r0 3), .ref (r0 4), .ref (r0 5), .ref (r0 6), .int f_columns, .int f_rows, .int f_scale, .int f_toEnd, .int f_between, .int f_kept], aI (r0 1) cI 36 f_modes_30] []) H37 → va_D A (wf [aI (r0 2) cI 36 f_across_31, aI (r0 3) cI 36 f_down_32, oB (r1 0) 4 [.ref (r1 1), .int t_size, .int t_position_33, .int t_fault_34], aI (r1 1) cB 6000 t_bytes, oB (r2 0) 1 [.ref (r2 1), .ref (r2 2), .ref (r2 3), .ref (r2 5), .ref (r2 7), .int h_columns, .int h_rows, .int h_limit], aI (r2 7) cI 36 h_order, oB (r0 0) 0 [.ref (r0 1), .ref (r0 2), .ref (r0 3), .ref (r0 4), .ref (r0 5), .ref (r0 6), .int f_columns, .int f_rows, .int f_scale, .int f_toEnd, .int f_between, .int f_kept], aI (r0 1) cI 36 f_modes_30] []) → va_S A s.heap H37 lc37 → lv_has ls37 7 [(0, .ref (r0 0)), (1, .ref (r1 0)), (2, .ref (r2 0)), (3, .int v3_35), (4, .int v4_36), (5, .int v5_12)] → W p l e rm_X0_readModes s m args below meth c H37 lc37 0 0 QQ (F0 m 135 ls37 []) := by
          intro f_modes_30 f_across_31 f_down_32 t_position_33 t_fault_34 v3_35 v4_36 H37 lc37 ls37 hm38 hP37 hD37 hS37 hl37
          rw [ek29] at hm38
          obtain ⟨v5_39, ev5_39, hm40⟩ := nm_some hm38; clear hm38
          refine lv_iinc (v := v5_39) (lv' := [(5, .int v5_39), (0, .ref (r0 0)), (1, .ref (r1 0)), (2, .ref (r2 0)), (3, .int v3_35), (4, .int v4_36)]) hx hb dX0_readModes_135 hl37 (k := 5) rfl (by rw [ev5_39]; rfl) (by decide) rfl (fun ls41 hl41 => ?_); clear hl37
          refine lv_goto (tgt := 8) hx hb dX0_readModes_138 (by decide) ?_
          obtain ⟨hP42, hD42⟩ := ct_ord (n := 8) (k := 0) [6, 7, 0, 1, 2, 3, 4, 5] [] hP37 hD37 rfl rfl (by decide +kernel) (by decide +kernel)
          have hS42 := hS37
          have hP42 : va_P D vwCl (wf [oB (r0 0) 0 [.ref (r0 1), .ref (r0 2), .ref (r0 3), .ref (r0 4), .ref (r0 5), .ref (r0 6), .int f_columns, .int f_rows, .int f_scale, .int f_toEnd, .int f_between, .int f_kept], aI (r0 1) cI 36 f_modes_30, aI (r0 2) cI 36 f_across_31, aI (r0 3) cI 36 f_down_32, oB (r1 0) 4 [.ref (r1 1), .int t_size, .int t_position_33, .int t_fault_34], aI (r1 1) cB 6000 t_bytes, oB (r2 0) 1 [.ref (r2 1), .ref (r2 2), .ref (r2 3), .ref (r2 5), .ref (r2 7), .int h_columns, .int h_rows, .int h_limit], aI (r2 7) cI 36 h_order] []) H37 := hP42
          have hD42 : va_D A (wf [oB (r0 0) 0 [.ref (r0 1), .ref (r0 2), .ref (r0 3), .ref (r0 4), .ref (r0 5), .ref (r0 6), .int f_columns, .int f_rows, .int f_scale, .int f_toEnd, .int f_between, .int f_kept], aI (r0 1) cI 36 f_modes_30, aI (r0 2) cI 36 f_across_31, aI (r0 3) cI 36 f_down_32, oB (r1 0) 4 [.ref (r1 1), .int t_size, .int t_position_33, .int t_fault_34], aI (r1 1) cB 6000 t_bytes, oB (r2 0) 1 [.ref (r2 1), .ref (r2 2), .ref (r2 3), .ref (r2 5), .ref (r2 7), .int h_columns, .int h_rows, .int h_limit], aI (r2 7) cI 36 h_order] []) := hD42
          exact ih f_modes_30 f_across_31 f_down_32 t_position_33 t_fault_34 v3_35 v4_36 v5_39 _ _ _ _ hm40 hP42 hD42 hS42 (lv_sub hl41 [1, 2, 3, 4, 5, 0] rfl) kx
        refine lv_if_ne (tgt := 42) hx hb dX0_readModes_36 (by decide) (fun hc43 => ?_) (fun hc43 => ?_)
        · have hm44 := bq_f hm29 hc43; clear hm29
          refine lv_aload_n hx hb dX0_readModes_42 rfl (lv_at hl23 2 rfl) ?_
          obtain ⟨y_45, t_position_46, t_fault_47, hcl48, hm48⟩ := bd3_some hm44; clear hm44
          have sb49 := ctS.mk (n := 8) (k := 0) (pre := [aI (r0 2) cI 36 f_across_6, aI (r0 3) cI 36 f_down_7, oB (r1 0) 4 [.ref (r1 1), .int t_size, .int t_position_8, .int t_fault_9], aI (r1 1) cB 6000 t_bytes, oB (r2 0) 1 [.ref (r2 1), .ref (r2 2), .ref (r2 3), .ref (r2 5), .ref (r2 7), .int h_columns, .int h_rows, .int h_limit], aI (r2 7) cI 36 h_order, oB (r0 0) 0 [.ref (r0 1), .ref (r0 2), .ref (r0 3), .ref (r0 4), .ref (r0 5), .ref (r0 6), .int f_columns, .int f_rows, .int f_scale, .int f_toEnd, .int f_between, .int f_kept], aI (r0 1) cI 36 f_modes_5]) (tl := []) [2, 3] [0, 1, 4, 5, 6, 7] [] [] rfl rfl (by decide +kernel) (by decide +kernel)
          refine ct_calli (r := y_45) E sb49 hP27 hD27 hS27 (va_runV (As := []) (rest := []) ⟨hx, hb, hml, hown, hts⟩ (c_X4_bit l D cB cI cJ cQ N r1 H27.size t_size t_position_8 t_fault_9 t_bytes (y_45, t_position_46, t_fault_47) hcl48) (cwV 0 hts gX0_readModes_X4_bit rfl rfl rfl cdV_X4_bit ⟨Nat.le_of_ble_eq_true rfl, Nat.le_of_ble_eq_true rfl⟩) (ct_preV (q0 := 2) (ci := 4) E sb49 hP27 hD27 hS27 rfl rfl) rfl rfl hl23.1 rfl (lv_room (Nat.le_of_ble_eq_true rfl)) dX0_readModes_43 ⟨Nat.zero_le _, Nat.zero_le _⟩) (fun H50 lc50 hP50 hD50 hS50 => ?_); clear sb49 hcl48
          clear hP27 hD27 hS27
          have hP50 : va_P D vwCl (wf [aI (r0 2) cI 36 f_across_6, aI (r0 3) cI 36 f_down_7, oB (r2 0) 1 [.ref (r2 1), .ref (r2 2), .ref (r2 3), .ref (r2 5), .ref (r2 7), .int h_columns, .int h_rows, .int h_limit], aI (r2 7) cI 36 h_order, oB (r0 0) 0 [.ref (r0 1), .ref (r0 2), .ref (r0 3), .ref (r0 4), .ref (r0 5), .ref (r0 6), .int f_columns, .int f_rows, .int f_scale, .int f_toEnd, .int f_between, .int f_kept], aI (r0 1) cI 36 f_modes_5, oB (r1 0) 4 [.ref (r1 1), .int t_size, .int t_position_46, .int t_fault_47], aI (r1 1) cB 6000 t_bytes] []) H50 := hP50
          have hD50 : va_D A (wf [aI (r0 2) cI 36 f_across_6, aI (r0 3) cI 36 f_down_7, oB (r2 0) 1 [.ref (r2 1), .ref (r2 2), .ref (r2 3), .ref (r2 5), .ref (r2 7), .int h_columns, .int h_rows, .int h_limit], aI (r2 7) cI 36 h_order, oB (r0 0) 0 [.ref (r0 1), .ref (r0 2), .ref (r0 3), .ref (r0 4), .ref (r0 5), .ref (r0 6), .int f_columns, .int f_rows, .int f_scale, .int f_toEnd, .int f_between, .int f_kept], aI (r0 1) cI 36 f_modes_5, oB (r1 0) 4 [.ref (r1 1), .int t_size, .int t_position_46, .int t_fault_47], aI (r1 1) cB 6000 t_bytes] []) := hD50
          refine lv_if_ne (tgt := 60) hx hb dX0_readModes_46 (by decide) (fun hc51 => ?_) (fun hc51 => ?_)
          · have hm52 := bq_f hm48 hc51; clear hm48
            refine lv_aload_n hx hb dX0_readModes_60 rfl (lv_at hl23 2 rfl) ?_
            obtain ⟨y_53, t_position_54, t_fault_55, hcl56, hm56⟩ := bd3_some hm52; clear hm52
            have sb57 := ctS.mk (n := 8) (k := 0) (pre := [aI (r0 2) cI 36 f_across_6, aI (r0 3) cI 36 f_down_7, oB (r2 0) 1 [.ref (r2 1), .ref (r2 2), .ref (r2 3), .ref (r2 5), .ref (r2 7), .int h_columns, .int h_rows, .int h_limit], aI (r2 7) cI 36 h_order, oB (r0 0) 0 [.ref (r0 1), .ref (r0 2), .ref (r0 3), .ref (r0 4), .ref (r0 5), .ref (r0 6), .int f_columns, .int f_rows, .int f_scale, .int f_toEnd, .int f_between, .int f_kept], aI (r0 1) cI 36 f_modes_5, oB (r1 0) 4 [.ref (r1 1), .int t_size, .int t_position_46, .int t_fault_47], aI (r1 1) cB 6000 t_bytes]) (tl := []) [6, 7] [0, 1, 2, 3, 4, 5] [] [] rfl rfl (by decide +kernel) (by decide +kernel)
            refine ct_calli (r := y_53) E sb57 hP50 hD50 hS50 (va_runV (As := []) (rest := []) ⟨hx, hb, hml, hown, hts⟩ (c_X4_bit l D cB cI cJ cQ N r1 H50.size t_size t_position_46 t_fault_47 t_bytes (y_53, t_position_54, t_fault_55) hcl56) (cwV 0 hts gX0_readModes_X4_bit rfl rfl rfl cdV_X4_bit ⟨Nat.le_of_ble_eq_true rfl, Nat.le_of_ble_eq_true rfl⟩) (ct_preV (q0 := 6) (ci := 4) E sb57 hP50 hD50 hS50 rfl rfl) rfl rfl hl23.1 rfl (lv_room (Nat.le_of_ble_eq_true rfl)) dX0_readModes_61 ⟨Nat.zero_le _, Nat.zero_le _⟩) (fun H58 lc58 hP58 hD58 hS58 => ?_); clear sb57 hcl56
            clear hP50 hD50 hS50
            have hP58 : va_P D vwCl (wf [aI (r0 2) cI 36 f_across_6, aI (r0 3) cI 36 f_down_7, oB (r2 0) 1 [.ref (r2 1), .ref (r2 2), .ref (r2 3), .ref (r2 5), .ref (r2 7), .int h_columns, .int h_rows, .int h_limit], aI (r2 7) cI 36 h_order, oB (r0 0) 0 [.ref (r0 1), .ref (r0 2), .ref (r0 3), .ref (r0 4), .ref (r0 5), .ref (r0 6), .int f_columns, .int f_rows, .int f_scale, .int f_toEnd, .int f_between, .int f_kept], aI (r0 1) cI 36 f_modes_5, oB (r1 0) 4 [.ref (r1 1), .int t_size, .int t_position_54, .int t_fault_55], aI (r1 1) cB 6000 t_bytes] []) H58 := hP58
            have hD58 : va_D A (wf [aI (r0 2) cI 36 f_across_6, aI (r0 3) cI 36 f_down_7, oB (r2 0) 1 [.ref (r2 1), .ref (r2 2), .ref (r2 3), .ref (r2 5), .ref (r2 7), .int h_columns, .int h_rows, .int h_limit], aI (r2 7) cI 36 h_order, oB (r0 0) 0 [.ref (r0 1), .ref (r0 2), .ref (r0 3), .ref (r0 4), .ref (r0 5), .ref (r0 6), .int f_columns, .int f_rows, .int f_scale, .int f_toEnd, .int f_between, .int f_kept], aI (r0 1) cI 36 f_modes_5, oB (r1 0) 4 [.ref (r1 1), .int t_size, .int t_position_54, .int t_fault_55], aI (r1 1) cB 6000 t_bytes] []) := hD58
            refine lv_if_ne (tgt := 78) hx hb dX0_readModes_64 (by decide) (fun hc59 => ?_) (fun hc59 => ?_)
            · have hm60 := bq_f hm56 hc59; clear hm56
              refine lv_aload_n hx hb dX0_readModes_78 rfl (lv_at hl23 2 rfl) ?_
              obtain ⟨y_61, t_position_62, t_fault_63, hcl64, hm64⟩ := bd3_some hm60; clear hm60
              have sb65 := ctS.mk (n := 8) (k := 0) (pre := [aI (r0 2) cI 36 f_across_6, aI (r0 3) cI 36 f_down_7, oB (r2 0) 1 [.ref (r2 1), .ref (r2 2), .ref (r2 3), .ref (r2 5), .ref (r2 7), .int h_columns, .int h_rows, .int h_limit], aI (r2 7) cI 36 h_order, oB (r0 0) 0 [.ref (r0 1), .ref (r0 2), .ref (r0 3), .ref (r0 4), .ref (r0 5), .ref (r0 6), .int f_columns, .int f_rows, .int f_scale, .int f_toEnd, .int f_between, .int f_kept], aI (r0 1) cI 36 f_modes_5, oB (r1 0) 4 [.ref (r1 1), .int t_size, .int t_position_54, .int t_fault_55], aI (r1 1) cB 6000 t_bytes]) (tl := []) [6, 7] [0, 1, 2, 3, 4, 5] [] [] rfl rfl (by decide +kernel) (by decide +kernel)
              refine ct_calli (r := y_61) E sb65 hP58 hD58 hS58 (va_runV (As := []) (rest := []) ⟨hx, hb, hml, hown, hts⟩ (c_X4_bit l D cB cI cJ cQ N r1 H58.size t_size t_position_54 t_fault_55 t_bytes (y_61, t_position_62, t_fault_63) hcl64) (cwV 0 hts gX0_readModes_X4_bit rfl rfl rfl cdV_X4_bit ⟨Nat.le_of_ble_eq_true rfl, Nat.le_of_ble_eq_true rfl⟩) (ct_preV (q0 := 6) (ci := 4) E sb65 hP58 hD58 hS58 rfl rfl) rfl rfl hl23.1 rfl (lv_room (Nat.le_of_ble_eq_true rfl)) dX0_readModes_79 ⟨Nat.zero_le _, Nat.zero_le _⟩) (fun H66 lc66 hP66 hD66 hS66 => ?_); clear sb65 hcl64
              clear hP58 hD58 hS58
              have hP66 : va_P D vwCl (wf [aI (r0 2) cI 36 f_across_6, aI (r0 3) cI 36 f_down_7, oB (r2 0) 1 [.ref (r2 1), .ref (r2 2), .ref (r2 3), .ref (r2 5), .ref (r2 7), .int h_columns, .int h_rows, .int h_limit], aI (r2 7) cI 36 h_order, oB (r0 0) 0 [.ref (r0 1), .ref (r0 2), .ref (r0 3), .ref (r0 4), .ref (r0 5), .ref (r0 6), .int f_columns, .int f_rows, .int f_scale, .int f_toEnd, .int f_between, .int f_kept], aI (r0 1) cI 36 f_modes_5, oB (r1 0) 4 [.ref (r1 1), .int t_size, .int t_position_62, .int t_fault_63], aI (r1 1) cB 6000 t_bytes] []) H66 := hP66
              have hD66 : va_D A (wf [aI (r0 2) cI 36 f_across_6, aI (r0 3) cI 36 f_down_7, oB (r2 0) 1 [.ref (r2 1), .ref (r2 2), .ref (r2 3), .ref (r2 5), .ref (r2 7), .int h_columns, .int h_rows, .int h_limit], aI (r2 7) cI 36 h_order, oB (r0 0) 0 [.ref (r0 1), .ref (r0 2), .ref (r0 3), .ref (r0 4), .ref (r0 5), .ref (r0 6), .int f_columns, .int f_rows, .int f_scale, .int f_toEnd, .int f_between, .int f_kept], aI (r0 1) cI 36 f_modes_5, oB (r1 0) 4 [.ref (r1 1), .int t_size, .int t_position_62, .int t_fault_63], aI (r1 1) cB 6000 t_bytes] []) := hD66
              refine lv_if_ne (tgt := 108) hx hb dX0_readModes_82 (by decide) (fun hc67 => ?_) (fun hc67 => ?_)
              · have hm68 := bq_f hm64 hc67; clear hm64
                refine lv_aload_n hx hb dX0_readModes_108 rfl (lv_at hl23 2 rfl) ?_
                obtain ⟨y_69, t_position_70, t_fault_71, hcl72, hm72⟩ := bd3_some hm68; clear hm68
                have sb73 := ctS.mk (n := 8) (k := 0) (pre := [aI (r0 2) cI 36 f_across_6, aI (r0 3) cI 36 f_down_7, oB (r2 0) 1 [.ref (r2 1), .ref (r2 2), .ref (r2 3), .ref (r2 5), .ref (r2 7), .int h_columns, .int h_rows, .int h_limit], aI (r2 7) cI 36 h_order, oB (r0 0) 0 [.ref (r0 1), .ref (r0 2), .ref (r0 3), .ref (r0 4), .ref (r0 5), .ref (r0 6), .int f_columns, .int f_rows, .int f_scale, .int f_toEnd, .int f_between, .int f_kept], aI (r0 1) cI 36 f_modes_5, oB (r1 0) 4 [.ref (r1 1), .int t_size, .int t_position_62, .int t_fault_63], aI (r1 1) cB 6000 t_bytes]) (tl := []) [6, 7] [0, 1, 2, 3, 4, 5] [] [] rfl rfl (by decide +kernel) (by decide +kernel)
                refine ct_calli (r := y_69) E sb73 hP66 hD66 hS66 (va_runV (As := []) (rest := []) ⟨hx, hb, hml, hown, hts⟩ (c_X4_bit l D cB cI cJ cQ N r1 H66.size t_size t_position_62 t_fault_63 t_bytes (y_69, t_position_70, t_fault_71) hcl72) (cwV 0 hts gX0_readModes_X4_bit rfl rfl rfl cdV_X4_bit ⟨Nat.le_of_ble_eq_true rfl, Nat.le_of_ble_eq_true rfl⟩) (ct_preV (q0 := 6) (ci := 4) E sb73 hP66 hD66 hS66 rfl rfl) rfl rfl hl23.1 rfl (lv_room (Nat.le_of_ble_eq_true rfl)) dX0_readModes_109 ⟨Nat.zero_le _, Nat.zero_le _⟩) (fun H74 lc74 hP74 hD74 hS74 => ?_); clear sb73 hcl72
                clear hP66 hD66 hS66
                have hP74 : va_P D vwCl (wf [aI (r0 2) cI 36 f_across_6, aI (r0 3) cI 36 f_down_7, oB (r2 0) 1 [.ref (r2 1), .ref (r2 2), .ref (r2 3), .ref (r2 5), .ref (r2 7), .int h_columns, .int h_rows, .int h_limit], aI (r2 7) cI 36 h_order, oB (r0 0) 0 [.ref (r0 1), .ref (r0 2), .ref (r0 3), .ref (r0 4), .ref (r0 5), .ref (r0 6), .int f_columns, .int f_rows, .int f_scale, .int f_toEnd, .int f_between, .int f_kept], aI (r0 1) cI 36 f_modes_5, oB (r1 0) 4 [.ref (r1 1), .int t_size, .int t_position_70, .int t_fault_71], aI (r1 1) cB 6000 t_bytes] []) H74 := hP74
                have hD74 : va_D A (wf [aI (r0 2) cI 36 f_across_6, aI (r0 3) cI 36 f_down_7, oB (r2 0) 1 [.ref (r2 1), .ref (r2 2), .ref (r2 3), .ref (r2 5), .ref (r2 7), .int h_columns, .int h_rows, .int h_limit], aI (r2 7) cI 36 h_order, oB (r0 0) 0 [.ref (r0 1), .ref (r0 2), .ref (r0 3), .ref (r0 4), .ref (r0 5), .ref (r0 6), .int f_columns, .int f_rows, .int f_scale, .int f_toEnd, .int f_between, .int f_kept], aI (r0 1) cI 36 f_modes_5, oB (r1 0) 4 [.ref (r1 1), .int t_size, .int t_position_70, .int t_fault_71], aI (r1 1) cB 6000 t_bytes] []) := hD74
                refine lv_if_ne (tgt := 127) hx hb dX0_readModes_112 (by decide) (fun hc75 => ?_) (fun hc75 => ?_)
                · have hm76 := bq_f hm72 hc75; clear hm72
                  refine lv_aload_n hx hb dX0_readModes_127 rfl (lv_at hl23 1 rfl) ?_
                  refine va_get (D := D) (ci := 0) (v := .ref (r0 1)) (C := RX0) (T := TX0) (N := 12) hx hb hts hi_X0_readModes_0 hown E.1 hP74 4 rfl rfl 0 (by decide) (hts _ (List.mem_of_getElem? (i := 3) rfl)) (fun _ h9 => h9) rfl dX0_readModes_128 ?_
                  refine lv_iload hx hb dX0_readModes_131 (lv_at hl23 0 rfl) ?_
                  refine lv_iconst (v := 4) hx hb dX0_readModes_133 (by decide) ?_
                  obtain ⟨hin77, hm77⟩ := gi_some hm76; clear hm76
                  obtain ⟨f_modes_78, ef_modes_78, hm79⟩ := nm_some hm77; clear hm77
                  refine ct_iast (g := f_modes_78) (ws' := (wf [aI (r0 2) cI 36 f_across_6, aI (r0 3) cI 36 f_down_7, oB (r2 0) 1 [.ref (r2 1), .ref (r2 2), .ref (r2 3), .ref (r2 5), .ref (r2 7), .int h_columns, .int h_rows, .int h_limit], aI (r2 7) cI 36 h_order, oB (r0 0) 0 [.ref (r0 1), .ref (r0 2), .ref (r0 3), .ref (r0 4), .ref (r0 5), .ref (r0 6), .int f_columns, .int f_rows, .int f_scale, .int f_toEnd, .int f_between, .int f_kept], aI (r0 1) cI 36 f_modes_78, oB (r1 0) 4 [.ref (r1 1), .int t_size, .int t_position_70, .int t_fault_71], aI (r1 1) cB 6000 t_bytes] [])) hx hb E.1 hP74 hD74 hS74 5 0 rfl rfl hin77 ef_modes_78 rfl dX0_readModes_134 (fun H80 lc80 hP80 hD80 hS80 => ?_)
                  clear hP74 hD74 hS74
                  obtain ⟨hP81, hD81⟩ := ct_ord (n := 8) (k := 0) [0, 1, 6, 7, 2, 3, 4, 5] [] hP80 hD80 rfl rfl (by decide +kernel) (by decide +kernel)
                  have hS81 := hS80
                  have hP81 : va_P D vwCl (wf [aI (r0 2) cI 36 f_across_6, aI (r0 3) cI 36 f_down_7, oB (r1 0) 4 [.ref (r1 1), .int t_size, .int t_position_70, .int t_fault_71], aI (r1 1) cB 6000 t_bytes, oB (r2 0) 1 [.ref (r2 1), .ref (r2 2), .ref (r2 3), .ref (r2 5), .ref (r2 7), .int h_columns, .int h_rows, .int h_limit], aI (r2 7) cI 36 h_order, oB (r0 0) 0 [.ref (r0 1), .ref (r0 2), .ref (r0 3), .ref (r0 4), .ref (r0 5), .ref (r0 6), .int f_columns, .int f_rows, .int f_scale, .int f_toEnd, .int f_between, .int f_kept], aI (r0 1) cI 36 f_modes_78] []) H80 := hP81
                  have hD81 : va_D A (wf [aI (r0 2) cI 36 f_across_6, aI (r0 3) cI 36 f_down_7, oB (r1 0) 4 [.ref (r1 1), .int t_size, .int t_position_70, .int t_fault_71], aI (r1 1) cB 6000 t_bytes, oB (r2 0) 1 [.ref (r2 1), .ref (r2 2), .ref (r2 3), .ref (r2 5), .ref (r2 7), .int h_columns, .int h_rows, .int h_limit], aI (r2 7) cI 36 h_order, oB (r0 0) 0 [.ref (r0 1), .ref (r0 2), .ref (r0 3), .ref (r0 4), .ref (r0 5), .ref (r0 6), .int f_columns, .int f_rows, .int f_scale, .int f_toEnd, .int f_between, .int f_kept], aI (r0 1) cI 36 f_modes_78] []) := hD81
                  exact KJ29 f_modes_78 f_across_6 f_down_7 t_position_70 t_fault_71 v3_10 v4_11 _ _ _ hm79 hP81 hD81 hS81 (lv_sub hl23 [1, 2, 3, 4, 5, 6] rfl)
                · have hm82 := bq_t hm72 hc75; clear hm72
                  refine lv_aload_n hx hb dX0_readModes_115 rfl (lv_at hl23 1 rfl) ?_
                  refine lv_iload hx hb dX0_readModes_116 (lv_at hl23 0 rfl) ?_
                  refine lv_iload_n hx hb dX0_readModes_118 rfl (lv_at hl23 4 rfl) ?_
                  refine lv_iload hx hb dX0_readModes_119 (lv_at hl23 5 rfl) ?_
                  obtain ⟨f_modes_83, f_across_84, f_down_85, hcl86, hm86⟩ := bd3_some hm82; clear hm82
                  have sb87 := ctS.mk (n := 8) (k := 0) (pre := [aI (r0 2) cI 36 f_across_6, aI (r0 3) cI 36 f_down_7, oB (r2 0) 1 [.ref (r2 1), .ref (r2 2), .ref (r2 3), .ref (r2 5), .ref (r2 7), .int h_columns, .int h_rows, .int h_limit], aI (r2 7) cI 36 h_order, oB (r0 0) 0 [.ref (r0 1), .ref (r0 2), .ref (r0 3), .ref (r0 4), .ref (r0 5), .ref (r0 6), .int f_columns, .int f_rows, .int f_scale, .int f_toEnd, .int f_between, .int f_kept], aI (r0 1) cI 36 f_modes_5, oB (r1 0) 4 [.ref (r1 1), .int t_size, .int t_position_70, .int t_fault_71], aI (r1 1) cB 6000 t_bytes]) (tl := []) [4, 5, 0, 1] [2, 3, 6, 7] [] [] rfl rfl (by decide +kernel) (by decide +kernel)
                  refine ct_callv E sb87 hP74 hD74 hS74 (va_runV (As := [.int y_19, .int v3_10, .int v4_11]) (rest := []) ⟨hx, hb, hml, hown, hts⟩ (c_X0_setMoved l D cB cI cJ cQ N r0 H74.size y_19 v3_10 v4_11 f_columns f_rows f_scale f_toEnd f_between f_kept f_modes_5 f_across_6 f_down_7 (f_modes_83, f_across_84, f_down_85) hcl86) (cwV 3 hts gX0_readModes_X0_setMoved rfl rfl rfl cdV_X0_setMoved ⟨Nat.le_of_ble_eq_true rfl, Nat.le_of_ble_eq_true rfl⟩) (ct_preV (q0 := 4) (ci := 0) E sb87 hP74 hD74 hS74 rfl rfl) rfl rfl hl23.1 rfl (lv_room (Nat.le_of_ble_eq_true rfl)) dX0_readModes_121 ⟨Nat.zero_le _, Nat.zero_le _⟩) (fun H88 lc88 hP88 hD88 hS88 => ?_); clear sb87 hcl86
                  clear hP74 hD74 hS74
                  have hP88 : va_P D vwCl (wf [oB (r2 0) 1 [.ref (r2 1), .ref (r2 2), .ref (r2 3), .ref (r2 5), .ref (r2 7), .int h_columns, .int h_rows, .int h_limit], aI (r2 7) cI 36 h_order, oB (r1 0) 4 [.ref (r1 1), .int t_size, .int t_position_70, .int t_fault_71], aI (r1 1) cB 6000 t_bytes, oB (r0 0) 0 [.ref (r0 1), .ref (r0 2), .ref (r0 3), .ref (r0 4), .ref (r0 5), .ref (r0 6), .int f_columns, .int f_rows, .int f_scale, .int f_toEnd, .int f_between, .int f_kept], aI (r0 1) cI 36 f_modes_83, aI (r0 2) cI 36 f_across_84, aI (r0 3) cI 36 f_down_85] []) H88 := hP88
                  have hD88 : va_D A (wf [oB (r2 0) 1 [.ref (r2 1), .ref (r2 2), .ref (r2 3), .ref (r2 5), .ref (r2 7), .int h_columns, .int h_rows, .int h_limit], aI (r2 7) cI 36 h_order, oB (r1 0) 4 [.ref (r1 1), .int t_size, .int t_position_70, .int t_fault_71], aI (r1 1) cB 6000 t_bytes, oB (r0 0) 0 [.ref (r0 1), .ref (r0 2), .ref (r0 3), .ref (r0 4), .ref (r0 5), .ref (r0 6), .int f_columns, .int f_rows, .int f_scale, .int f_toEnd, .int f_between, .int f_kept], aI (r0 1) cI 36 f_modes_83, aI (r0 2) cI 36 f_across_84, aI (r0 3) cI 36 f_down_85] []) := hD88
                  refine lv_goto (tgt := 135) hx hb dX0_readModes_124 (by decide) ?_
                  obtain ⟨hP89, hD89⟩ := ct_ord (n := 8) (k := 0) [6, 7, 2, 3, 0, 1, 4, 5] [] hP88 hD88 rfl rfl (by decide +kernel) (by decide +kernel)
                  have hS89 := hS88
                  have hP89 : va_P D vwCl (wf [aI (r0 2) cI 36 f_across_84, aI (r0 3) cI 36 f_down_85, oB (r1 0) 4 [.ref (r1 1), .int t_size, .int t_position_70, .int t_fault_71], aI (r1 1) cB 6000 t_bytes, oB (r2 0) 1 [.ref (r2 1), .ref (r2 2), .ref (r2 3), .ref (r2 5), .ref (r2 7), .int h_columns, .int h_rows, .int h_limit], aI (r2 7) cI 36 h_order, oB (r0 0) 0 [.ref (r0 1), .ref (r0 2), .ref (r0 3), .ref (r0 4), .ref (r0 5), .ref (r0 6), .int f_columns, .int f_rows, .int f_scale, .int f_toEnd, .int f_between, .int f_kept], aI (r0 1) cI 36 f_modes_83] []) H88 := hP89
                  have hD89 : va_D A (wf [aI (r0 2) cI 36 f_across_84, aI (r0 3) cI 36 f_down_85, oB (r1 0) 4 [.ref (r1 1), .int t_size, .int t_position_70, .int t_fault_71], aI (r1 1) cB 6000 t_bytes, oB (r2 0) 1 [.ref (r2 1), .ref (r2 2), .ref (r2 3), .ref (r2 5), .ref (r2 7), .int h_columns, .int h_rows, .int h_limit], aI (r2 7) cI 36 h_order, oB (r0 0) 0 [.ref (r0 1), .ref (r0 2), .ref (r0 3), .ref (r0 4), .ref (r0 5), .ref (r0 6), .int f_columns, .int f_rows, .int f_scale, .int f_toEnd, .int f_between, .int f_kept], aI (r0 1) cI 36 f_modes_83] []) := hD89
                  exact KJ29 f_modes_83 f_across_84 f_down_85 t_position_70 t_fault_71 v3_10 v4_11 _ _ _ hm86 hP89 hD89 hS89 (lv_sub hl23 [1, 2, 3, 4, 5, 6] rfl)
              · have hm90 := bq_t hm64 hc67; clear hm64
                refine lv_aload_n hx hb dX0_readModes_85 rfl (lv_at hl23 2 rfl) ?_
                obtain ⟨y_91, t_position_92, t_fault_93, hcl94, hm94⟩ := bd3_some hm90; clear hm90
                have sb95 := ctS.mk (n := 8) (k := 0) (pre := [aI (r0 2) cI 36 f_across_6, aI (r0 3) cI 36 f_down_7, oB (r2 0) 1 [.ref (r2 1), .ref (r2 2), .ref (r2 3), .ref (r2 5), .ref (r2 7), .int h_columns, .int h_rows, .int h_limit], aI (r2 7) cI 36 h_order, oB (r0 0) 0 [.ref (r0 1), .ref (r0 2), .ref (r0 3), .ref (r0 4), .ref (r0 5), .ref (r0 6), .int f_columns, .int f_rows, .int f_scale, .int f_toEnd, .int f_between, .int f_kept], aI (r0 1) cI 36 f_modes_5, oB (r1 0) 4 [.ref (r1 1), .int t_size, .int t_position_62, .int t_fault_63], aI (r1 1) cB 6000 t_bytes]) (tl := []) [6, 7] [0, 1, 2, 3, 4, 5] [] [] rfl rfl (by decide +kernel) (by decide +kernel)
                refine ct_calli (r := y_91) E sb95 hP66 hD66 hS66 (va_runS (As := [.ref (r1 0)]) (rest := []) ⟨hx, hb, hml, hown, hts⟩ (c_X0_readMove l D cB cI cJ cQ N r1 H66.size t_size t_position_62 t_fault_63 t_bytes (y_91, t_position_92, t_fault_93) hcl94) (va_cwS 1 hts gX0_readModes_X0_readMove rfl rfl rfl cdS_X0_readMove ⟨Nat.le_of_ble_eq_true rfl, Nat.le_of_ble_eq_true rfl⟩) (ct_preS E sb95 hP66 hD66 hS66) rfl rfl hl23.1 rfl (lv_room (Nat.le_of_ble_eq_true rfl)) dX0_readModes_86 ⟨Nat.zero_le _, Nat.zero_le _⟩) (fun H96 lc96 hP96 hD96 hS96 => ?_); clear sb95 hcl94
                clear hP66 hD66 hS66
                have hP96 : va_P D vwCl (wf [aI (r0 2) cI 36 f_across_6, aI (r0 3) cI 36 f_down_7, oB (r2 0) 1 [.ref (r2 1), .ref (r2 2), .ref (r2 3), .ref (r2 5), .ref (r2 7), .int h_columns, .int h_rows, .int h_limit], aI (r2 7) cI 36 h_order, oB (r0 0) 0 [.ref (r0 1), .ref (r0 2), .ref (r0 3), .ref (r0 4), .ref (r0 5), .ref (r0 6), .int f_columns, .int f_rows, .int f_scale, .int f_toEnd, .int f_between, .int f_kept], aI (r0 1) cI 36 f_modes_5, oB (r1 0) 4 [.ref (r1 1), .int t_size, .int t_position_92, .int t_fault_93], aI (r1 1) cB 6000 t_bytes] []) H96 := hP96
                have hD96 : va_D A (wf [aI (r0 2) cI 36 f_across_6, aI (r0 3) cI 36 f_down_7, oB (r2 0) 1 [.ref (r2 1), .ref (r2 2), .ref (r2 3), .ref (r2 5), .ref (r2 7), .int h_columns, .int h_rows, .int h_limit], aI (r2 7) cI 36 h_order, oB (r0 0) 0 [.ref (r0 1), .ref (r0 2), .ref (r0 3), .ref (r0 4), .ref (r0 5), .ref (r0 6), .int f_columns, .int f_rows, .int f_scale, .int f_toEnd, .int f_between, .int f_kept], aI (r0 1) cI 36 f_modes_5, oB (r1 0) 4 [.ref (r1 1), .int t_size, .int t_position_92, .int t_fault_93], aI (r1 1) cB 6000 t_bytes] []) := hD96
                refine lv_istore_n (lv' := [(3, .int y_91), (6, .int y_19), (0, .ref (r0 0)), (1, .ref (r1 0)), (2, .ref (r2 0)), (4, .int v4_11), (5, .int v5_12)]) hx hb dX0_readModes_89 rfl hl23 (by decide) rfl (fun ls97 hl97 => ?_); clear hl23
                refine lv_aload_n hx hb dX0_readModes_90 rfl (lv_at hl97 3 rfl) ?_
                obtain ⟨y_98, t_position_99, t_fault_100, hcl101, hm101⟩ := bd3_some hm94; clear hm94
                have sb102 := ctS.mk (n := 8) (k := 0) (pre := [aI (r0 2) cI 36 f_across_6, aI (r0 3) cI 36 f_down_7, oB (r2 0) 1 [.ref (r2 1), .ref (r2 2), .ref (r2 3), .ref (r2 5), .ref (r2 7), .int h_columns, .int h_rows, .int h_limit], aI (r2 7) cI 36 h_order, oB (r0 0) 0 [.ref (r0 1), .ref (r0 2), .ref (r0 3), .ref (r0 4), .ref (r0 5), .ref (r0 6), .int f_columns, .int f_rows, .int f_scale, .int f_toEnd, .int f_between, .int f_kept], aI (r0 1) cI 36 f_modes_5, oB (r1 0) 4 [.ref (r1 1), .int t_size, .int t_position_92, .int t_fault_93], aI (r1 1) cB 6000 t_bytes]) (tl := []) [6, 7] [0, 1, 2, 3, 4, 5] [] [] rfl rfl (by decide +kernel) (by decide +kernel)
                refine ct_calli (r := y_98) E sb102 hP96 hD96 hS96 (va_runS (As := [.ref (r1 0)]) (rest := []) ⟨hx, hb, hml, hown, hts⟩ (c_X0_readMove l D cB cI cJ cQ N r1 H96.size t_size t_position_92 t_fault_93 t_bytes (y_98, t_position_99, t_fault_100) hcl101) (va_cwS 1 hts gX0_readModes_X0_readMove rfl rfl rfl cdS_X0_readMove ⟨Nat.le_of_ble_eq_true rfl, Nat.le_of_ble_eq_true rfl⟩) (ct_preS E sb102 hP96 hD96 hS96) rfl rfl hl97.1 rfl (lv_room (Nat.le_of_ble_eq_true rfl)) dX0_readModes_91 ⟨Nat.zero_le _, Nat.zero_le _⟩) (fun H103 lc103 hP103 hD103 hS103 => ?_); clear sb102 hcl101
                clear hP96 hD96 hS96
                have hP103 : va_P D vwCl (wf [aI (r0 2) cI 36 f_across_6, aI (r0 3) cI 36 f_down_7, oB (r2 0) 1 [.ref (r2 1), .ref (r2 2), .ref (r2 3), .ref (r2 5), .ref (r2 7), .int h_columns, .int h_rows, .int h_limit], aI (r2 7) cI 36 h_order, oB (r0 0) 0 [.ref (r0 1), .ref (r0 2), .ref (r0 3), .ref (r0 4), .ref (r0 5), .ref (r0 6), .int f_columns, .int f_rows, .int f_scale, .int f_toEnd, .int f_between, .int f_kept], aI (r0 1) cI 36 f_modes_5, oB (r1 0) 4 [.ref (r1 1), .int t_size, .int t_position_99, .int t_fault_100], aI (r1 1) cB 6000 t_bytes] []) H103 := hP103
                have hD103 : va_D A (wf [aI (r0 2) cI 36 f_across_6, aI (r0 3) cI 36 f_down_7, oB (r2 0) 1 [.ref (r2 1), .ref (r2 2), .ref (r2 3), .ref (r2 5), .ref (r2 7), .int h_columns, .int h_rows, .int h_limit], aI (r2 7) cI 36 h_order, oB (r0 0) 0 [.ref (r0 1), .ref (r0 2), .ref (r0 3), .ref (r0 4), .ref (r0 5), .ref (r0 6), .int f_columns, .int f_rows, .int f_scale, .int f_toEnd, .int f_between, .int f_kept], aI (r0 1) cI 36 f_modes_5, oB (r1 0) 4 [.ref (r1 1), .int t_size, .int t_position_99, .int t_fault_100], aI (r1 1) cB 6000 t_bytes] []) := hD103
                refine lv_istore (lv' := [(4, .int y_98), (3, .int y_91), (6, .int y_19), (0, .ref (r0 0)), (1, .ref (r1 0)), (2, .ref (r2 0)), (5, .int v5_12)]) hx hb dX0_readModes_94 hl97 (by decide) rfl (fun ls104 hl104 => ?_); clear hl97
                refine lv_aload_n hx hb dX0_readModes_96 rfl (lv_at hl104 3 rfl) ?_
                refine lv_iload hx hb dX0_readModes_97 (lv_at hl104 2 rfl) ?_
                refine lv_iload_n hx hb dX0_readModes_99 rfl (lv_at hl104 1 rfl) ?_
                refine lv_iload hx hb dX0_readModes_100 (lv_at hl104 0 rfl) ?_
                obtain ⟨f_modes_105, f_across_106, f_down_107, hcl108, hm108⟩ := bd3_some hm101; clear hm101
                have sb109 := ctS.mk (n := 8) (k := 0) (pre := [aI (r0 2) cI 36 f_across_6, aI (r0 3) cI 36 f_down_7, oB (r2 0) 1 [.ref (r2 1), .ref (r2 2), .ref (r2 3), .ref (r2 5), .ref (r2 7), .int h_columns, .int h_rows, .int h_limit], aI (r2 7) cI 36 h_order, oB (r0 0) 0 [.ref (r0 1), .ref (r0 2), .ref (r0 3), .ref (r0 4), .ref (r0 5), .ref (r0 6), .int f_columns, .int f_rows, .int f_scale, .int f_toEnd, .int f_between, .int f_kept], aI (r0 1) cI 36 f_modes_5, oB (r1 0) 4 [.ref (r1 1), .int t_size, .int t_position_99, .int t_fault_100], aI (r1 1) cB 6000 t_bytes]) (tl := []) [4, 5, 0, 1] [2, 3, 6, 7] [] [] rfl rfl (by decide +kernel) (by decide +kernel)
                refine ct_callv E sb109 hP103 hD103 hS103 (va_runV (As := [.int y_19, .int y_91, .int y_98]) (rest := []) ⟨hx, hb, hml, hown, hts⟩ (c_X0_setMoved l D cB cI cJ cQ N r0 H103.size y_19 y_91 y_98 f_columns f_rows f_scale f_toEnd f_between f_kept f_modes_5 f_across_6 f_down_7 (f_modes_105, f_across_106, f_down_107) hcl108) (cwV 3 hts gX0_readModes_X0_setMoved rfl rfl rfl cdV_X0_setMoved ⟨Nat.le_of_ble_eq_true rfl, Nat.le_of_ble_eq_true rfl⟩) (ct_preV (q0 := 4) (ci := 0) E sb109 hP103 hD103 hS103 rfl rfl) rfl rfl hl104.1 rfl (lv_room (Nat.le_of_ble_eq_true rfl)) dX0_readModes_102 ⟨Nat.zero_le _, Nat.zero_le _⟩) (fun H110 lc110 hP110 hD110 hS110 => ?_); clear sb109 hcl108
                clear hP103 hD103 hS103
                have hP110 : va_P D vwCl (wf [oB (r2 0) 1 [.ref (r2 1), .ref (r2 2), .ref (r2 3), .ref (r2 5), .ref (r2 7), .int h_columns, .int h_rows, .int h_limit], aI (r2 7) cI 36 h_order, oB (r1 0) 4 [.ref (r1 1), .int t_size, .int t_position_99, .int t_fault_100], aI (r1 1) cB 6000 t_bytes, oB (r0 0) 0 [.ref (r0 1), .ref (r0 2), .ref (r0 3), .ref (r0 4), .ref (r0 5), .ref (r0 6), .int f_columns, .int f_rows, .int f_scale, .int f_toEnd, .int f_between, .int f_kept], aI (r0 1) cI 36 f_modes_105, aI (r0 2) cI 36 f_across_106, aI (r0 3) cI 36 f_down_107] []) H110 := hP110
                have hD110 : va_D A (wf [oB (r2 0) 1 [.ref (r2 1), .ref (r2 2), .ref (r2 3), .ref (r2 5), .ref (r2 7), .int h_columns, .int h_rows, .int h_limit], aI (r2 7) cI 36 h_order, oB (r1 0) 4 [.ref (r1 1), .int t_size, .int t_position_99, .int t_fault_100], aI (r1 1) cB 6000 t_bytes, oB (r0 0) 0 [.ref (r0 1), .ref (r0 2), .ref (r0 3), .ref (r0 4), .ref (r0 5), .ref (r0 6), .int f_columns, .int f_rows, .int f_scale, .int f_toEnd, .int f_between, .int f_kept], aI (r0 1) cI 36 f_modes_105, aI (r0 2) cI 36 f_across_106, aI (r0 3) cI 36 f_down_107] []) := hD110
                refine lv_goto (tgt := 135) hx hb dX0_readModes_105 (by decide) ?_
                obtain ⟨hP111, hD111⟩ := ct_ord (n := 8) (k := 0) [6, 7, 2, 3, 0, 1, 4, 5] [] hP110 hD110 rfl rfl (by decide +kernel) (by decide +kernel)
                have hS111 := hS110
                have hP111 : va_P D vwCl (wf [aI (r0 2) cI 36 f_across_106, aI (r0 3) cI 36 f_down_107, oB (r1 0) 4 [.ref (r1 1), .int t_size, .int t_position_99, .int t_fault_100], aI (r1 1) cB 6000 t_bytes, oB (r2 0) 1 [.ref (r2 1), .ref (r2 2), .ref (r2 3), .ref (r2 5), .ref (r2 7), .int h_columns, .int h_rows, .int h_limit], aI (r2 7) cI 36 h_order, oB (r0 0) 0 [.ref (r0 1), .ref (r0 2), .ref (r0 3), .ref (r0 4), .ref (r0 5), .ref (r0 6), .int f_columns, .int f_rows, .int f_scale, .int f_toEnd, .int f_between, .int f_kept], aI (r0 1) cI 36 f_modes_105] []) H110 := hP111
                have hD111 : va_D A (wf [aI (r0 2) cI 36 f_across_106, aI (r0 3) cI 36 f_down_107, oB (r1 0) 4 [.ref (r1 1), .int t_size, .int t_position_99, .int t_fault_100], aI (r1 1) cB 6000 t_bytes, oB (r2 0) 1 [.ref (r2 1), .ref (r2 2), .ref (r2 3), .ref (r2 5), .ref (r2 7), .int h_columns, .int h_rows, .int h_limit], aI (r2 7) cI 36 h_order, oB (r0 0) 0 [.ref (r0 1), .ref (r0 2), .ref (r0 3), .ref (r0 4), .ref (r0 5), .ref (r0 6), .int f_columns, .int f_rows, .int f_scale, .int f_toEnd, .int f_between, .int f_kept], aI (r0 1) cI 36 f_modes_105] []) := hD111
                exact KJ29 f_modes_105 f_across_106 f_down_107 t_position_99 t_fault_100 y_91 y_98 _ _ _ hm108 hP111 hD111 hS111 (lv_sub hl104 [3, 4, 5, 1, 0, 6] rfl)
            · have hm112 := bq_t hm56 hc59; clear hm56
              refine lv_aload_n hx hb dX0_readModes_67 rfl (lv_at hl23 1 rfl) ?_
              refine va_get (D := D) (ci := 0) (v := .ref (r0 1)) (C := RX0) (T := TX0) (N := 12) hx hb hts hi_X0_readModes_0 hown E.1 hP58 4 rfl rfl 0 (by decide) (hts _ (List.mem_of_getElem? (i := 3) rfl)) (fun _ h9 => h9) rfl dX0_readModes_68 ?_
              refine lv_iload hx hb dX0_readModes_71 (lv_at hl23 0 rfl) ?_
              refine lv_iconst (v := 2) hx hb dX0_readModes_73 (by decide) ?_
              obtain ⟨hin113, hm113⟩ := gi_some hm112; clear hm112
              obtain ⟨f_modes_114, ef_modes_114, hm115⟩ := nm_some hm113; clear hm113
              refine ct_iast (g := f_modes_114) (ws' := (wf [aI (r0 2) cI 36 f_across_6, aI (r0 3) cI 36 f_down_7, oB (r2 0) 1 [.ref (r2 1), .ref (r2 2), .ref (r2 3), .ref (r2 5), .ref (r2 7), .int h_columns, .int h_rows, .int h_limit], aI (r2 7) cI 36 h_order, oB (r0 0) 0 [.ref (r0 1), .ref (r0 2), .ref (r0 3), .ref (r0 4), .ref (r0 5), .ref (r0 6), .int f_columns, .int f_rows, .int f_scale, .int f_toEnd, .int f_between, .int f_kept], aI (r0 1) cI 36 f_modes_114, oB (r1 0) 4 [.ref (r1 1), .int t_size, .int t_position_54, .int t_fault_55], aI (r1 1) cB 6000 t_bytes] [])) hx hb E.1 hP58 hD58 hS58 5 0 rfl rfl hin113 ef_modes_114 rfl dX0_readModes_74 (fun H116 lc116 hP116 hD116 hS116 => ?_)
              clear hP58 hD58 hS58
              refine lv_goto (tgt := 135) hx hb dX0_readModes_75 (by decide) ?_
              obtain ⟨hP117, hD117⟩ := ct_ord (n := 8) (k := 0) [0, 1, 6, 7, 2, 3, 4, 5] [] hP116 hD116 rfl rfl (by decide +kernel) (by decide +kernel)
              have hS117 := hS116
              have hP117 : va_P D vwCl (wf [aI (r0 2) cI 36 f_across_6, aI (r0 3) cI 36 f_down_7, oB (r1 0) 4 [.ref (r1 1), .int t_size, .int t_position_54, .int t_fault_55], aI (r1 1) cB 6000 t_bytes, oB (r2 0) 1 [.ref (r2 1), .ref (r2 2), .ref (r2 3), .ref (r2 5), .ref (r2 7), .int h_columns, .int h_rows, .int h_limit], aI (r2 7) cI 36 h_order, oB (r0 0) 0 [.ref (r0 1), .ref (r0 2), .ref (r0 3), .ref (r0 4), .ref (r0 5), .ref (r0 6), .int f_columns, .int f_rows, .int f_scale, .int f_toEnd, .int f_between, .int f_kept], aI (r0 1) cI 36 f_modes_114] []) H116 := hP117
              have hD117 : va_D A (wf [aI (r0 2) cI 36 f_across_6, aI (r0 3) cI 36 f_down_7, oB (r1 0) 4 [.ref (r1 1), .int t_size, .int t_position_54, .int t_fault_55], aI (r1 1) cB 6000 t_bytes, oB (r2 0) 1 [.ref (r2 1), .ref (r2 2), .ref (r2 3), .ref (r2 5), .ref (r2 7), .int h_columns, .int h_rows, .int h_limit], aI (r2 7) cI 36 h_order, oB (r0 0) 0 [.ref (r0 1), .ref (r0 2), .ref (r0 3), .ref (r0 4), .ref (r0 5), .ref (r0 6), .int f_columns, .int f_rows, .int f_scale, .int f_toEnd, .int f_between, .int f_kept], aI (r0 1) cI 36 f_modes_114] []) := hD117
              exact KJ29 f_modes_114 f_across_6 f_down_7 t_position_54 t_fault_55 v3_10 v4_11 _ _ _ hm115 hP117 hD117 hS117 (lv_sub hl23 [1, 2, 3, 4, 5, 6] rfl)
          · have hm118 := bq_t hm48 hc51; clear hm48
            refine lv_aload_n hx hb dX0_readModes_49 rfl (lv_at hl23 1 rfl) ?_
            refine va_get (D := D) (ci := 0) (v := .ref (r0 1)) (C := RX0) (T := TX0) (N := 12) hx hb hts hi_X0_readModes_0 hown E.1 hP50 4 rfl rfl 0 (by decide) (hts _ (List.mem_of_getElem? (i := 3) rfl)) (fun _ h9 => h9) rfl dX0_readModes_50 ?_
            refine lv_iload hx hb dX0_readModes_53 (lv_at hl23 0 rfl) ?_
            refine lv_iconst (v := 1) hx hb dX0_readModes_55 (by decide) ?_
            obtain ⟨hin119, hm119⟩ := gi_some hm118; clear hm118
            obtain ⟨f_modes_120, ef_modes_120, hm121⟩ := nm_some hm119; clear hm119
            refine ct_iast (g := f_modes_120) (ws' := (wf [aI (r0 2) cI 36 f_across_6, aI (r0 3) cI 36 f_down_7, oB (r2 0) 1 [.ref (r2 1), .ref (r2 2), .ref (r2 3), .ref (r2 5), .ref (r2 7), .int h_columns, .int h_rows, .int h_limit], aI (r2 7) cI 36 h_order, oB (r0 0) 0 [.ref (r0 1), .ref (r0 2), .ref (r0 3), .ref (r0 4), .ref (r0 5), .ref (r0 6), .int f_columns, .int f_rows, .int f_scale, .int f_toEnd, .int f_between, .int f_kept], aI (r0 1) cI 36 f_modes_120, oB (r1 0) 4 [.ref (r1 1), .int t_size, .int t_position_46, .int t_fault_47], aI (r1 1) cB 6000 t_bytes] [])) hx hb E.1 hP50 hD50 hS50 5 0 rfl rfl hin119 ef_modes_120 rfl dX0_readModes_56 (fun H122 lc122 hP122 hD122 hS122 => ?_)
            clear hP50 hD50 hS50
            refine lv_goto (tgt := 135) hx hb dX0_readModes_57 (by decide) ?_
            obtain ⟨hP123, hD123⟩ := ct_ord (n := 8) (k := 0) [0, 1, 6, 7, 2, 3, 4, 5] [] hP122 hD122 rfl rfl (by decide +kernel) (by decide +kernel)
            have hS123 := hS122
            have hP123 : va_P D vwCl (wf [aI (r0 2) cI 36 f_across_6, aI (r0 3) cI 36 f_down_7, oB (r1 0) 4 [.ref (r1 1), .int t_size, .int t_position_46, .int t_fault_47], aI (r1 1) cB 6000 t_bytes, oB (r2 0) 1 [.ref (r2 1), .ref (r2 2), .ref (r2 3), .ref (r2 5), .ref (r2 7), .int h_columns, .int h_rows, .int h_limit], aI (r2 7) cI 36 h_order, oB (r0 0) 0 [.ref (r0 1), .ref (r0 2), .ref (r0 3), .ref (r0 4), .ref (r0 5), .ref (r0 6), .int f_columns, .int f_rows, .int f_scale, .int f_toEnd, .int f_between, .int f_kept], aI (r0 1) cI 36 f_modes_120] []) H122 := hP123
            have hD123 : va_D A (wf [aI (r0 2) cI 36 f_across_6, aI (r0 3) cI 36 f_down_7, oB (r1 0) 4 [.ref (r1 1), .int t_size, .int t_position_46, .int t_fault_47], aI (r1 1) cB 6000 t_bytes, oB (r2 0) 1 [.ref (r2 1), .ref (r2 2), .ref (r2 3), .ref (r2 5), .ref (r2 7), .int h_columns, .int h_rows, .int h_limit], aI (r2 7) cI 36 h_order, oB (r0 0) 0 [.ref (r0 1), .ref (r0 2), .ref (r0 3), .ref (r0 4), .ref (r0 5), .ref (r0 6), .int f_columns, .int f_rows, .int f_scale, .int f_toEnd, .int f_between, .int f_kept], aI (r0 1) cI 36 f_modes_120] []) := hD123
            exact KJ29 f_modes_120 f_across_6 f_down_7 t_position_46 t_fault_47 v3_10 v4_11 _ _ _ hm121 hP123 hD123 hS123 (lv_sub hl23 [1, 2, 3, 4, 5, 6] rfl)
        · have hm124 := bq_t hm29 hc43; clear hm29
          refine lv_goto (tgt := 135) hx hb dX0_readModes_39 (by decide) ?_
          exact KJ29 f_modes_5 f_across_6 f_down_7 t_position_8 t_fault_9 v3_10 v4_11 _ _ _ hm124 hP27 hD27 hS27 (lv_sub hl23 [1, 2, 3, 4, 5, 6] rfl)
  refine LP4 4000 f_modes f_across f_down t_position t_fault (0 : Int32) (0 : Int32) (0 : Int32) (f_modes_125, f_across_126, f_down_127, t_position_128, t_fault_129) _ _ _ hlp4 hP0 hD0 hS0 (lv_sub hl3 [3, 4, 5, 2, 1, 0] rfl) (fun H131 lc131 ls131 hP131 hD131 hS131 hl131 => ?_); clear LP4 hlp4
  clear hP0 hD0 hS0
  have hl131 : lv_has ls131 7 [] := hl131
  have hP131 : va_P D vwCl (wf [oB (r0 0) 0 [.ref (r0 1), .ref (r0 2), .ref (r0 3), .ref (r0 4), .ref (r0 5), .ref (r0 6), .int f_columns, .int f_rows, .int f_scale, .int f_toEnd, .int f_between, .int f_kept], aI (r0 1) cI 36 f_modes_125, aI (r0 2) cI 36 f_across_126, aI (r0 3) cI 36 f_down_127, oB (r1 0) 4 [.ref (r1 1), .int t_size, .int t_position_128, .int t_fault_129], aI (r1 1) cB 6000 t_bytes, oB (r2 0) 1 [.ref (r2 1), .ref (r2 2), .ref (r2 3), .ref (r2 5), .ref (r2 7), .int h_columns, .int h_rows, .int h_limit], aI (r2 7) cI 36 h_order] []) H131 := hP131
  have hD131 : va_D A (wf [oB (r0 0) 0 [.ref (r0 1), .ref (r0 2), .ref (r0 3), .ref (r0 4), .ref (r0 5), .ref (r0 6), .int f_columns, .int f_rows, .int f_scale, .int f_toEnd, .int f_between, .int f_kept], aI (r0 1) cI 36 f_modes_125, aI (r0 2) cI 36 f_across_126, aI (r0 3) cI 36 f_down_127, oB (r1 0) 4 [.ref (r1 1), .int t_size, .int t_position_128, .int t_fault_129], aI (r1 1) cB 6000 t_bytes, oB (r2 0) 1 [.ref (r2 1), .ref (r2 2), .ref (r2 3), .ref (r2 5), .ref (r2 7), .int h_columns, .int h_rows, .int h_limit], aI (r2 7) cI 36 h_order] []) := hD131
  obtain rfl := Option.some.inj hm130
  rw [hQ]
  exact ct_vret hx hb hr hlk hP131 hD131 hS131 dX0_readModes_141

def f_X0_goTo (x2 : Int32) (x3 : Int32) (f_places : Nat → Int32) (t_fault : Int32) : Option ((Nat → Int32) × Int32) :=
  jn (fun (k2 : Int32 → Option ((Nat → Int32) × Int32)) => (if x3 ≤ (64 : Int32) then
  (k2 t_fault)
  else
  (bd1 (f_X4_fail (6 : Int32) t_fault) fun t_fault_13 =>
  k2 t_fault_13))) fun t_fault_3 =>
  gi x2 36 <|
  nm (upd f_places x2.toNatClampNeg x3 : Nat → Int32) fun f_places_7 =>
  some (f_places_7, t_fault_3)

abbrev rm_X0_goTo : Room := { frames := 1, cells := 0, slots := 0, locals := 21 }

theorem cdS_X0_goTo : yX0_goTo.cls ≠ "java/lang/invoke/MethodHandle" ∧ yX0_goTo.cls ≠ "java/lang/invoke/VarHandle" ∧ (parseMethodDescriptor yX0_goTo.desc).map (fun d => d.parameters.length) = some 3 := by decide +kernel

theorem cdV_X0_goTo : yX0_goTo.cls = RX0 ∧ yX0_goTo.cls ≠ "java/lang/invoke/MethodHandle" ∧ yX0_goTo.cls ≠ "java/lang/invoke/VarHandle" ∧ (parseMethodDescriptor yX0_goTo.desc).map (fun d => d.parameters.length) = some 3 := ⟨rfl, cdS_X0_goTo⟩

theorem hi_X0_goTo_0 : ∀ w ∈ u_ws RX0 TX0 12, w ∈ wsX0_goTo := fun _ h => List.mem_cons_of_mem _ (List.mem_append_left _ (List.mem_append_right _ h))

set_option maxHeartbeats 40000000 in
set_option maxRecDepth 100000 in
theorem c_X0_goTo (l : Launch) (D : va_G) (cB cI cJ cQ : ClassId) (N : Nat) (r0 : Nat → Nat) (r1 : Nat → Nat) (sz : Nat) (x2 : Int32) (x3 : Int32) (f_columns : Int32) (f_rows : Int32) (f_scale : Int32) (f_toEnd : Int32) (f_between : Int32) (f_kept : Int32) (f_places : Nat → Int32) (t_size : Int32) (t_position : Int32) (t_fault : Int32) (o : (Nat → Int32) × Int32) (hm0 : f_X0_goTo x2 x3 f_places t_fault = some o) : Met l yX0_goTo wsX0_goTo rm_X0_goTo (ctP D cB cI cJ cQ N sz [.ref (r0 0), .ref (r1 0), .int x2, .int x3] (wf [oB (r0 0) 0 [.ref (r0 1), .ref (r0 2), .ref (r0 3), .ref (r0 4), .ref (r0 5), .ref (r0 6), .int f_columns, .int f_rows, .int f_scale, .int f_toEnd, .int f_between, .int f_kept], aI (r0 5) cI 36 f_places, oB (r1 0) 4 [.ref (r1 1), .int t_size, .int t_position, .int t_fault]] [])) (ctQv D (wf [oB (r0 0) 0 [.ref (r0 1), .ref (r0 2), .ref (r0 3), .ref (r0 4), .ref (r0 5), .ref (r0 6), .int f_columns, .int f_rows, .int f_scale, .int f_toEnd, .int f_between, .int f_kept], aI (r0 5) cI 36 (o.1), oB (r1 0) 4 [.ref (r1 1), .int t_size, .int t_position, .int (o.2)]] []) (va_A (wf [oB (r0 0) 0 [.ref (r0 1), .ref (r0 2), .ref (r0 3), .ref (r0 4), .ref (r0 5), .ref (r0 6), .int f_columns, .int f_rows, .int f_scale, .int f_toEnd, .int f_between, .int f_kept], aI (r0 5) cI 36 f_places, oB (r1 0) 4 [.ref (r1 1), .int t_size, .int t_position, .int t_fault]] []) sz)) 0 0 (va_A (wf [oB (r0 0) 0 [.ref (r0 1), .ref (r0 2), .ref (r0 3), .ref (r0 4), .ref (r0 5), .ref (r0 6), .int f_columns, .int f_rows, .int f_scale, .int f_toEnd, .int f_between, .int f_kept], aI (r0 5) cI 36 f_places, oB (r1 0) 4 [.ref (r1 1), .int t_size, .int t_position, .int t_fault]] []) sz) := by
  refine ct_of (cc := cX0_goTo) (maxL := 4) (ret := none) (own := RX0) (Qp := ctQv D (wf [oB (r0 0) 0 [.ref (r0 1), .ref (r0 2), .ref (r0 3), .ref (r0 4), .ref (r0 5), .ref (r0 6), .int f_columns, .int f_rows, .int f_scale, .int f_toEnd, .int f_between, .int f_kept], aI (r0 5) cI 36 (o.1), oB (r1 0) 4 [.ref (r1 1), .int t_size, .int t_position, .int (o.2)]] [])) (by decide) rfl rfl (Nat.le_of_ble_eq_true rfl) ?_
  intro p e s m args below meth c A hx hb hr hml hown hts hlk hnm hsz hAe E hP0 hD0 hS0 ls0 hl0
  subst hsz
  have hl0 : lv_has ls0 4 [(0, .ref (r0 0)), (1, .ref (r1 0)), (2, .int x2), (3, .int x3)] := hl0
  obtain ⟨QQ, hQ⟩ : ∃ Q : State → Prop, Q = MQ below (ctQv D (wf [oB (r0 0) 0 [.ref (r0 1), .ref (r0 2), .ref (r0 3), .ref (r0 4), .ref (r0 5), .ref (r0 6), .int f_columns, .int f_rows, .int f_scale, .int f_toEnd, .int f_between, .int f_kept], aI (r0 5) cI 36 (o.1), oB (r1 0) 4 [.ref (r1 1), .int t_size, .int t_position, .int (o.2)]] []) A) args s 0 0 A := ⟨_, rfl⟩
  rw [← hQ]
  unfold f_X0_goTo at hm0
  refine lv_iload_n hx hb dX0_goTo_0 rfl (lv_at hl0 3 rfl) ?_
  refine lv_bipush (v := 64) hx hb dX0_goTo_1 (by decide) ?_
  obtain ⟨k2, ek2, hm2⟩ := jn_some hm0; clear hm0
  have KJ2 : ∀ (t_fault_3 : Int32) (H4 : Heap) (lc4 : List Loc) (ls4 : Array Slot), k2 t_fault_3 = some o → va_P D vwCl (wf [oB (r0 0) 0 [.ref (r0 1), .ref (r0 2), .ref (r0 3), .ref (r0 4), .ref (r0 5), .ref (r0 6), .int f_columns, .int f_rows, .int f_scale, .int f_toEnd, .int f_between, .int f_kept], aI (r0 5) cI 36 f_places, oB (r1 0) 4 [.ref (r1 1), .int t_size, .int t_position, .int t_fault_3]] []) H4 → va_D A (wf [oB (r0 0) 0 [.ref (r0 1), .ref (r0 2), .ref (r0 3), .ref (r0 4), .ref (r0 5), .ref (r0 6), .int f_columns, .int f_rows, .int f_scale, .int f_toEnd, .int f_between, .int f_kept], aI (r0 5) cI 36 f_places, oB (r1 0) 4 [.ref (r1 1), .int t_size, .int t_position, .int t_fault_3]] []) → va_S A s.heap H4 lc4 → lv_has ls4 4 [(0, .ref (r0 0)), (2, .int x2), (3, .int x3)] → W p l e rm_X0_goTo s m args below meth c H4 lc4 0 0 QQ (F0 m 12 ls4 []) := by
    intro t_fault_3 H4 lc4 ls4 hm5 hP4 hD4 hS4 hl4
    rw [ek2] at hm5
    refine lv_aload_n hx hb dX0_goTo_12 rfl (lv_at hl4 0 rfl) ?_
    refine va_get (D := D) (ci := 0) (v := .ref (r0 5)) (C := RX0) (T := TX0) (N := 12) hx hb hts hi_X0_goTo_0 hown E.1 hP4 0 rfl rfl 4 (by decide) (hts _ (List.mem_of_getElem? (i := 1) rfl)) (fun _ h9 => h9) rfl dX0_goTo_13 ?_
    refine lv_iload_n hx hb dX0_goTo_16 rfl (lv_at hl4 1 rfl) ?_
    refine lv_iload_n hx hb dX0_goTo_17 rfl (lv_at hl4 2 rfl) ?_
    obtain ⟨hin6, hm6⟩ := gi_some hm5; clear hm5
    obtain ⟨f_places_7, ef_places_7, hm8⟩ := nm_some hm6; clear hm6
    refine ct_iast (g := f_places_7) (ws' := (wf [oB (r0 0) 0 [.ref (r0 1), .ref (r0 2), .ref (r0 3), .ref (r0 4), .ref (r0 5), .ref (r0 6), .int f_columns, .int f_rows, .int f_scale, .int f_toEnd, .int f_between, .int f_kept], aI (r0 5) cI 36 f_places_7, oB (r1 0) 4 [.ref (r1 1), .int t_size, .int t_position, .int t_fault_3]] [])) hx hb E.1 hP4 hD4 hS4 1 0 rfl rfl hin6 ef_places_7 rfl dX0_goTo_18 (fun H9 lc9 hP9 hD9 hS9 => ?_)
    clear hP4 hD4 hS4
    obtain rfl := Option.some.inj hm8
    rw [hQ]
    exact ct_vret hx hb hr hlk hP9 hD9 hS9 dX0_goTo_19
  refine lv_icmp_le (tgt := 12) hx hb dX0_goTo_3 (by decide) (fun hc10 => ?_) (fun hc10 => ?_)
  · have hm11 := bq_t hm2 hc10; clear hm2
    exact KJ2 t_fault _ _ _ hm11 hP0 hD0 hS0 (lv_sub hl0 [0, 2, 3] rfl)
  · have hm12 := bq_f hm2 hc10; clear hm2
    refine lv_aload_n hx hb dX0_goTo_6 rfl (lv_at hl0 1 rfl) ?_
    refine lv_bipush (v := 6) hx hb dX0_goTo_7 (by decide) ?_
    obtain ⟨t_fault_13, hcl14, hm14⟩ := bd1_some hm12; clear hm12
    have sb15 := ctS.mk (n := 3) (k := 0) (pre := [oB (r0 0) 0 [.ref (r0 1), .ref (r0 2), .ref (r0 3), .ref (r0 4), .ref (r0 5), .ref (r0 6), .int f_columns, .int f_rows, .int f_scale, .int f_toEnd, .int f_between, .int f_kept], aI (r0 5) cI 36 f_places, oB (r1 0) 4 [.ref (r1 1), .int t_size, .int t_position, .int t_fault]]) (tl := []) [2] [0, 1] [] [] rfl rfl (by decide +kernel) (by decide +kernel)
    refine ct_callv E sb15 hP0 hD0 hS0 (va_runV (As := [.int (6 : Int32)]) (rest := []) ⟨hx, hb, hml, hown, hts⟩ (c_X4_fail l D cB cI cJ cQ N r1 s.heap.size (6 : Int32) t_size t_position t_fault (t_fault_13) hcl14) (cwV 1 hts gX0_goTo_X4_fail rfl rfl rfl cdV_X4_fail ⟨Nat.le_of_ble_eq_true rfl, Nat.le_of_ble_eq_true rfl⟩) (ct_preV (q0 := 2) (ci := 4) E sb15 hP0 hD0 hS0 rfl rfl) rfl rfl hl0.1 rfl (lv_room (Nat.le_of_ble_eq_true rfl)) dX0_goTo_9 ⟨Nat.zero_le _, Nat.zero_le _⟩) (fun H16 lc16 hP16 hD16 hS16 => ?_); clear sb15 hcl14
    clear hP0 hD0 hS0
    have hP16 : va_P D vwCl (wf [oB (r0 0) 0 [.ref (r0 1), .ref (r0 2), .ref (r0 3), .ref (r0 4), .ref (r0 5), .ref (r0 6), .int f_columns, .int f_rows, .int f_scale, .int f_toEnd, .int f_between, .int f_kept], aI (r0 5) cI 36 f_places, oB (r1 0) 4 [.ref (r1 1), .int t_size, .int t_position, .int t_fault_13]] []) H16 := hP16
    have hD16 : va_D A (wf [oB (r0 0) 0 [.ref (r0 1), .ref (r0 2), .ref (r0 3), .ref (r0 4), .ref (r0 5), .ref (r0 6), .int f_columns, .int f_rows, .int f_scale, .int f_toEnd, .int f_between, .int f_kept], aI (r0 5) cI 36 f_places, oB (r1 0) 4 [.ref (r1 1), .int t_size, .int t_position, .int t_fault_13]] []) := hD16
    exact KJ2 t_fault_13 _ _ _ hm14 hP16 hD16 hS16 (lv_sub hl0 [0, 2, 3] rfl)
