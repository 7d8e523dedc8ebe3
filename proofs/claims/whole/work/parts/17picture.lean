def f_X3_setSize (x1 : Int32) (x2 : Int32) (p_width : Int32) (p_height : Int32) : Option (Int32 × Int32) :=
  nm ((x1 * (8 : Int32)) : Int32) fun p_width_1 =>
  nm ((x2 * (8 : Int32)) : Int32) fun p_height_4 =>
  some (p_width_1, p_height_4)

abbrev rm_X3_setSize : Room := { frames := 0, cells := 0, slots := 0, locals := 0 }

theorem cdS_X3_setSize : yX3_setSize.cls ≠ "java/lang/invoke/MethodHandle" ∧ yX3_setSize.cls ≠ "java/lang/invoke/VarHandle" ∧ (parseMethodDescriptor yX3_setSize.desc).map (fun d => d.parameters.length) = some 2 := by decide +kernel

theorem cdV_X3_setSize : yX3_setSize.cls = RX3 ∧ yX3_setSize.cls ≠ "java/lang/invoke/MethodHandle" ∧ yX3_setSize.cls ≠ "java/lang/invoke/VarHandle" ∧ (parseMethodDescriptor yX3_setSize.desc).map (fun d => d.parameters.length) = some 2 := ⟨rfl, cdS_X3_setSize⟩

theorem hi_X3_setSize_3 : ∀ w ∈ u_ws RX3 TX3 3, w ∈ wsX3_setSize := fun _ h => List.mem_cons_of_mem _ (List.mem_append_right _ h)

set_option maxHeartbeats 40000000 in
set_option maxRecDepth 100000 in
theorem c_X3_setSize (l : Launch) (D : va_G) (cB cI cJ cQ : ClassId) (N : Nat) (r0 : Nat → Nat) (sz : Nat) (x1 : Int32) (x2 : Int32) (p_width : Int32) (p_height : Int32) (o : Int32 × Int32) (hm0 : f_X3_setSize x1 x2 p_width p_height = some o) : Met l yX3_setSize wsX3_setSize rm_X3_setSize (ctP D cB cI cJ cQ N sz [.ref (r0 0), .int x1, .int x2] (wf [oB (r0 0) 3 [.ref (r0 1), .int p_width, .int p_height]] [])) (ctQv D (wf [oB (r0 0) 3 [.ref (r0 1), .int (o.1), .int (o.2)]] []) (va_A (wf [oB (r0 0) 3 [.ref (r0 1), .int p_width, .int p_height]] []) sz)) 0 0 (va_A (wf [oB (r0 0) 3 [.ref (r0 1), .int p_width, .int p_height]] []) sz) := by
  refine ct_of (cc := cX3_setSize) (maxL := 3) (ret := none) (own := RX3) (Qp := ctQv D (wf [oB (r0 0) 3 [.ref (r0 1), .int (o.1), .int (o.2)]] [])) (by decide) rfl rfl (Nat.le_of_ble_eq_true rfl) ?_
  intro p e s m args below meth c A hx hb hr hml hown hts hlk hnm hsz hAe E hP0 hD0 hS0 ls0 hl0
  subst hsz
  have hl0 : lv_has ls0 3 [(0, .ref (r0 0)), (1, .int x1), (2, .int x2)] := hl0
  obtain ⟨QQ, hQ⟩ : ∃ Q : State → Prop, Q = MQ below (ctQv D (wf [oB (r0 0) 3 [.ref (r0 1), .int (o.1), .int (o.2)]] []) A) args s 0 0 A := ⟨_, rfl⟩
  rw [← hQ]
  unfold f_X3_setSize at hm0
  refine lv_aload_n hx hb dX3_setSize_0 rfl (lv_at hl0 0 rfl) ?_
  refine lv_iload_n hx hb dX3_setSize_1 rfl (lv_at hl0 1 rfl) ?_
  refine lv_bipush (v := 8) hx hb dX3_setSize_2 (by decide) ?_
  refine lv_imul hx hb dX3_setSize_4 ?_
  obtain ⟨p_width_1, ep_width_1, hm2⟩ := nm_some hm0; clear hm0
  refine ct_topi ep_width_1 ?_
  refine ct_put (D := D) (ci := 3) (v := .int p_width_1) (ty := .int) (C := RX3) (T := TX3) (N := 3) (ws' := (wf [oB (r0 0) 3 [.ref (r0 1), .int p_width_1, .int p_height]] [])) hx hb hts hi_X3_setSize_3 tyX3 tyX3_ok nmX3 hown E.1 hP0 hD0 hS0 0 rfl rfl 1 (by decide) (hts _ (List.mem_of_getElem? (i := 1) rfl)) (fun _ h9 => h9) rfl (by decide +kernel) rfl rfl (Nat.le_of_ble_eq_true rfl) rfl dX3_setSize_5 (fun H3 lc3 hP3 hD3 hS3 => ?_)
  clear hP0 hD0 hS0
  refine lv_aload_n hx hb dX3_setSize_8 rfl (lv_at hl0 0 rfl) ?_
  refine lv_iload_n hx hb dX3_setSize_9 rfl (lv_at hl0 2 rfl) ?_
  refine lv_bipush (v := 8) hx hb dX3_setSize_10 (by decide) ?_
  refine lv_imul hx hb dX3_setSize_12 ?_
  obtain ⟨p_height_4, ep_height_4, hm5⟩ := nm_some hm2; clear hm2
  refine ct_topi ep_height_4 ?_
  refine ct_put (D := D) (ci := 3) (v := .int p_height_4) (ty := .int) (C := RX3) (T := TX3) (N := 3) (ws' := (wf [oB (r0 0) 3 [.ref (r0 1), .int p_width_1, .int p_height_4]] [])) hx hb hts hi_X3_setSize_3 tyX3 tyX3_ok nmX3 hown E.1 hP3 hD3 hS3 0 rfl rfl 2 (by decide) (hts _ (List.mem_of_getElem? (i := 2) rfl)) (fun _ h9 => h9) rfl (by decide +kernel) rfl rfl (Nat.le_of_ble_eq_true rfl) rfl dX3_setSize_13 (fun H6 lc6 hP6 hD6 hS6 => ?_)
  clear hP3 hD3 hS3
  obtain rfl := Option.some.inj hm5
  rw [hQ]
  exact ct_vret hx hb hr hlk hP6 hD6 hS6 dX3_setSize_16

def f_X3_has (x1 : Int32) (x2 : Int32) (p_width : Int32) (p_height : Int32) : Option (Int32) :=
  (if x1 < (0 : Int32) then
  (some ((0 : Int32)))
  else
  ((if p_width ≤ x1 then
  (some ((0 : Int32)))
  else
  ((if x2 < (0 : Int32) then
  (some ((0 : Int32)))
  else
  ((if p_height ≤ x2 then
  (some ((0 : Int32)))
  else
  (some ((1 : Int32))))))))))

abbrev rm_X3_has : Room := { frames := 0, cells := 0, slots := 0, locals := 0 }

theorem cdS_X3_has : yX3_has.cls ≠ "java/lang/invoke/MethodHandle" ∧ yX3_has.cls ≠ "java/lang/invoke/VarHandle" ∧ (parseMethodDescriptor yX3_has.desc).map (fun d => d.parameters.length) = some 2 := by decide +kernel

theorem cdV_X3_has : yX3_has.cls = RX3 ∧ yX3_has.cls ≠ "java/lang/invoke/MethodHandle" ∧ yX3_has.cls ≠ "java/lang/invoke/VarHandle" ∧ (parseMethodDescriptor yX3_has.desc).map (fun d => d.parameters.length) = some 2 := ⟨rfl, cdS_X3_has⟩

theorem hi_X3_has_3 : ∀ w ∈ u_ws RX3 TX3 3, w ∈ wsX3_has := fun _ h => List.mem_cons_of_mem _ (List.mem_append_right _ h)

set_option maxHeartbeats 40000000 in
set_option maxRecDepth 100000 in
theorem c_X3_has (l : Launch) (D : va_G) (cB cI cJ cQ : ClassId) (N : Nat) (r0 : Nat → Nat) (sz : Nat) (x1 : Int32) (x2 : Int32) (p_width : Int32) (p_height : Int32) (o : Int32) (hm0 : f_X3_has x1 x2 p_width p_height = some o) : Met l yX3_has wsX3_has rm_X3_has (ctP D cB cI cJ cQ N sz [.ref (r0 0), .int x1, .int x2] (wf [oB (r0 0) 3 [.ref (r0 1), .int p_width, .int p_height]] [])) (ctQi D o (wf [oB (r0 0) 3 [.ref (r0 1), .int p_width, .int p_height]] []) (va_A (wf [oB (r0 0) 3 [.ref (r0 1), .int p_width, .int p_height]] []) sz)) 0 0 (va_A (wf [oB (r0 0) 3 [.ref (r0 1), .int p_width, .int p_height]] []) sz) := by
  refine ct_of (cc := cX3_has) (maxL := 3) (ret := (some .boolean)) (own := RX3) (Qp := ctQi D o (wf [oB (r0 0) 3 [.ref (r0 1), .int p_width, .int p_height]] [])) (by decide) rfl rfl (Nat.le_of_ble_eq_true rfl) ?_
  intro p e s m args below meth c A hx hb hr hml hown hts hlk hnm hsz hAe E hP0 hD0 hS0 ls0 hl0
  subst hsz
  have hl0 : lv_has ls0 3 [(0, .ref (r0 0)), (1, .int x1), (2, .int x2)] := hl0
  obtain ⟨QQ, hQ⟩ : ∃ Q : State → Prop, Q = MQ below (ctQi D o (wf [oB (r0 0) 3 [.ref (r0 1), .int p_width, .int p_height]] []) A) args s 0 0 A := ⟨_, rfl⟩
  rw [← hQ]
  unfold f_X3_has at hm0
  refine lv_iload_n hx hb dX3_has_0 rfl (lv_at hl0 1 rfl) ?_
  refine lv_if_lt (tgt := 28) hx hb dX3_has_1 (by decide) (fun hc1 => ?_) (fun hc1 => ?_)
  · have hm2 := bq_t hm0 hc1; clear hm0
    refine lv_iconst (v := 0) hx hb dX3_has_28 (by decide) ?_
    obtain rfl := Option.some.inj hm2
    rw [hQ]
    exact ct_zret hx hb hr hlk (Or.inl rfl) hP0 hD0 hS0 rfl dX3_has_29
  · have hm3 := bq_f hm0 hc1; clear hm0
    refine lv_iload_n hx hb dX3_has_4 rfl (lv_at hl0 1 rfl) ?_
    refine lv_aload_n hx hb dX3_has_5 rfl (lv_at hl0 0 rfl) ?_
    refine va_get (D := D) (ci := 3) (v := .int p_width) (C := RX3) (T := TX3) (N := 3) hx hb hts hi_X3_has_3 hown E.1 hP0 0 rfl rfl 1 (by decide) (hts _ (List.mem_of_getElem? (i := 1) rfl)) (fun _ h9 => h9) rfl dX3_has_6 ?_
    refine lv_icmp_ge (tgt := 28) hx hb dX3_has_9 (by decide) (fun hc4 => ?_) (fun hc4 => ?_)
    · have hm5 := bq_t hm3 hc4; clear hm3
      refine lv_iconst (v := 0) hx hb dX3_has_28 (by decide) ?_
      obtain rfl := Option.some.inj hm5
      rw [hQ]
      exact ct_zret hx hb hr hlk (Or.inl rfl) hP0 hD0 hS0 rfl dX3_has_29
    · have hm6 := bq_f hm3 hc4; clear hm3
      refine lv_iload_n hx hb dX3_has_12 rfl (lv_at hl0 2 rfl) ?_
      refine lv_if_lt (tgt := 28) hx hb dX3_has_13 (by decide) (fun hc7 => ?_) (fun hc7 => ?_)
      · have hm8 := bq_t hm6 hc7; clear hm6
        refine lv_iconst (v := 0) hx hb dX3_has_28 (by decide) ?_
        obtain rfl := Option.some.inj hm8
        rw [hQ]
        exact ct_zret hx hb hr hlk (Or.inl rfl) hP0 hD0 hS0 rfl dX3_has_29
      · have hm9 := bq_f hm6 hc7; clear hm6
        refine lv_iload_n hx hb dX3_has_16 rfl (lv_at hl0 2 rfl) ?_
        refine lv_aload_n hx hb dX3_has_17 rfl (lv_at hl0 0 rfl) ?_
        refine va_get (D := D) (ci := 3) (v := .int p_height) (C := RX3) (T := TX3) (N := 3) hx hb hts hi_X3_has_3 hown E.1 hP0 0 rfl rfl 2 (by decide) (hts _ (List.mem_of_getElem? (i := 2) rfl)) (fun _ h9 => h9) rfl dX3_has_18 ?_
        refine lv_icmp_ge (tgt := 28) hx hb dX3_has_21 (by decide) (fun hc10 => ?_) (fun hc10 => ?_)
        · have hm11 := bq_t hm9 hc10; clear hm9
          refine lv_iconst (v := 0) hx hb dX3_has_28 (by decide) ?_
          obtain rfl := Option.some.inj hm11
          rw [hQ]
          exact ct_zret hx hb hr hlk (Or.inl rfl) hP0 hD0 hS0 rfl dX3_has_29
        · have hm12 := bq_f hm9 hc10; clear hm9
          refine lv_iconst (v := 1) hx hb dX3_has_24 (by decide) ?_
          refine lv_goto (tgt := 29) hx hb dX3_has_25 (by decide) ?_
          obtain rfl := Option.some.inj hm12
          rw [hQ]
          exact ct_zret hx hb hr hlk (Or.inr rfl) hP0 hD0 hS0 rfl dX3_has_29

def f_X3_at (x1 : Int32) (x2 : Int32) (p_width : Int32) (p_height : Int32) (p_samples : Nat → Int32) : Option (Int32) :=
  bd1 (f_X6_bring x2 (0 : Int32) (p_height - (1 : Int32))) fun y_1 =>
  bd1 (f_X6_bring x1 (0 : Int32) (p_width - (1 : Int32))) fun y_5 =>
  gi ((y_1 * p_width) + y_5) 2304 <|
  some ((p_samples ((y_1 * p_width) + y_5).toNatClampNeg))

abbrev rm_X3_at : Room := { frames := 2, cells := 0, slots := 0, locals := 82 }

theorem cdS_X3_at : yX3_at.cls ≠ "java/lang/invoke/MethodHandle" ∧ yX3_at.cls ≠ "java/lang/invoke/VarHandle" ∧ (parseMethodDescriptor yX3_at.desc).map (fun d => d.parameters.length) = some 2 := by decide +kernel

theorem cdV_X3_at : yX3_at.cls = RX3 ∧ yX3_at.cls ≠ "java/lang/invoke/MethodHandle" ∧ yX3_at.cls ≠ "java/lang/invoke/VarHandle" ∧ (parseMethodDescriptor yX3_at.desc).map (fun d => d.parameters.length) = some 2 := ⟨rfl, cdS_X3_at⟩

theorem hi_X3_at_3 : ∀ w ∈ u_ws RX3 TX3 3, w ∈ wsX3_at := fun _ h => List.mem_cons_of_mem _ (List.mem_append_right _ h)

set_option maxHeartbeats 40000000 in
set_option maxRecDepth 100000 in
theorem c_X3_at (l : Launch) (D : va_G) (cB cI cJ cQ : ClassId) (N : Nat) (r0 : Nat → Nat) (sz : Nat) (x1 : Int32) (x2 : Int32) (p_width : Int32) (p_height : Int32) (p_samples : Nat → Int32) (o : Int32) (hm0 : f_X3_at x1 x2 p_width p_height p_samples = some o) : Met l yX3_at wsX3_at rm_X3_at (ctP D cB cI cJ cQ N sz [.ref (r0 0), .int x1, .int x2] (wf [oB (r0 0) 3 [.ref (r0 1), .int p_width, .int p_height], aI (r0 1) cI 2304 p_samples] [])) (ctQi D o (wf [oB (r0 0) 3 [.ref (r0 1), .int p_width, .int p_height], aI (r0 1) cI 2304 p_samples] []) (va_A (wf [oB (r0 0) 3 [.ref (r0 1), .int p_width, .int p_height], aI (r0 1) cI 2304 p_samples] []) sz)) 0 0 (va_A (wf [oB (r0 0) 3 [.ref (r0 1), .int p_width, .int p_height], aI (r0 1) cI 2304 p_samples] []) sz) := by
  refine ct_of (cc := cX3_at) (maxL := 3) (ret := (some .int)) (own := RX3) (Qp := ctQi D o (wf [oB (r0 0) 3 [.ref (r0 1), .int p_width, .int p_height], aI (r0 1) cI 2304 p_samples] [])) (by decide) rfl rfl (Nat.le_of_ble_eq_true rfl) ?_
  intro p e s m args below meth c A hx hb hr hml hown hts hlk hnm hsz hAe E hP0 hD0 hS0 ls0 hl0
  subst hsz
  have hl0 : lv_has ls0 3 [(0, .ref (r0 0)), (1, .int x1), (2, .int x2)] := hl0
  obtain ⟨QQ, hQ⟩ : ∃ Q : State → Prop, Q = MQ below (ctQi D o (wf [oB (r0 0) 3 [.ref (r0 1), .int p_width, .int p_height], aI (r0 1) cI 2304 p_samples] []) A) args s 0 0 A := ⟨_, rfl⟩
  rw [← hQ]
  unfold f_X3_at at hm0
  refine lv_aload_n hx hb dX3_at_0 rfl (lv_at hl0 0 rfl) ?_
  refine va_get (D := D) (ci := 3) (v := .ref (r0 1)) (C := RX3) (T := TX3) (N := 3) hx hb hts hi_X3_at_3 hown E.1 hP0 0 rfl rfl 0 (by decide) (hts _ (List.mem_of_getElem? (i := 1) rfl)) (fun _ h9 => h9) rfl dX3_at_1 ?_
  refine lv_iload_n hx hb dX3_at_4 rfl (lv_at hl0 2 rfl) ?_
  refine lv_iconst (v := 0) hx hb dX3_at_5 (by decide) ?_
  refine lv_aload_n hx hb dX3_at_6 rfl (lv_at hl0 0 rfl) ?_
  refine va_get (D := D) (ci := 3) (v := .int p_height) (C := RX3) (T := TX3) (N := 3) hx hb hts hi_X3_at_3 hown E.1 hP0 0 rfl rfl 2 (by decide) (hts _ (List.mem_of_getElem? (i := 2) rfl)) (fun _ h9 => h9) rfl dX3_at_7 ?_
  refine lv_iconst (v := 1) hx hb dX3_at_10 (by decide) ?_
  refine lv_isub hx hb dX3_at_11 ?_
  obtain ⟨y_1, hcl2, hm2⟩ := bd1_some hm0; clear hm0
  have sb3 := ctS.mk (n := 2) (k := 0) (pre := [oB (r0 0) 3 [.ref (r0 1), .int p_width, .int p_height], aI (r0 1) cI 2304 p_samples]) (tl := []) [] [0, 1] [] [] rfl rfl (by decide +kernel) (by decide +kernel)
  refine ct_calli (r := y_1) E sb3 hP0 hD0 hS0 (va_runSN (As := [.int x2, .int (0 : Int32), .int (p_height - (1 : Int32))]) (rest := [.ref (r0 1)]) ⟨hx, hb, hml, hown, hts⟩ (c_X6_bring l D cB cI cJ cQ N s.heap.size x2 (0 : Int32) (p_height - (1 : Int32)) (y_1) hcl2) ⟨va_cnB 3 hts gX3_at_X6_bring_n22 rfl rfl rfl (E.2.1.1 _ (List.mem_of_getElem? (i := 7) rfl)) (hts _ (List.mem_of_getElem? (i := 5) rfl)) cdS_X6_bring ⟨Nat.le_of_ble_eq_true rfl, Nat.le_of_ble_eq_true rfl⟩, (hts _ (List.mem_of_getElem? (i := 4) rfl)), trivial⟩ (ct_preS E sb3 hP0 hD0 hS0) rfl rfl hl0.1 rfl (lv_room (Nat.le_of_ble_eq_true rfl)) dX3_at_12 ⟨Nat.zero_le _, Nat.zero_le _⟩) (fun H4 lc4 hP4 hD4 hS4 => ?_); clear sb3 hcl2
  clear hP0 hD0 hS0
  have hP4 : va_P D vwCl (wf [oB (r0 0) 3 [.ref (r0 1), .int p_width, .int p_height], aI (r0 1) cI 2304 p_samples] []) H4 := hP4
  have hD4 : va_D A (wf [oB (r0 0) 3 [.ref (r0 1), .int p_width, .int p_height], aI (r0 1) cI 2304 p_samples] []) := hD4
  refine lv_aload_n hx hb dX3_at_15 rfl (lv_at hl0 0 rfl) ?_
  refine va_get (D := D) (ci := 3) (v := .int p_width) (C := RX3) (T := TX3) (N := 3) hx hb hts hi_X3_at_3 hown E.1 hP4 0 rfl rfl 1 (by decide) (hts _ (List.mem_of_getElem? (i := 3) rfl)) (fun _ h9 => h9) rfl dX3_at_16 ?_
  refine lv_imul hx hb dX3_at_19 ?_
  refine lv_iload_n hx hb dX3_at_20 rfl (lv_at hl0 1 rfl) ?_
  refine lv_iconst (v := 0) hx hb dX3_at_21 (by decide) ?_
  refine lv_aload_n hx hb dX3_at_22 rfl (lv_at hl0 0 rfl) ?_
  refine va_get (D := D) (ci := 3) (v := .int p_width) (C := RX3) (T := TX3) (N := 3) hx hb hts hi_X3_at_3 hown E.1 hP4 0 rfl rfl 1 (by decide) (hts _ (List.mem_of_getElem? (i := 3) rfl)) (fun _ h9 => h9) rfl dX3_at_23 ?_
  refine lv_iconst (v := 1) hx hb dX3_at_26 (by decide) ?_
  refine lv_isub hx hb dX3_at_27 ?_
  obtain ⟨y_5, hcl6, hm6⟩ := bd1_some hm2; clear hm2
  have sb7 := ctS.mk (n := 2) (k := 0) (pre := [oB (r0 0) 3 [.ref (r0 1), .int p_width, .int p_height], aI (r0 1) cI 2304 p_samples]) (tl := []) [] [0, 1] [] [] rfl rfl (by decide +kernel) (by decide +kernel)
  refine ct_calli (r := y_5) E sb7 hP4 hD4 hS4 (va_runSN (As := [.int x1, .int (0 : Int32), .int (p_width - (1 : Int32))]) (rest := [.int (y_1 * p_width), .ref (r0 1)]) ⟨hx, hb, hml, hown, hts⟩ (c_X6_bring l D cB cI cJ cQ N H4.size x1 (0 : Int32) (p_width - (1 : Int32)) (y_5) hcl6) ⟨va_cnB 3 hts gX3_at_X6_bring_n22 rfl rfl rfl (E.2.1.1 _ (List.mem_of_getElem? (i := 7) rfl)) (hts _ (List.mem_of_getElem? (i := 5) rfl)) cdS_X6_bring ⟨Nat.le_of_ble_eq_true rfl, Nat.le_of_ble_eq_true rfl⟩, (hts _ (List.mem_of_getElem? (i := 4) rfl)), trivial⟩ (ct_preS E sb7 hP4 hD4 hS4) rfl rfl hl0.1 rfl (lv_room (Nat.le_of_ble_eq_true rfl)) dX3_at_28 ⟨Nat.zero_le _, Nat.zero_le _⟩) (fun H8 lc8 hP8 hD8 hS8 => ?_); clear sb7 hcl6
  clear hP4 hD4 hS4
  have hP8 : va_P D vwCl (wf [oB (r0 0) 3 [.ref (r0 1), .int p_width, .int p_height], aI (r0 1) cI 2304 p_samples] []) H8 := hP8
  have hD8 : va_D A (wf [oB (r0 0) 3 [.ref (r0 1), .int p_width, .int p_height], aI (r0 1) cI 2304 p_samples] []) := hD8
  refine lv_iadd hx hb dX3_at_31 ?_
  obtain ⟨hin9, hm9⟩ := gi_some hm6; clear hm6
  refine va_iald hx hb E.1 hP8 1 0 rfl rfl hin9 dX3_at_32 ?_
  obtain rfl := Option.some.inj hm9
  rw [hQ]
  exact ct_iret hx hb hr hlk hP8 hD8 hS8 rfl dX3_at_33

def f_X3_put (x1 : Int32) (x2 : Int32) (x3 : Int32) (p_width : Int32) (p_samples : Nat → Int32) : Option ((Nat → Int32)) :=
  bd1 (f_X6_bring x3 (0 : Int32) (255 : Int32)) fun y_1 =>
  gi ((x2 * p_width) + x1) 2304 <|
  nm (upd p_samples ((x2 * p_width) + x1).toNatClampNeg y_1 : Nat → Int32) fun p_samples_6 =>
  some (p_samples_6)

abbrev rm_X3_put : Room := { frames := 2, cells := 0, slots := 0, locals := 82 }

theorem cdS_X3_put : yX3_put.cls ≠ "java/lang/invoke/MethodHandle" ∧ yX3_put.cls ≠ "java/lang/invoke/VarHandle" ∧ (parseMethodDescriptor yX3_put.desc).map (fun d => d.parameters.length) = some 3 := by decide +kernel

theorem cdV_X3_put : yX3_put.cls = RX3 ∧ yX3_put.cls ≠ "java/lang/invoke/MethodHandle" ∧ yX3_put.cls ≠ "java/lang/invoke/VarHandle" ∧ (parseMethodDescriptor yX3_put.desc).map (fun d => d.parameters.length) = some 3 := ⟨rfl, cdS_X3_put⟩

theorem hi_X3_put_3 : ∀ w ∈ u_ws RX3 TX3 3, w ∈ wsX3_put := fun _ h => List.mem_cons_of_mem _ (List.mem_append_right _ h)

set_option maxHeartbeats 40000000 in
set_option maxRecDepth 100000 in
theorem c_X3_put (l : Launch) (D : va_G) (cB cI cJ cQ : ClassId) (N : Nat) (r0 : Nat → Nat) (sz : Nat) (x1 : Int32) (x2 : Int32) (x3 : Int32) (p_width : Int32) (p_height : Int32) (p_samples : Nat → Int32) (o : (Nat → Int32)) (hm0 : f_X3_put x1 x2 x3 p_width p_samples = some o) : Met l yX3_put wsX3_put rm_X3_put (ctP D cB cI cJ cQ N sz [.ref (r0 0), .int x1, .int x2, .int x3] (wf [oB (r0 0) 3 [.ref (r0 1), .int p_width, .int p_height], aI (r0 1) cI 2304 p_samples] [])) (ctQv D (wf [oB (r0 0) 3 [.ref (r0 1), .int p_width, .int p_height], aI (r0 1) cI 2304 o] []) (va_A (wf [oB (r0 0) 3 [.ref (r0 1), .int p_width, .int p_height], aI (r0 1) cI 2304 p_samples] []) sz)) 0 0 (va_A (wf [oB (r0 0) 3 [.ref (r0 1), .int p_width, .int p_height], aI (r0 1) cI 2304 p_samples] []) sz) := by
  refine ct_of (cc := cX3_put) (maxL := 4) (ret := none) (own := RX3) (Qp := ctQv D (wf [oB (r0 0) 3 [.ref (r0 1), .int p_width, .int p_height], aI (r0 1) cI 2304 o] [])) (by decide) rfl rfl (Nat.le_of_ble_eq_true rfl) ?_
  intro p e s m args below meth c A hx hb hr hml hown hts hlk hnm hsz hAe E hP0 hD0 hS0 ls0 hl0
  subst hsz
  have hl0 : lv_has ls0 4 [(0, .ref (r0 0)), (1, .int x1), (2, .int x2), (3, .int x3)] := hl0
  obtain ⟨QQ, hQ⟩ : ∃ Q : State → Prop, Q = MQ below (ctQv D (wf [oB (r0 0) 3 [.ref (r0 1), .int p_width, .int p_height], aI (r0 1) cI 2304 o] []) A) args s 0 0 A := ⟨_, rfl⟩
  rw [← hQ]
  unfold f_X3_put at hm0
  refine lv_aload_n hx hb dX3_put_0 rfl (lv_at hl0 0 rfl) ?_
  refine va_get (D := D) (ci := 3) (v := .ref (r0 1)) (C := RX3) (T := TX3) (N := 3) hx hb hts hi_X3_put_3 hown E.1 hP0 0 rfl rfl 0 (by decide) (hts _ (List.mem_of_getElem? (i := 1) rfl)) (fun _ h9 => h9) rfl dX3_put_1 ?_
  refine lv_iload_n hx hb dX3_put_4 rfl (lv_at hl0 2 rfl) ?_
  refine lv_aload_n hx hb dX3_put_5 rfl (lv_at hl0 0 rfl) ?_
  refine va_get (D := D) (ci := 3) (v := .int p_width) (C := RX3) (T := TX3) (N := 3) hx hb hts hi_X3_put_3 hown E.1 hP0 0 rfl rfl 1 (by decide) (hts _ (List.mem_of_getElem? (i := 2) rfl)) (fun _ h9 => h9) rfl dX3_put_6 ?_
  refine lv_imul hx hb dX3_put_9 ?_
  refine lv_iload_n hx hb dX3_put_10 rfl (lv_at hl0 1 rfl) ?_
  refine lv_iadd hx hb dX3_put_11 ?_
  refine lv_iload_n hx hb dX3_put_12 rfl (lv_at hl0 3 rfl) ?_
  refine lv_iconst (v := 0) hx hb dX3_put_13 (by decide) ?_
  refine lv_sipush (v := 255) hx hb dX3_put_14 (by decide) ?_
  obtain ⟨y_1, hcl2, hm2⟩ := bd1_some hm0; clear hm0
  have sb3 := ctS.mk (n := 2) (k := 0) (pre := [oB (r0 0) 3 [.ref (r0 1), .int p_width, .int p_height], aI (r0 1) cI 2304 p_samples]) (tl := []) [] [0, 1] [] [] rfl rfl (by decide +kernel) (by decide +kernel)
  refine ct_calli (r := y_1) E sb3 hP0 hD0 hS0 (va_runSN (As := [.int x3, .int (0 : Int32), .int (255 : Int32)]) (rest := [.int ((x2 * p_width) + x1), .ref (r0 1)]) ⟨hx, hb, hml, hown, hts⟩ (c_X6_bring l D cB cI cJ cQ N s.heap.size x3 (0 : Int32) (255 : Int32) (y_1) hcl2) ⟨va_cnB 3 hts gX3_put_X6_bring_n22 rfl rfl rfl (E.2.1.1 _ (List.mem_of_getElem? (i := 7) rfl)) (hts _ (List.mem_of_getElem? (i := 4) rfl)) cdS_X6_bring ⟨Nat.le_of_ble_eq_true rfl, Nat.le_of_ble_eq_true rfl⟩, (hts _ (List.mem_of_getElem? (i := 3) rfl)), trivial⟩ (ct_preS E sb3 hP0 hD0 hS0) rfl rfl hl0.1 rfl (lv_room (Nat.le_of_ble_eq_true rfl)) dX3_put_17 ⟨Nat.zero_le _, Nat.zero_le _⟩) (fun H4 lc4 hP4 hD4 hS4 => ?_); clear sb3 hcl2
  clear hP0 hD0 hS0
  have hP4 : va_P D vwCl (wf [oB (r0 0) 3 [.ref (r0 1), .int p_width, .int p_height], aI (r0 1) cI 2304 p_samples] []) H4 := hP4
  have hD4 : va_D A (wf [oB (r0 0) 3 [.ref (r0 1), .int p_width, .int p_height], aI (r0 1) cI 2304 p_samples] []) := hD4
  obtain ⟨hin5, hm5⟩ := gi_some hm2; clear hm2
  obtain ⟨p_samples_6, ep_samples_6, hm7⟩ := nm_some hm5; clear hm5
  refine ct_iast (g := p_samples_6) (ws' := (wf [oB (r0 0) 3 [.ref (r0 1), .int p_width, .int p_height], aI (r0 1) cI 2304 p_samples_6] [])) hx hb E.1 hP4 hD4 hS4 1 0 rfl rfl hin5 ep_samples_6 rfl dX3_put_20 (fun H8 lc8 hP8 hD8 hS8 => ?_)
  clear hP4 hD4 hS4
  obtain rfl := Option.some.inj hm7
  rw [hQ]
  exact ct_vret hx hb hr hlk hP8 hD8 hS8 dX3_put_21

def f_X3_copyFrom (p0_width : Int32) (p0_height : Int32) (p0_samples : Nat → Int32) (p1_width : Int32) (p1_height : Int32) (p1_samples : Nat → Int32) : Option (Int32 × Int32 × (Nat → Int32)) :=
  nm (va_cpy p1_samples p0_samples (0 : Int32).toNatClampNeg (0 : Int32).toNatClampNeg (2304 : Int32).toNatClampNeg : Nat → Int32) fun p0_samples_3 =>
  some (p1_width, p1_height, p0_samples_3)

abbrev rm_X3_copyFrom : Room := { frames := 1, cells := 0, slots := 0, locals := 60 }

theorem cdS_X3_copyFrom : yX3_copyFrom.cls ≠ "java/lang/invoke/MethodHandle" ∧ yX3_copyFrom.cls ≠ "java/lang/invoke/VarHandle" ∧ (parseMethodDescriptor yX3_copyFrom.desc).map (fun d => d.parameters.length) = some 1 := by decide +kernel

theorem cdV_X3_copyFrom : yX3_copyFrom.cls = RX3 ∧ yX3_copyFrom.cls ≠ "java/lang/invoke/MethodHandle" ∧ yX3_copyFrom.cls ≠ "java/lang/invoke/VarHandle" ∧ (parseMethodDescriptor yX3_copyFrom.desc).map (fun d => d.parameters.length) = some 1 := ⟨rfl, cdS_X3_copyFrom⟩

theorem hi_X3_copyFrom_3 : ∀ w ∈ u_ws RX3 TX3 3, w ∈ wsX3_copyFrom := fun _ h => List.mem_cons_of_mem _ (List.mem_append_right _ h)

set_option maxHeartbeats 40000000 in
set_option maxRecDepth 100000 in
theorem c_X3_copyFrom (l : Launch) (D : va_G) (cB cI cJ cQ : ClassId) (N : Nat) (r0 : Nat → Nat) (r1 : Nat → Nat) (sz : Nat) (p0_width : Int32) (p0_height : Int32) (p0_samples : Nat → Int32) (p1_width : Int32) (p1_height : Int32) (p1_samples : Nat → Int32) (o : Int32 × Int32 × (Nat → Int32)) (hm0 : f_X3_copyFrom p0_width p0_height p0_samples p1_width p1_height p1_samples = some o) : Met l yX3_copyFrom wsX3_copyFrom rm_X3_copyFrom (ctP D cB cI cJ cQ N sz [.ref (r0 0), .ref (r1 0)] (wf [oB (r0 0) 3 [.ref (r0 1), .int p0_width, .int p0_height], aI (r0 1) cI 2304 p0_samples, oB (r1 0) 3 [.ref (r1 1), .int p1_width, .int p1_height], aI (r1 1) cI 2304 p1_samples] [])) (ctQv D (wf [oB (r0 0) 3 [.ref (r0 1), .int (o.1), .int (o.2.1)], aI (r0 1) cI 2304 (o.2.2), oB (r1 0) 3 [.ref (r1 1), .int p1_width, .int p1_height], aI (r1 1) cI 2304 p1_samples] []) (va_A (wf [oB (r0 0) 3 [.ref (r0 1), .int p0_width, .int p0_height], aI (r0 1) cI 2304 p0_samples, oB (r1 0) 3 [.ref (r1 1), .int p1_width, .int p1_height], aI (r1 1) cI 2304 p1_samples] []) sz)) 0 0 (va_A (wf [oB (r0 0) 3 [.ref (r0 1), .int p0_width, .int p0_height], aI (r0 1) cI 2304 p0_samples, oB (r1 0) 3 [.ref (r1 1), .int p1_width, .int p1_height], aI (r1 1) cI 2304 p1_samples] []) sz) := by
  refine ct_of (cc := cX3_copyFrom) (maxL := 2) (ret := none) (own := RX3) (Qp := ctQv D (wf [oB (r0 0) 3 [.ref (r0 1), .int (o.1), .int (o.2.1)], aI (r0 1) cI 2304 (o.2.2), oB (r1 0) 3 [.ref (r1 1), .int p1_width, .int p1_height], aI (r1 1) cI 2304 p1_samples] [])) (by decide) rfl rfl (Nat.le_of_ble_eq_true rfl) ?_
  intro p e s m args below meth c A hx hb hr hml hown hts hlk hnm hsz hAe E hP0 hD0 hS0 ls0 hl0
  subst hsz
  have hl0 : lv_has ls0 2 [(0, .ref (r0 0)), (1, .ref (r1 0))] := hl0
  obtain ⟨QQ, hQ⟩ : ∃ Q : State → Prop, Q = MQ below (ctQv D (wf [oB (r0 0) 3 [.ref (r0 1), .int (o.1), .int (o.2.1)], aI (r0 1) cI 2304 (o.2.2), oB (r1 0) 3 [.ref (r1 1), .int p1_width, .int p1_height], aI (r1 1) cI 2304 p1_samples] []) A) args s 0 0 A := ⟨_, rfl⟩
  rw [← hQ]
  unfold f_X3_copyFrom at hm0
  refine lv_aload_n hx hb dX3_copyFrom_0 rfl (lv_at hl0 0 rfl) ?_
  refine lv_aload_n hx hb dX3_copyFrom_1 rfl (lv_at hl0 1 rfl) ?_
  refine va_get (D := D) (ci := 3) (v := .int p1_width) (C := RX3) (T := TX3) (N := 3) hx hb hts hi_X3_copyFrom_3 hown E.1 hP0 2 rfl rfl 1 (by decide) (hts _ (List.mem_of_getElem? (i := 1) rfl)) (fun _ h9 => h9) rfl dX3_copyFrom_2 ?_
  refine ct_put (D := D) (ci := 3) (v := .int p1_width) (ty := .int) (C := RX3) (T := TX3) (N := 3) (ws' := (wf [oB (r0 0) 3 [.ref (r0 1), .int p1_width, .int p0_height], aI (r0 1) cI 2304 p0_samples, oB (r1 0) 3 [.ref (r1 1), .int p1_width, .int p1_height], aI (r1 1) cI 2304 p1_samples] [])) hx hb hts hi_X3_copyFrom_3 tyX3 tyX3_ok nmX3 hown E.1 hP0 hD0 hS0 0 rfl rfl 1 (by decide) (hts _ (List.mem_of_getElem? (i := 1) rfl)) (fun _ h9 => h9) rfl (by decide +kernel) rfl rfl (Nat.le_of_ble_eq_true rfl) rfl dX3_copyFrom_5 (fun H1 lc1 hP1 hD1 hS1 => ?_)
  clear hP0 hD0 hS0
  refine lv_aload_n hx hb dX3_copyFrom_8 rfl (lv_at hl0 0 rfl) ?_
  refine lv_aload_n hx hb dX3_copyFrom_9 rfl (lv_at hl0 1 rfl) ?_
  refine va_get (D := D) (ci := 3) (v := .int p1_height) (C := RX3) (T := TX3) (N := 3) hx hb hts hi_X3_copyFrom_3 hown E.1 hP1 2 rfl rfl 2 (by decide) (hts _ (List.mem_of_getElem? (i := 2) rfl)) (fun _ h9 => h9) rfl dX3_copyFrom_10 ?_
  refine ct_put (D := D) (ci := 3) (v := .int p1_height) (ty := .int) (C := RX3) (T := TX3) (N := 3) (ws' := (wf [oB (r0 0) 3 [.ref (r0 1), .int p1_width, .int p1_height], aI (r0 1) cI 2304 p0_samples, oB (r1 0) 3 [.ref (r1 1), .int p1_width, .int p1_height], aI (r1 1) cI 2304 p1_samples] [])) hx hb hts hi_X3_copyFrom_3 tyX3 tyX3_ok nmX3 hown E.1 hP1 hD1 hS1 0 rfl rfl 2 (by decide) (hts _ (List.mem_of_getElem? (i := 2) rfl)) (fun _ h9 => h9) rfl (by decide +kernel) rfl rfl (Nat.le_of_ble_eq_true rfl) rfl dX3_copyFrom_13 (fun H2 lc2 hP2 hD2 hS2 => ?_)
  clear hP1 hD1 hS1
  refine lv_aload_n hx hb dX3_copyFrom_16 rfl (lv_at hl0 1 rfl) ?_
  refine va_get (D := D) (ci := 3) (v := .ref (r1 1)) (C := RX3) (T := TX3) (N := 3) hx hb hts hi_X3_copyFrom_3 hown E.1 hP2 2 rfl rfl 0 (by decide) (hts _ (List.mem_of_getElem? (i := 3) rfl)) (fun _ h9 => h9) rfl dX3_copyFrom_17 ?_
  refine lv_iconst (v := 0) hx hb dX3_copyFrom_20 (by decide) ?_
  refine lv_aload_n hx hb dX3_copyFrom_21 rfl (lv_at hl0 0 rfl) ?_
  refine va_get (D := D) (ci := 3) (v := .ref (r0 1)) (C := RX3) (T := TX3) (N := 3) hx hb hts hi_X3_copyFrom_3 hown E.1 hP2 0 rfl rfl 0 (by decide) (hts _ (List.mem_of_getElem? (i := 3) rfl)) (fun _ h9 => h9) rfl dX3_copyFrom_22 ?_
  refine lv_iconst (v := 0) hx hb dX3_copyFrom_25 (by decide) ?_
  refine lv_sipush (v := 2304) hx hb dX3_copyFrom_26 (by decide) ?_
  obtain ⟨p0_samples_3, ep0_samples_3, hm4⟩ := nm_some hm0; clear hm0
  refine va_copyi (tys := TYS cB cI cJ cQ) (ty := .int) hx hb (hml.trans hl0.1.symm) hown (hts _ (List.mem_of_getElem? (i := 4) rfl)) (hts _ (List.mem_of_getElem? (i := 5) rfl)) (hts _ (List.mem_of_getElem? (i := 6) rfl)) (hts _ (List.mem_of_getElem? (i := 7) rfl)) E.1 hP2 hD2 hS2 3 1 0 0 rfl rfl rfl rfl rfl (by decide) (by decide) (by decide) (by decide) (by decide) (fun i _ => rfl) (Nat.le_of_ble_eq_true rfl) (Nat.le_of_ble_eq_true rfl) dX3_copyFrom_29 (fun H5 lc5 hP5 hD5 hS5 => ?_)
  clear hP2 hD2 hS2
  rw [← ep0_samples_3] at hP5 hD5
  have hP5 : va_P D vwCl (wf [oB (r0 0) 3 [.ref (r0 1), .int p1_width, .int p1_height], aI (r0 1) cI 2304 p0_samples_3, oB (r1 0) 3 [.ref (r1 1), .int p1_width, .int p1_height], aI (r1 1) cI 2304 p1_samples] []) H5 := hP5
  have hD5 : va_D A (wf [oB (r0 0) 3 [.ref (r0 1), .int p1_width, .int p1_height], aI (r0 1) cI 2304 p0_samples_3, oB (r1 0) 3 [.ref (r1 1), .int p1_width, .int p1_height], aI (r1 1) cI 2304 p1_samples] []) := hD5
  obtain rfl := Option.some.inj hm4
  rw [hQ]
  exact ct_vret hx hb hr hlk hP5 hD5 hS5 dX3_copyFrom_32

def f_X3_total_L4 (p_width : Int32) (p_height : Int32) (p_samples : Nat → Int32) : Nat → Int32 → Int32 → Option (Int32)
  | 0, _, _ => none
  | n + 1, v1_4, v2_5 =>
  (if (p_width * p_height) ≤ v2_5 then
  (some (v1_4))
  else
  (gi v2_5 2304 <|
  nm ((((31 : Int32) * v1_4) + (p_samples v2_5.toNatClampNeg)) : Int32) fun v1_13 =>
  nm (v2_5 + (1 : Int32) : Int32) fun v2_16 =>
  f_X3_total_L4 p_width p_height p_samples n v1_13 v2_16))

def f_X3_total (p_width : Int32) (p_height : Int32) (p_samples : Nat → Int32) : Option (Int32) :=
  bd1 (f_X3_total_L4 p_width p_height p_samples 4000 (0 : Int32) (0 : Int32)) fun v1_19 =>
  some (v1_19)

abbrev rm_X3_total : Room := { frames := 0, cells := 0, slots := 0, locals := 0 }

theorem cdS_X3_total : yX3_total.cls ≠ "java/lang/invoke/MethodHandle" ∧ yX3_total.cls ≠ "java/lang/invoke/VarHandle" ∧ (parseMethodDescriptor yX3_total.desc).map (fun d => d.parameters.length) = some 0 := by decide +kernel

theorem cdV_X3_total : yX3_total.cls = RX3 ∧ yX3_total.cls ≠ "java/lang/invoke/MethodHandle" ∧ yX3_total.cls ≠ "java/lang/invoke/VarHandle" ∧ (parseMethodDescriptor yX3_total.desc).map (fun d => d.parameters.length) = some 0 := ⟨rfl, cdS_X3_total⟩

theorem hi_X3_total_3 : ∀ w ∈ u_ws RX3 TX3 3, w ∈ wsX3_total := fun _ h => List.mem_cons_of_mem _ (List.mem_append_right _ h)

set_option maxHeartbeats 40000000 in
set_option maxRecDepth 100000 in
theorem c_X3_total (l : Launch) (D : va_G) (cB cI cJ cQ : ClassId) (N : Nat) (r0 : Nat → Nat) (sz : Nat) (p_width : Int32) (p_height : Int32) (p_samples : Nat → Int32) (o : Int32) (hm0 : f_X3_total p_width p_height p_samples = some o) : Met l yX3_total wsX3_total rm_X3_total (ctP D cB cI cJ cQ N sz [.ref (r0 0)] (wf [oB (r0 0) 3 [.ref (r0 1), .int p_width, .int p_height], aI (r0 1) cI 2304 p_samples] [])) (ctQi D o (wf [oB (r0 0) 3 [.ref (r0 1), .int p_width, .int p_height], aI (r0 1) cI 2304 p_samples] []) (va_A (wf [oB (r0 0) 3 [.ref (r0 1), .int p_width, .int p_height], aI (r0 1) cI 2304 p_samples] []) sz)) 0 0 (va_A (wf [oB (r0 0) 3 [.ref (r0 1), .int p_width, .int p_height], aI (r0 1) cI 2304 p_samples] []) sz) := by
  refine ct_of (cc := cX3_total) (maxL := 3) (ret := (some .int)) (own := RX3) (Qp := ctQi D o (wf [oB (r0 0) 3 [.ref (r0 1), .int p_width, .int p_height], aI (r0 1) cI 2304 p_samples] [])) (by decide) rfl rfl (Nat.le_of_ble_eq_true rfl) ?_
  intro p e s m args below meth c A hx hb hr hml hown hts hlk hnm hsz hAe E hP0 hD0 hS0 ls0 hl0
  subst hsz
  have hl0 : lv_has ls0 3 [(0, .ref (r0 0))] := hl0
  obtain ⟨QQ, hQ⟩ : ∃ Q : State → Prop, Q = MQ below (ctQi D o (wf [oB (r0 0) 3 [.ref (r0 1), .int p_width, .int p_height], aI (r0 1) cI 2304 p_samples] []) A) args s 0 0 A := ⟨_, rfl⟩
  rw [← hQ]
  unfold f_X3_total at hm0
  refine lv_iconst (v := 0) hx hb dX3_total_0 (by decide) ?_
  refine lv_istore_n (lv' := [(1, .int (0 : Int32)), (0, .ref (r0 0))]) hx hb dX3_total_1 rfl hl0 (by decide) rfl (fun ls1 hl1 => ?_); clear hl0
  refine lv_iconst (v := 0) hx hb dX3_total_2 (by decide) ?_
  refine lv_istore_n (lv' := [(2, .int (0 : Int32)), (1, .int (0 : Int32)), (0, .ref (r0 0))]) hx hb dX3_total_3 rfl hl1 (by decide) rfl (fun ls2 hl2 => ?_); clear hl1
  obtain ⟨v1_19, hlp3, hm20⟩ := bd1_some hm0; clear hm0
  have LP3 : ∀ (n : Nat) (v1_4 : Int32) (v2_5 : Int32) (z3 : Int32) (H6 : Heap) (lc6 : List Loc) (ls6 : Array Slot), f_X3_total_L4 p_width p_height p_samples n v1_4 v2_5 = some z3 → va_P D vwCl (wf [oB (r0 0) 3 [.ref (r0 1), .int p_width, .int p_height], aI (r0 1) cI 2304 p_samples] []) H6 → va_D A (wf [oB (r0 0) 3 [.ref (r0 1), .int p_width, .int p_height], aI (r0 1) cI 2304 p_samples] []) → va_S A s.heap H6 lc6 → lv_has ls6 3 [(0, .ref (r0 0)), (1, .int v1_4), (2, .int v2_5)] → (∀ (H : Heap) (lc : List Loc) (ls : Array Slot), va_P D vwCl (wf [oB (r0 0) 3 [.ref (r0 1), .int p_width, .int p_height], aI (r0 1) cI 2304 p_samples] []) H → va_D A (wf [oB (r0 0) 3 [.ref (r0 1), .int p_width, .int p_height], aI (r0 1) cI 2304 p_samples] []) → va_S A s.heap H lc → lv_has ls 3 [(1, .int z3)] → W p l e rm_X3_total s m args below meth c H lc 0 0 QQ (F0 m 35 ls [])) → W p l e rm_X3_total s m args below meth c H6 lc6 0 0 QQ (F0 m 4 ls6 []) := by
    intro n
    induction n with
    | zero =>
      intro v1_4 v2_5 z3 H6 lc6 ls6 hm8; simp [f_X3_total_L4] at hm8
    | succ n ih =>
      intro v1_4 v2_5 z3 H6 lc6 ls6 hm8 hP6 hD6 hS6 hl6 kx
      rw [f_X3_total_L4] at hm8
      refine lv_iload_n hx hb dX3_total_4 rfl (lv_at hl6 2 rfl) ?_
      refine lv_aload_n hx hb dX3_total_5 rfl (lv_at hl6 0 rfl) ?_
      refine va_get (D := D) (ci := 3) (v := .int p_width) (C := RX3) (T := TX3) (N := 3) hx hb hts hi_X3_total_3 hown E.1 hP6 0 rfl rfl 1 (by decide) (hts _ (List.mem_of_getElem? (i := 1) rfl)) (fun _ h9 => h9) rfl dX3_total_6 ?_
      refine lv_aload_n hx hb dX3_total_9 rfl (lv_at hl6 0 rfl) ?_
      refine va_get (D := D) (ci := 3) (v := .int p_height) (C := RX3) (T := TX3) (N := 3) hx hb hts hi_X3_total_3 hown E.1 hP6 0 rfl rfl 2 (by decide) (hts _ (List.mem_of_getElem? (i := 2) rfl)) (fun _ h9 => h9) rfl dX3_total_10 ?_
      refine lv_imul hx hb dX3_total_13 ?_
      refine lv_icmp_ge (tgt := 35) hx hb dX3_total_14 (by decide) (fun hc9 => ?_) (fun hc9 => ?_)
      · have hm10 := bq_t hm8 hc9; clear hm8
        obtain rfl := Option.some.inj hm10
        exact kx _ _ _ hP6 hD6 hS6 (lv_sub hl6 [1] rfl)
      · have hm11 := bq_f hm8 hc9; clear hm8
        refine lv_bipush (v := 31) hx hb dX3_total_17 (by decide) ?_
        refine lv_iload_n hx hb dX3_total_19 rfl (lv_at hl6 1 rfl) ?_
        refine lv_imul hx hb dX3_total_20 ?_
        refine lv_aload_n hx hb dX3_total_21 rfl (lv_at hl6 0 rfl) ?_
        refine va_get (D := D) (ci := 3) (v := .ref (r0 1)) (C := RX3) (T := TX3) (N := 3) hx hb hts hi_X3_total_3 hown E.1 hP6 0 rfl rfl 0 (by decide) (hts _ (List.mem_of_getElem? (i := 3) rfl)) (fun _ h9 => h9) rfl dX3_total_22 ?_
        refine lv_iload_n hx hb dX3_total_25 rfl (lv_at hl6 2 rfl) ?_
        obtain ⟨hin12, hm12⟩ := gi_some hm11; clear hm11
        refine va_iald hx hb E.1 hP6 1 0 rfl rfl hin12 dX3_total_26 ?_
        refine lv_iadd hx hb dX3_total_27 ?_
        obtain ⟨v1_13, ev1_13, hm14⟩ := nm_some hm12; clear hm12
        refine ct_topi ev1_13 ?_
        refine lv_istore_n (lv' := [(1, .int v1_13), (0, .ref (r0 0)), (2, .int v2_5)]) hx hb dX3_total_28 rfl hl6 (by decide) rfl (fun ls15 hl15 => ?_); clear hl6
        obtain ⟨v2_16, ev2_16, hm17⟩ := nm_some hm14; clear hm14
        refine lv_iinc (v := v2_16) (lv' := [(2, .int v2_16), (1, .int v1_13), (0, .ref (r0 0))]) hx hb dX3_total_29 hl15 (k := 2) rfl (by rw [ev2_16]; rfl) (by decide) rfl (fun ls18 hl18 => ?_); clear hl15
        refine lv_goto (tgt := 4) hx hb dX3_total_32 (by decide) ?_
        exact ih v1_13 v2_16 _ _ _ _ hm17 hP6 hD6 hS6 (lv_sub hl18 [2, 1, 0] rfl) kx
  refine LP3 4000 (0 : Int32) (0 : Int32) (v1_19) _ _ _ hlp3 hP0 hD0 hS0 (lv_sub hl2 [2, 1, 0] rfl) (fun H21 lc21 ls21 hP21 hD21 hS21 hl21 => ?_); clear LP3 hlp3
  clear hP0 hD0 hS0
  have hl21 : lv_has ls21 3 [(1, .int v1_19)] := hl21
  have hP21 : va_P D vwCl (wf [oB (r0 0) 3 [.ref (r0 1), .int p_width, .int p_height], aI (r0 1) cI 2304 p_samples] []) H21 := hP21
  have hD21 : va_D A (wf [oB (r0 0) 3 [.ref (r0 1), .int p_width, .int p_height], aI (r0 1) cI 2304 p_samples] []) := hD21
  refine lv_iload_n hx hb dX3_total_35 rfl (lv_at hl21 0 rfl) ?_
  obtain rfl := Option.some.inj hm20
  rw [hQ]
  exact ct_iret hx hb hr hlk hP21 hD21 hS21 rfl dX3_total_36

def f_X3_isThereNotCoded (x1 : Int32) (x2 : Int32) (f_columns : Int32) (f_rows : Int32) (f_modes : Nat → Int32) : Option (Int32) :=
  bd1 (f_X0_has x1 x2 f_columns f_rows) fun y_1 =>
  (if y_1 = (0 : Int32) then
  (some ((0 : Int32)))
  else
  (bd1 (f_X0_index x1 x2 f_columns) fun y_9 =>
  bd1 (f_X0_isCoded y_9 f_modes) fun y_13 =>
  (if y_13 = (0 : Int32) then
  (some ((1 : Int32)))
  else
  (some ((0 : Int32))))))

abbrev rm_X3_isThereNotCoded : Room := { frames := 1, cells := 0, slots := 0, locals := 22 }

theorem cdS_X3_isThereNotCoded : yX3_isThereNotCoded.cls ≠ "java/lang/invoke/MethodHandle" ∧ yX3_isThereNotCoded.cls ≠ "java/lang/invoke/VarHandle" ∧ (parseMethodDescriptor yX3_isThereNotCoded.desc).map (fun d => d.parameters.length) = some 3 := by decide +kernel

set_option maxHeartbeats 40000000 in
set_option maxRecDepth 100000 in
theorem c_X3_isThereNotCoded (l : Launch) (D : va_G) (cB cI cJ cQ : ClassId) (N : Nat) (r0 : Nat → Nat) (sz : Nat) (x1 : Int32) (x2 : Int32) (f_columns : Int32) (f_rows : Int32) (f_scale : Int32) (f_toEnd : Int32) (f_between : Int32) (f_kept : Int32) (f_modes : Nat → Int32) (o : Int32) (hm0 : f_X3_isThereNotCoded x1 x2 f_columns f_rows f_modes = some o) : Met l yX3_isThereNotCoded wsX3_isThereNotCoded rm_X3_isThereNotCoded (ctP D cB cI cJ cQ N sz [.ref (r0 0), .int x1, .int x2] (wf [oB (r0 0) 0 [.ref (r0 1), .ref (r0 2), .ref (r0 3), .ref (r0 4), .ref (r0 5), .ref (r0 6), .int f_columns, .int f_rows, .int f_scale, .int f_toEnd, .int f_between, .int f_kept], aI (r0 1) cI 36 f_modes] [])) (ctQi D o (wf [oB (r0 0) 0 [.ref (r0 1), .ref (r0 2), .ref (r0 3), .ref (r0 4), .ref (r0 5), .ref (r0 6), .int f_columns, .int f_rows, .int f_scale, .int f_toEnd, .int f_between, .int f_kept], aI (r0 1) cI 36 f_modes] []) (va_A (wf [oB (r0 0) 0 [.ref (r0 1), .ref (r0 2), .ref (r0 3), .ref (r0 4), .ref (r0 5), .ref (r0 6), .int f_columns, .int f_rows, .int f_scale, .int f_toEnd, .int f_between, .int f_kept], aI (r0 1) cI 36 f_modes] []) sz)) 0 0 (va_A (wf [oB (r0 0) 0 [.ref (r0 1), .ref (r0 2), .ref (r0 3), .ref (r0 4), .ref (r0 5), .ref (r0 6), .int f_columns, .int f_rows, .int f_scale, .int f_toEnd, .int f_between, .int f_kept], aI (r0 1) cI 36 f_modes] []) sz) := by
  refine ct_of (cc := cX3_isThereNotCoded) (maxL := 3) (ret := (some .boolean)) (own := RX3) (Qp := ctQi D o (wf [oB (r0 0) 0 [.ref (r0 1), .ref (r0 2), .ref (r0 3), .ref (r0 4), .ref (r0 5), .ref (r0 6), .int f_columns, .int f_rows, .int f_scale, .int f_toEnd, .int f_between, .int f_kept], aI (r0 1) cI 36 f_modes] [])) (by decide) rfl rfl (Nat.le_of_ble_eq_true rfl) ?_
  intro p e s m args below meth c A hx hb hr hml hown hts hlk hnm hsz hAe E hP0 hD0 hS0 ls0 hl0
  subst hsz
  have hl0 : lv_has ls0 3 [(0, .ref (r0 0)), (1, .int x1), (2, .int x2)] := hl0
  obtain ⟨QQ, hQ⟩ : ∃ Q : State → Prop, Q = MQ below (ctQi D o (wf [oB (r0 0) 0 [.ref (r0 1), .ref (r0 2), .ref (r0 3), .ref (r0 4), .ref (r0 5), .ref (r0 6), .int f_columns, .int f_rows, .int f_scale, .int f_toEnd, .int f_between, .int f_kept], aI (r0 1) cI 36 f_modes] []) A) args s 0 0 A := ⟨_, rfl⟩
  rw [← hQ]
  unfold f_X3_isThereNotCoded at hm0
  refine lv_aload_n hx hb dX3_isThereNotCoded_0 rfl (lv_at hl0 0 rfl) ?_
  refine lv_iload_n hx hb dX3_isThereNotCoded_1 rfl (lv_at hl0 1 rfl) ?_
  refine lv_iload_n hx hb dX3_isThereNotCoded_2 rfl (lv_at hl0 2 rfl) ?_
  obtain ⟨y_1, hcl2, hm2⟩ := bd1_some hm0; clear hm0
  have sb3 := ctS.mk (n := 2) (k := 0) (pre := [oB (r0 0) 0 [.ref (r0 1), .ref (r0 2), .ref (r0 3), .ref (r0 4), .ref (r0 5), .ref (r0 6), .int f_columns, .int f_rows, .int f_scale, .int f_toEnd, .int f_between, .int f_kept], aI (r0 1) cI 36 f_modes]) (tl := []) [0] [1] [] [] rfl rfl (by decide +kernel) (by decide +kernel)
  refine ct_calli (r := y_1) E sb3 hP0 hD0 hS0 (va_runV (As := [.int x1, .int x2]) (rest := []) ⟨hx, hb, hml, hown, hts⟩ (c_X0_has l D cB cI cJ cQ N r0 s.heap.size x1 x2 f_columns f_rows f_scale f_toEnd f_between f_kept (y_1) hcl2) (cwV 2 hts gX3_isThereNotCoded_X0_has rfl rfl rfl cdV_X0_has ⟨Nat.le_of_ble_eq_true rfl, Nat.le_of_ble_eq_true rfl⟩) (ct_preV (q0 := 0) (ci := 0) E sb3 hP0 hD0 hS0 rfl rfl) rfl rfl hl0.1 rfl (lv_room (Nat.le_of_ble_eq_true rfl)) dX3_isThereNotCoded_3 ⟨Nat.zero_le _, Nat.zero_le _⟩) (fun H4 lc4 hP4 hD4 hS4 => ?_); clear sb3 hcl2
  clear hP0 hD0 hS0
  have hP4 : va_P D vwCl (wf [aI (r0 1) cI 36 f_modes, oB (r0 0) 0 [.ref (r0 1), .ref (r0 2), .ref (r0 3), .ref (r0 4), .ref (r0 5), .ref (r0 6), .int f_columns, .int f_rows, .int f_scale, .int f_toEnd, .int f_between, .int f_kept]] []) H4 := hP4
  have hD4 : va_D A (wf [aI (r0 1) cI 36 f_modes, oB (r0 0) 0 [.ref (r0 1), .ref (r0 2), .ref (r0 3), .ref (r0 4), .ref (r0 5), .ref (r0 6), .int f_columns, .int f_rows, .int f_scale, .int f_toEnd, .int f_between, .int f_kept]] []) := hD4
  refine lv_if_eq (tgt := 26) hx hb dX3_isThereNotCoded_6 (by decide) (fun hc5 => ?_) (fun hc5 => ?_)
  · have hm6 := bq_t hm2 hc5; clear hm2
    refine lv_iconst (v := 0) hx hb dX3_isThereNotCoded_26 (by decide) ?_
    obtain ⟨hP7, hD7⟩ := ct_ord (n := 2) (k := 0) [1, 0] [] hP4 hD4 rfl rfl (by decide +kernel) (by decide +kernel)
    have hS7 := hS4
    have hP7 : va_P D vwCl (wf [oB (r0 0) 0 [.ref (r0 1), .ref (r0 2), .ref (r0 3), .ref (r0 4), .ref (r0 5), .ref (r0 6), .int f_columns, .int f_rows, .int f_scale, .int f_toEnd, .int f_between, .int f_kept], aI (r0 1) cI 36 f_modes] []) H4 := hP7
    have hD7 : va_D A (wf [oB (r0 0) 0 [.ref (r0 1), .ref (r0 2), .ref (r0 3), .ref (r0 4), .ref (r0 5), .ref (r0 6), .int f_columns, .int f_rows, .int f_scale, .int f_toEnd, .int f_between, .int f_kept], aI (r0 1) cI 36 f_modes] []) := hD7
    obtain rfl := Option.some.inj hm6
    rw [hQ]
    exact ct_zret hx hb hr hlk (Or.inl rfl) hP7 hD7 hS7 rfl dX3_isThereNotCoded_27
  · have hm8 := bq_f hm2 hc5; clear hm2
    refine lv_aload_n hx hb dX3_isThereNotCoded_9 rfl (lv_at hl0 0 rfl) ?_
    refine lv_aload_n hx hb dX3_isThereNotCoded_10 rfl (lv_at hl0 0 rfl) ?_
    refine lv_iload_n hx hb dX3_isThereNotCoded_11 rfl (lv_at hl0 1 rfl) ?_
    refine lv_iload_n hx hb dX3_isThereNotCoded_12 rfl (lv_at hl0 2 rfl) ?_
    obtain ⟨y_9, hcl10, hm10⟩ := bd1_some hm8; clear hm8
    have sb11 := ctS.mk (n := 2) (k := 0) (pre := [aI (r0 1) cI 36 f_modes, oB (r0 0) 0 [.ref (r0 1), .ref (r0 2), .ref (r0 3), .ref (r0 4), .ref (r0 5), .ref (r0 6), .int f_columns, .int f_rows, .int f_scale, .int f_toEnd, .int f_between, .int f_kept]]) (tl := []) [1] [0] [] [] rfl rfl (by decide +kernel) (by decide +kernel)
    refine ct_calli (r := y_9) E sb11 hP4 hD4 hS4 (va_runV (As := [.int x1, .int x2]) (rest := [.ref (r0 0)]) ⟨hx, hb, hml, hown, hts⟩ (c_X0_index l D cB cI cJ cQ N r0 H4.size x1 x2 f_columns f_rows f_scale f_toEnd f_between f_kept (y_9) hcl10) (cwV 2 hts gX3_isThereNotCoded_X0_index rfl rfl rfl cdV_X0_index ⟨Nat.le_of_ble_eq_true rfl, Nat.le_of_ble_eq_true rfl⟩) (ct_preV (q0 := 1) (ci := 0) E sb11 hP4 hD4 hS4 rfl rfl) rfl rfl hl0.1 rfl (lv_room (Nat.le_of_ble_eq_true rfl)) dX3_isThereNotCoded_13 ⟨Nat.zero_le _, Nat.zero_le _⟩) (fun H12 lc12 hP12 hD12 hS12 => ?_); clear sb11 hcl10
    clear hP4 hD4 hS4
    have hP12 : va_P D vwCl (wf [aI (r0 1) cI 36 f_modes, oB (r0 0) 0 [.ref (r0 1), .ref (r0 2), .ref (r0 3), .ref (r0 4), .ref (r0 5), .ref (r0 6), .int f_columns, .int f_rows, .int f_scale, .int f_toEnd, .int f_between, .int f_kept]] []) H12 := hP12
    have hD12 : va_D A (wf [aI (r0 1) cI 36 f_modes, oB (r0 0) 0 [.ref (r0 1), .ref (r0 2), .ref (r0 3), .ref (r0 4), .ref (r0 5), .ref (r0 6), .int f_columns, .int f_rows, .int f_scale, .int f_toEnd, .int f_between, .int f_kept]] []) := hD12
    obtain ⟨y_13, hcl14, hm14⟩ := bd1_some hm10; clear hm10
    have sb15 := ctS.mk (n := 2) (k := 0) (pre := [aI (r0 1) cI 36 f_modes, oB (r0 0) 0 [.ref (r0 1), .ref (r0 2), .ref (r0 3), .ref (r0 4), .ref (r0 5), .ref (r0 6), .int f_columns, .int f_rows, .int f_scale, .int f_toEnd, .int f_between, .int f_kept]]) (tl := []) [1, 0] [] [] [] rfl rfl (by decide +kernel) (by decide +kernel)
    refine ct_calli (r := y_13) E sb15 hP12 hD12 hS12 (va_runV (As := [.int y_9]) (rest := []) ⟨hx, hb, hml, hown, hts⟩ (c_X0_isCoded l D cB cI cJ cQ N r0 H12.size y_9 f_columns f_rows f_scale f_toEnd f_between f_kept f_modes (y_13) hcl14) (cwV 1 hts gX3_isThereNotCoded_X0_isCoded rfl rfl rfl cdV_X0_isCoded ⟨Nat.le_of_ble_eq_true rfl, Nat.le_of_ble_eq_true rfl⟩) (ct_preV (q0 := 1) (ci := 0) E sb15 hP12 hD12 hS12 rfl rfl) rfl rfl hl0.1 rfl (lv_room (Nat.le_of_ble_eq_true rfl)) dX3_isThereNotCoded_16 ⟨Nat.zero_le _, Nat.zero_le _⟩) (fun H16 lc16 hP16 hD16 hS16 => ?_); clear sb15 hcl14
    clear hP12 hD12 hS12
    have hP16 : va_P D vwCl (wf [oB (r0 0) 0 [.ref (r0 1), .ref (r0 2), .ref (r0 3), .ref (r0 4), .ref (r0 5), .ref (r0 6), .int f_columns, .int f_rows, .int f_scale, .int f_toEnd, .int f_between, .int f_kept], aI (r0 1) cI 36 f_modes] []) H16 := hP16
    have hD16 : va_D A (wf [oB (r0 0) 0 [.ref (r0 1), .ref (r0 2), .ref (r0 3), .ref (r0 4), .ref (r0 5), .ref (r0 6), .int f_columns, .int f_rows, .int f_scale, .int f_toEnd, .int f_between, .int f_kept], aI (r0 1) cI 36 f_modes] []) := hD16
    refine lv_if_ne (tgt := 26) hx hb dX3_isThereNotCoded_19 (by decide) (fun hc17 => ?_) (fun hc17 => ?_)
    · have hm18 := bq_f hm14 hc17; clear hm14
      refine lv_iconst (v := 0) hx hb dX3_isThereNotCoded_26 (by decide) ?_
      obtain rfl := Option.some.inj hm18
      rw [hQ]
      exact ct_zret hx hb hr hlk (Or.inl rfl) hP16 hD16 hS16 rfl dX3_isThereNotCoded_27
    · have hm19 := bq_t hm14 hc17; clear hm14
      refine lv_iconst (v := 1) hx hb dX3_isThereNotCoded_22 (by decide) ?_
      refine lv_goto (tgt := 27) hx hb dX3_isThereNotCoded_23 (by decide) ?_
      obtain rfl := Option.some.inj hm19
      rw [hQ]
      exact ct_zret hx hb hr hlk (Or.inr rfl) hP16 hD16 hS16 rfl dX3_isThereNotCoded_27

def f_X3_softened (x0 : Int32) (x1 : Int32) : Option (Int32) :=
  nm ((if (0 : Int32) ≤ x0 then x0 else (0 : Int32) - x0) : Int32) fun v2_1 =>
  (if x1 ≤ v2_1 then
  ((if ((2 : Int32) * x1) ≤ v2_1 then
  (some ((0 : Int32)))
  else
  ((if (0 : Int32) ≤ x0 then
  (some ((((2 : Int32) * x1) - v2_1)))
  else
  (some ((v2_1 - ((2 : Int32) * x1))))))))
  else
  (some (x0)))

abbrev rm_X3_softened : Room := { frames := 1, cells := 0, slots := 0, locals := 60 }

theorem cdS_X3_softened : yX3_softened.cls ≠ "java/lang/invoke/MethodHandle" ∧ yX3_softened.cls ≠ "java/lang/invoke/VarHandle" ∧ (parseMethodDescriptor yX3_softened.desc).map (fun d => d.parameters.length) = some 2 := by decide +kernel

set_option maxHeartbeats 40000000 in
set_option maxRecDepth 100000 in
theorem c_X3_softened (l : Launch) (D : va_G) (cB cI cJ cQ : ClassId) (N : Nat) (sz : Nat) (x0 : Int32) (x1 : Int32) (o : Int32) (hm0 : f_X3_softened x0 x1 = some o) : Met l yX3_softened wsX3_softened rm_X3_softened (ctP D cB cI cJ cQ N sz [.int x0, .int x1] (wf [] [])) (ctQi D o (wf [] []) (va_A (wf [] []) sz)) 0 0 (va_A (wf [] []) sz) := by
  refine ct_of (cc := cX3_softened) (maxL := 3) (ret := (some .int)) (own := RX3) (Qp := ctQi D o (wf [] [])) (by decide) rfl rfl (Nat.le_of_ble_eq_true rfl) ?_
  intro p e s m args below meth c A hx hb hr hml hown hts hlk hnm hsz hAe E hP0 hD0 hS0 ls0 hl0
  subst hsz
  have hl0 : lv_has ls0 3 [(0, .int x0), (1, .int x1)] := hl0
  obtain ⟨QQ, hQ⟩ : ∃ Q : State → Prop, Q = MQ below (ctQi D o (wf [] []) A) args s 0 0 A := ⟨_, rfl⟩
  rw [← hQ]
  unfold f_X3_softened at hm0
  refine lv_iload_n hx hb dX3_softened_0 rfl (lv_at hl0 0 rfl) ?_
  refine va_mabs hx hb (hml.trans hl0.1.symm) hown (hts _ (List.mem_of_getElem? (i := 1) rfl)) (hts _ (List.mem_of_getElem? (i := 2) rfl)) (hts _ (List.mem_of_getElem? (i := 3) rfl)) (hts _ (List.mem_of_getElem? (i := 4) rfl)) (Nat.le_of_ble_eq_true rfl) (Nat.le_of_ble_eq_true rfl) (Nat.zero_le _) (Nat.zero_le _) dX3_softened_1 ?_
  obtain ⟨v2_1, ev2_1, hm2⟩ := nm_some hm0; clear hm0
  refine ct_topi ev2_1 ?_
  refine lv_istore_n (lv' := [(2, .int v2_1), (0, .int x0), (1, .int x1)]) hx hb dX3_softened_4 rfl hl0 (by decide) rfl (fun ls3 hl3 => ?_); clear hl0
  refine lv_iload_n hx hb dX3_softened_5 rfl (lv_at hl3 0 rfl) ?_
  refine lv_iload_n hx hb dX3_softened_6 rfl (lv_at hl3 2 rfl) ?_
  refine lv_icmp_ge (tgt := 12) hx hb dX3_softened_7 (by decide) (fun hc4 => ?_) (fun hc4 => ?_)
  · have hm5 := bq_t hm2 hc4; clear hm2
    refine lv_iload_n hx hb dX3_softened_12 rfl (lv_at hl3 0 rfl) ?_
    refine lv_iconst (v := 2) hx hb dX3_softened_13 (by decide) ?_
    refine lv_iload_n hx hb dX3_softened_14 rfl (lv_at hl3 2 rfl) ?_
    refine lv_imul hx hb dX3_softened_15 ?_
    refine lv_icmp_ge (tgt := 37) hx hb dX3_softened_16 (by decide) (fun hc6 => ?_) (fun hc6 => ?_)
    · have hm7 := bq_t hm5 hc6; clear hm5
      refine lv_iconst (v := 0) hx hb dX3_softened_37 (by decide) ?_
      obtain rfl := Option.some.inj hm7
      rw [hQ]
      exact ct_iret hx hb hr hlk hP0 hD0 hS0 rfl dX3_softened_38
    · have hm8 := bq_f hm5 hc6; clear hm5
      refine lv_iload_n hx hb dX3_softened_19 rfl (lv_at hl3 1 rfl) ?_
      refine lv_if_ge (tgt := 31) hx hb dX3_softened_20 (by decide) (fun hc9 => ?_) (fun hc9 => ?_)
      · have hm10 := bq_t hm8 hc9; clear hm8
        refine lv_iconst (v := 2) hx hb dX3_softened_31 (by decide) ?_
        refine lv_iload_n hx hb dX3_softened_32 rfl (lv_at hl3 2 rfl) ?_
        refine lv_imul hx hb dX3_softened_33 ?_
        refine lv_iload_n hx hb dX3_softened_34 rfl (lv_at hl3 0 rfl) ?_
        refine lv_isub hx hb dX3_softened_35 ?_
        obtain rfl := Option.some.inj hm10
        rw [hQ]
        exact ct_iret hx hb hr hlk hP0 hD0 hS0 rfl dX3_softened_36
      · have hm11 := bq_f hm8 hc9; clear hm8
        refine lv_iload_n hx hb dX3_softened_23 rfl (lv_at hl3 0 rfl) ?_
        refine lv_iconst (v := 2) hx hb dX3_softened_24 (by decide) ?_
        refine lv_iload_n hx hb dX3_softened_25 rfl (lv_at hl3 2 rfl) ?_
        refine lv_imul hx hb dX3_softened_26 ?_
        refine lv_isub hx hb dX3_softened_27 ?_
        refine lv_goto (tgt := 36) hx hb dX3_softened_28 (by decide) ?_
        obtain rfl := Option.some.inj hm11
        rw [hQ]
        exact ct_iret hx hb hr hlk hP0 hD0 hS0 rfl dX3_softened_36
  · have hm12 := bq_f hm2 hc4; clear hm2
    refine lv_iload_n hx hb dX3_softened_10 rfl (lv_at hl3 1 rfl) ?_
    obtain rfl := Option.some.inj hm12
    rw [hQ]
    exact ct_iret hx hb hr hlk hP0 hD0 hS0 rfl dX3_softened_11

def f_X3_smoothLine (x1 : Int32) (x2 : Int32) (x3 : Int32) (p_samples : Nat → Int32) : Option ((Nat → Int32)) :=
  gi (x1 - ((2 : Int32) * x2)) 2304 <|
  nm ((p_samples (x1 - ((2 : Int32) * x2)).toNatClampNeg) : Int32) fun v4_2 =>
  gi (x1 - x2) 2304 <|
  nm ((p_samples (x1 - x2).toNatClampNeg) : Int32) fun v5_6 =>
  gi x1 2304 <|
  nm ((p_samples x1.toNatClampNeg) : Int32) fun v6_10 =>
  gi (x1 + x2) 2304 <|
  nm ((p_samples (x1 + x2).toNatClampNeg) : Int32) fun v7_14 =>
  bd1 (f_X3_softened (((((v4_2 - ((3 : Int32) * v5_6)) + ((3 : Int32) * v6_10)) - v7_14) + (4 : Int32)) >>> ((3 : Int32) &&& (31 : Int32))) x3) fun y_17 =>
  bd1 (f_X6_bring (v5_6 + y_17) (0 : Int32) (255 : Int32)) fun y_22 =>
  gi (x1 - x2) 2304 <|
  nm (upd p_samples (x1 - x2).toNatClampNeg y_22 : Nat → Int32) fun p_samples_27 =>
  bd1 (f_X6_bring (v6_10 - y_17) (0 : Int32) (255 : Int32)) fun y_30 =>
  gi x1 2304 <|
  nm (upd p_samples_27 x1.toNatClampNeg y_30 : Nat → Int32) fun p_samples_35 =>
  some (p_samples_35)

abbrev rm_X3_smoothLine : Room := { frames := 2, cells := 0, slots := 0, locals := 82 }

theorem cdS_X3_smoothLine : yX3_smoothLine.cls ≠ "java/lang/invoke/MethodHandle" ∧ yX3_smoothLine.cls ≠ "java/lang/invoke/VarHandle" ∧ (parseMethodDescriptor yX3_smoothLine.desc).map (fun d => d.parameters.length) = some 3 := by decide +kernel

theorem cdV_X3_smoothLine : yX3_smoothLine.cls = RX3 ∧ yX3_smoothLine.cls ≠ "java/lang/invoke/MethodHandle" ∧ yX3_smoothLine.cls ≠ "java/lang/invoke/VarHandle" ∧ (parseMethodDescriptor yX3_smoothLine.desc).map (fun d => d.parameters.length) = some 3 := ⟨rfl, cdS_X3_smoothLine⟩

theorem hi_X3_smoothLine_3 : ∀ w ∈ u_ws RX3 TX3 3, w ∈ wsX3_smoothLine := fun _ h => List.mem_cons_of_mem _ (List.mem_append_right _ h)

set_option maxHeartbeats 40000000 in
set_option maxRecDepth 100000 in
theorem c_X3_smoothLine (l : Launch) (D : va_G) (cB cI cJ cQ : ClassId) (N : Nat) (r0 : Nat → Nat) (sz : Nat) (x1 : Int32) (x2 : Int32) (x3 : Int32) (p_width : Int32) (p_height : Int32) (p_samples : Nat → Int32) (o : (Nat → Int32)) (hm0 : f_X3_smoothLine x1 x2 x3 p_samples = some o) : Met l yX3_smoothLine wsX3_smoothLine rm_X3_smoothLine (ctP D cB cI cJ cQ N sz [.ref (r0 0), .int x1, .int x2, .int x3] (wf [oB (r0 0) 3 [.ref (r0 1), .int p_width, .int p_height], aI (r0 1) cI 2304 p_samples] [])) (ctQv D (wf [oB (r0 0) 3 [.ref (r0 1), .int p_width, .int p_height], aI (r0 1) cI 2304 o] []) (va_A (wf [oB (r0 0) 3 [.ref (r0 1), .int p_width, .int p_height], aI (r0 1) cI 2304 p_samples] []) sz)) 0 0 (va_A (wf [oB (r0 0) 3 [.ref (r0 1), .int p_width, .int p_height], aI (r0 1) cI 2304 p_samples] []) sz) := by
  refine ct_of (cc := cX3_smoothLine) (maxL := 9) (ret := none) (own := RX3) (Qp := ctQv D (wf [oB (r0 0) 3 [.ref (r0 1), .int p_width, .int p_height], aI (r0 1) cI 2304 o] [])) (by decide) rfl rfl (Nat.le_of_ble_eq_true rfl) ?_
  intro p e s m args below meth c A hx hb hr hml hown hts hlk hnm hsz hAe E hP0 hD0 hS0 ls0 hl0
  subst hsz
  have hl0 : lv_has ls0 9 [(0, .ref (r0 0)), (1, .int x1), (2, .int x2), (3, .int x3)] := hl0
  obtain ⟨QQ, hQ⟩ : ∃ Q : State → Prop, Q = MQ below (ctQv D (wf [oB (r0 0) 3 [.ref (r0 1), .int p_width, .int p_height], aI (r0 1) cI 2304 o] []) A) args s 0 0 A := ⟨_, rfl⟩
  rw [← hQ]
  unfold f_X3_smoothLine at hm0
  refine lv_aload_n hx hb dX3_smoothLine_0 rfl (lv_at hl0 0 rfl) ?_
  refine va_get (D := D) (ci := 3) (v := .ref (r0 1)) (C := RX3) (T := TX3) (N := 3) hx hb hts hi_X3_smoothLine_3 hown E.1 hP0 0 rfl rfl 0 (by decide) (hts _ (List.mem_of_getElem? (i := 1) rfl)) (fun _ h9 => h9) rfl dX3_smoothLine_1 ?_
  refine lv_iload_n hx hb dX3_smoothLine_4 rfl (lv_at hl0 1 rfl) ?_
  refine lv_iconst (v := 2) hx hb dX3_smoothLine_5 (by decide) ?_
  refine lv_iload_n hx hb dX3_smoothLine_6 rfl (lv_at hl0 2 rfl) ?_
  refine lv_imul hx hb dX3_smoothLine_7 ?_
  refine lv_isub hx hb dX3_smoothLine_8 ?_
  obtain ⟨hin1, hm1⟩ := gi_some hm0; clear hm0
  refine va_iald hx hb E.1 hP0 1 0 rfl rfl hin1 dX3_smoothLine_9 ?_
  obtain ⟨v4_2, ev4_2, hm3⟩ := nm_some hm1; clear hm1
  refine ct_topi ev4_2 ?_
  refine lv_istore (lv' := [(4, .int v4_2), (0, .ref (r0 0)), (1, .int x1), (2, .int x2), (3, .int x3)]) hx hb dX3_smoothLine_10 hl0 (by decide) rfl (fun ls4 hl4 => ?_); clear hl0
  refine lv_aload_n hx hb dX3_smoothLine_12 rfl (lv_at hl4 1 rfl) ?_
  refine va_get (D := D) (ci := 3) (v := .ref (r0 1)) (C := RX3) (T := TX3) (N := 3) hx hb hts hi_X3_smoothLine_3 hown E.1 hP0 0 rfl rfl 0 (by decide) (hts _ (List.mem_of_getElem? (i := 1) rfl)) (fun _ h9 => h9) rfl dX3_smoothLine_13 ?_
  refine lv_iload_n hx hb dX3_smoothLine_16 rfl (lv_at hl4 2 rfl) ?_
  refine lv_iload_n hx hb dX3_smoothLine_17 rfl (lv_at hl4 3 rfl) ?_
  refine lv_isub hx hb dX3_smoothLine_18 ?_
  obtain ⟨hin5, hm5⟩ := gi_some hm3; clear hm3
  refine va_iald hx hb E.1 hP0 1 0 rfl rfl hin5 dX3_smoothLine_19 ?_
  obtain ⟨v5_6, ev5_6, hm7⟩ := nm_some hm5; clear hm5
  refine ct_topi ev5_6 ?_
  refine lv_istore (lv' := [(5, .int v5_6), (4, .int v4_2), (0, .ref (r0 0)), (1, .int x1), (2, .int x2), (3, .int x3)]) hx hb dX3_smoothLine_20 hl4 (by decide) rfl (fun ls8 hl8 => ?_); clear hl4
  refine lv_aload_n hx hb dX3_smoothLine_22 rfl (lv_at hl8 2 rfl) ?_
  refine va_get (D := D) (ci := 3) (v := .ref (r0 1)) (C := RX3) (T := TX3) (N := 3) hx hb hts hi_X3_smoothLine_3 hown E.1 hP0 0 rfl rfl 0 (by decide) (hts _ (List.mem_of_getElem? (i := 1) rfl)) (fun _ h9 => h9) rfl dX3_smoothLine_23 ?_
  refine lv_iload_n hx hb dX3_smoothLine_26 rfl (lv_at hl8 3 rfl) ?_
  obtain ⟨hin9, hm9⟩ := gi_some hm7; clear hm7
  refine va_iald hx hb E.1 hP0 1 0 rfl rfl hin9 dX3_smoothLine_27 ?_
  obtain ⟨v6_10, ev6_10, hm11⟩ := nm_some hm9; clear hm9
  refine ct_topi ev6_10 ?_
  refine lv_istore (lv' := [(6, .int v6_10), (5, .int v5_6), (4, .int v4_2), (0, .ref (r0 0)), (1, .int x1), (2, .int x2), (3, .int x3)]) hx hb dX3_smoothLine_28 hl8 (by decide) rfl (fun ls12 hl12 => ?_); clear hl8
  refine lv_aload_n hx hb dX3_smoothLine_30 rfl (lv_at hl12 3 rfl) ?_
  refine va_get (D := D) (ci := 3) (v := .ref (r0 1)) (C := RX3) (T := TX3) (N := 3) hx hb hts hi_X3_smoothLine_3 hown E.1 hP0 0 rfl rfl 0 (by decide) (hts _ (List.mem_of_getElem? (i := 1) rfl)) (fun _ h9 => h9) rfl dX3_smoothLine_31 ?_
  refine lv_iload_n hx hb dX3_smoothLine_34 rfl (lv_at hl12 4 rfl) ?_
  refine lv_iload_n hx hb dX3_smoothLine_35 rfl (lv_at hl12 5 rfl) ?_
  refine lv_iadd hx hb dX3_smoothLine_36 ?_
  obtain ⟨hin13, hm13⟩ := gi_some hm11; clear hm11
  refine va_iald hx hb E.1 hP0 1 0 rfl rfl hin13 dX3_smoothLine_37 ?_
  obtain ⟨v7_14, ev7_14, hm15⟩ := nm_some hm13; clear hm13
  refine ct_topi ev7_14 ?_
  refine lv_istore (lv' := [(7, .int v7_14), (6, .int v6_10), (5, .int v5_6), (4, .int v4_2), (0, .ref (r0 0)), (1, .int x1), (2, .int x2), (3, .int x3)]) hx hb dX3_smoothLine_38 hl12 (by decide) rfl (fun ls16 hl16 => ?_); clear hl12
  refine lv_iload hx hb dX3_smoothLine_40 (lv_at hl16 3 rfl) ?_
  refine lv_iconst (v := 3) hx hb dX3_smoothLine_42 (by decide) ?_
  refine lv_iload hx hb dX3_smoothLine_43 (lv_at hl16 2 rfl) ?_
  refine lv_imul hx hb dX3_smoothLine_45 ?_
  refine lv_isub hx hb dX3_smoothLine_46 ?_
  refine lv_iconst (v := 3) hx hb dX3_smoothLine_47 (by decide) ?_
  refine lv_iload hx hb dX3_smoothLine_48 (lv_at hl16 1 rfl) ?_
  refine lv_imul hx hb dX3_smoothLine_50 ?_
  refine lv_iadd hx hb dX3_smoothLine_51 ?_
  refine lv_iload hx hb dX3_smoothLine_52 (lv_at hl16 0 rfl) ?_
  refine lv_isub hx hb dX3_smoothLine_54 ?_
  refine lv_iconst (v := 4) hx hb dX3_smoothLine_55 (by decide) ?_
  refine lv_iadd hx hb dX3_smoothLine_56 ?_
  refine lv_iconst (v := 3) hx hb dX3_smoothLine_57 (by decide) ?_
  refine lv_ishr hx hb dX3_smoothLine_58 ?_
  refine lv_iload_n hx hb dX3_smoothLine_59 rfl (lv_at hl16 7 rfl) ?_
  obtain ⟨y_17, hcl18, hm18⟩ := bd1_some hm15; clear hm15
  have sb19 := ctS.mk (n := 2) (k := 0) (pre := [oB (r0 0) 3 [.ref (r0 1), .int p_width, .int p_height], aI (r0 1) cI 2304 p_samples]) (tl := []) [] [0, 1] [] [] rfl rfl (by decide +kernel) (by decide +kernel)
  refine ct_calli (r := y_17) E sb19 hP0 hD0 hS0 (va_runS (As := [.int (((((v4_2 - ((3 : Int32) * v5_6)) + ((3 : Int32) * v6_10)) - v7_14) + (4 : Int32)) >>> ((3 : Int32) &&& (31 : Int32))), .int x3]) (rest := []) ⟨hx, hb, hml, hown, hts⟩ (c_X3_softened l D cB cI cJ cQ N s.heap.size (((((v4_2 - ((3 : Int32) * v5_6)) + ((3 : Int32) * v6_10)) - v7_14) + (4 : Int32)) >>> ((3 : Int32) &&& (31 : Int32))) x3 (y_17) hcl18) (va_cwS 2 hts gX3_smoothLine_X3_softened rfl rfl rfl cdS_X3_softened ⟨Nat.le_of_ble_eq_true rfl, Nat.le_of_ble_eq_true rfl⟩) (ct_preS E sb19 hP0 hD0 hS0) rfl rfl hl16.1 rfl (lv_room (Nat.le_of_ble_eq_true rfl)) dX3_smoothLine_60 ⟨Nat.zero_le _, Nat.zero_le _⟩) (fun H20 lc20 hP20 hD20 hS20 => ?_); clear sb19 hcl18
  clear hP0 hD0 hS0
  have hP20 : va_P D vwCl (wf [oB (r0 0) 3 [.ref (r0 1), .int p_width, .int p_height], aI (r0 1) cI 2304 p_samples] []) H20 := hP20
  have hD20 : va_D A (wf [oB (r0 0) 3 [.ref (r0 1), .int p_width, .int p_height], aI (r0 1) cI 2304 p_samples] []) := hD20
  refine lv_istore (lv' := [(8, .int y_17), (7, .int v7_14), (6, .int v6_10), (5, .int v5_6), (4, .int v4_2), (0, .ref (r0 0)), (1, .int x1), (2, .int x2), (3, .int x3)]) hx hb dX3_smoothLine_63 hl16 (by decide) rfl (fun ls21 hl21 => ?_); clear hl16
  refine lv_aload_n hx hb dX3_smoothLine_65 rfl (lv_at hl21 5 rfl) ?_
  refine va_get (D := D) (ci := 3) (v := .ref (r0 1)) (C := RX3) (T := TX3) (N := 3) hx hb hts hi_X3_smoothLine_3 hown E.1 hP20 0 rfl rfl 0 (by decide) (hts _ (List.mem_of_getElem? (i := 1) rfl)) (fun _ h9 => h9) rfl dX3_smoothLine_66 ?_
  refine lv_iload_n hx hb dX3_smoothLine_69 rfl (lv_at hl21 6 rfl) ?_
  refine lv_iload_n hx hb dX3_smoothLine_70 rfl (lv_at hl21 7 rfl) ?_
  refine lv_isub hx hb dX3_smoothLine_71 ?_
  refine lv_iload hx hb dX3_smoothLine_72 (lv_at hl21 3 rfl) ?_
  refine lv_iload hx hb dX3_smoothLine_74 (lv_at hl21 0 rfl) ?_
  refine lv_iadd hx hb dX3_smoothLine_76 ?_
  refine lv_iconst (v := 0) hx hb dX3_smoothLine_77 (by decide) ?_
  refine lv_sipush (v := 255) hx hb dX3_smoothLine_78 (by decide) ?_
  obtain ⟨y_22, hcl23, hm23⟩ := bd1_some hm18; clear hm18
  have sb24 := ctS.mk (n := 2) (k := 0) (pre := [oB (r0 0) 3 [.ref (r0 1), .int p_width, .int p_height], aI (r0 1) cI 2304 p_samples]) (tl := []) [] [0, 1] [] [] rfl rfl (by decide +kernel) (by decide +kernel)
  refine ct_calli (r := y_22) E sb24 hP20 hD20 hS20 (va_runSN (As := [.int (v5_6 + y_17), .int (0 : Int32), .int (255 : Int32)]) (rest := [.int (x1 - x2), .ref (r0 1)]) ⟨hx, hb, hml, hown, hts⟩ (c_X6_bring l D cB cI cJ cQ N H20.size (v5_6 + y_17) (0 : Int32) (255 : Int32) (y_22) hcl23) ⟨va_cnB 3 hts gX3_smoothLine_X6_bring_n22 rfl rfl rfl (E.2.1.1 _ (List.mem_of_getElem? (i := 7) rfl)) (hts _ (List.mem_of_getElem? (i := 11) rfl)) cdS_X6_bring ⟨Nat.le_of_ble_eq_true rfl, Nat.le_of_ble_eq_true rfl⟩, (hts _ (List.mem_of_getElem? (i := 10) rfl)), trivial⟩ (ct_preS E sb24 hP20 hD20 hS20) rfl rfl hl21.1 rfl (lv_room (Nat.le_of_ble_eq_true rfl)) dX3_smoothLine_81 ⟨Nat.zero_le _, Nat.zero_le _⟩) (fun H25 lc25 hP25 hD25 hS25 => ?_); clear sb24 hcl23
  clear hP20 hD20 hS20
  have hP25 : va_P D vwCl (wf [oB (r0 0) 3 [.ref (r0 1), .int p_width, .int p_height], aI (r0 1) cI 2304 p_samples] []) H25 := hP25
  have hD25 : va_D A (wf [oB (r0 0) 3 [.ref (r0 1), .int p_width, .int p_height], aI (r0 1) cI 2304 p_samples] []) := hD25
  obtain ⟨hin26, hm26⟩ := gi_some hm23; clear hm23
  obtain ⟨p_samples_27, ep_samples_27, hm28⟩ := nm_some hm26; clear hm26
  refine ct_iast (g := p_samples_27) (ws' := (wf [oB (r0 0) 3 [.ref (r0 1), .int p_width, .int p_height], aI (r0 1) cI 2304 p_samples_27] [])) hx hb E.1 hP25 hD25 hS25 1 0 rfl rfl hin26 ep_samples_27 rfl dX3_smoothLine_84 (fun H29 lc29 hP29 hD29 hS29 => ?_)
  clear hP25 hD25 hS25
  refine lv_aload_n hx hb dX3_smoothLine_85 rfl (lv_at hl21 5 rfl) ?_
  refine va_get (D := D) (ci := 3) (v := .ref (r0 1)) (C := RX3) (T := TX3) (N := 3) hx hb hts hi_X3_smoothLine_3 hown E.1 hP29 0 rfl rfl 0 (by decide) (hts _ (List.mem_of_getElem? (i := 1) rfl)) (fun _ h9 => h9) rfl dX3_smoothLine_86 ?_
  refine lv_iload_n hx hb dX3_smoothLine_89 rfl (lv_at hl21 6 rfl) ?_
  refine lv_iload hx hb dX3_smoothLine_90 (lv_at hl21 2 rfl) ?_
  refine lv_iload hx hb dX3_smoothLine_92 (lv_at hl21 0 rfl) ?_
  refine lv_isub hx hb dX3_smoothLine_94 ?_
  refine lv_iconst (v := 0) hx hb dX3_smoothLine_95 (by decide) ?_
  refine lv_sipush (v := 255) hx hb dX3_smoothLine_96 (by decide) ?_
  obtain ⟨y_30, hcl31, hm31⟩ := bd1_some hm28; clear hm28
  have sb32 := ctS.mk (n := 2) (k := 0) (pre := [oB (r0 0) 3 [.ref (r0 1), .int p_width, .int p_height], aI (r0 1) cI 2304 p_samples_27]) (tl := []) [] [0, 1] [] [] rfl rfl (by decide +kernel) (by decide +kernel)
  refine ct_calli (r := y_30) E sb32 hP29 hD29 hS29 (va_runSN (As := [.int (v6_10 - y_17), .int (0 : Int32), .int (255 : Int32)]) (rest := [.int x1, .ref (r0 1)]) ⟨hx, hb, hml, hown, hts⟩ (c_X6_bring l D cB cI cJ cQ N H29.size (v6_10 - y_17) (0 : Int32) (255 : Int32) (y_30) hcl31) ⟨va_cnB 3 hts gX3_smoothLine_X6_bring_n22 rfl rfl rfl (E.2.1.1 _ (List.mem_of_getElem? (i := 7) rfl)) (hts _ (List.mem_of_getElem? (i := 11) rfl)) cdS_X6_bring ⟨Nat.le_of_ble_eq_true rfl, Nat.le_of_ble_eq_true rfl⟩, (hts _ (List.mem_of_getElem? (i := 10) rfl)), trivial⟩ (ct_preS E sb32 hP29 hD29 hS29) rfl rfl hl21.1 rfl (lv_room (Nat.le_of_ble_eq_true rfl)) dX3_smoothLine_99 ⟨Nat.zero_le _, Nat.zero_le _⟩) (fun H33 lc33 hP33 hD33 hS33 => ?_); clear sb32 hcl31
  clear hP29 hD29 hS29
  have hP33 : va_P D vwCl (wf [oB (r0 0) 3 [.ref (r0 1), .int p_width, .int p_height], aI (r0 1) cI 2304 p_samples_27] []) H33 := hP33
  have hD33 : va_D A (wf [oB (r0 0) 3 [.ref (r0 1), .int p_width, .int p_height], aI (r0 1) cI 2304 p_samples_27] []) := hD33
  obtain ⟨hin34, hm34⟩ := gi_some hm31; clear hm31
  obtain ⟨p_samples_35, ep_samples_35, hm36⟩ := nm_some hm34; clear hm34
  refine ct_iast (g := p_samples_35) (ws' := (wf [oB (r0 0) 3 [.ref (r0 1), .int p_width, .int p_height], aI (r0 1) cI 2304 p_samples_35] [])) hx hb E.1 hP33 hD33 hS33 1 0 rfl rfl hin34 ep_samples_35 rfl dX3_smoothLine_102 (fun H37 lc37 hP37 hD37 hS37 => ?_)
  clear hP33 hD33 hS33
  obtain rfl := Option.some.inj hm36
  rw [hQ]
  exact ct_vret hx hb hr hlk hP37 hD37 hS37 dX3_smoothLine_103

def f_X3_smoothUpright_L3 (x1 : Int32) (x2 : Int32) (x3 : Int32) (p_width : Int32) : Nat → (Nat → Int32) → Int32 → Option ((Nat → Int32))
  | 0, _, _ => none
  | n + 1, p_samples_3, v4_4 =>
  (if (8 : Int32) ≤ v4_4 then
  (some (p_samples_3))
  else
  (bd1 (f_X3_smoothLine (((x2 + v4_4) * p_width) + x1) (1 : Int32) x3 p_samples_3) fun p_samples_11 =>
  nm (v4_4 + (1 : Int32) : Int32) fun v4_15 =>
  f_X3_smoothUpright_L3 x1 x2 x3 p_width n p_samples_11 v4_15))

def f_X3_smoothUpright (x1 : Int32) (x2 : Int32) (x3 : Int32) (p_width : Int32) (p_samples : Nat → Int32) : Option ((Nat → Int32)) :=
  bd1 (f_X3_smoothUpright_L3 x1 x2 x3 p_width 4000 p_samples (0 : Int32)) fun p_samples_18 =>
  some (p_samples_18)

abbrev rm_X3_smoothUpright : Room := { frames := 3, cells := 0, slots := 0, locals := 110 }

theorem cdS_X3_smoothUpright : yX3_smoothUpright.cls ≠ "java/lang/invoke/MethodHandle" ∧ yX3_smoothUpright.cls ≠ "java/lang/invoke/VarHandle" ∧ (parseMethodDescriptor yX3_smoothUpright.desc).map (fun d => d.parameters.length) = some 3 := by decide +kernel

theorem cdV_X3_smoothUpright : yX3_smoothUpright.cls = RX3 ∧ yX3_smoothUpright.cls ≠ "java/lang/invoke/MethodHandle" ∧ yX3_smoothUpright.cls ≠ "java/lang/invoke/VarHandle" ∧ (parseMethodDescriptor yX3_smoothUpright.desc).map (fun d => d.parameters.length) = some 3 := ⟨rfl, cdS_X3_smoothUpright⟩

theorem hi_X3_smoothUpright_3 : ∀ w ∈ u_ws RX3 TX3 3, w ∈ wsX3_smoothUpright := fun _ h => List.mem_cons_of_mem _ (List.mem_append_right _ h)

set_option maxHeartbeats 40000000 in
set_option maxRecDepth 100000 in
theorem c_X3_smoothUpright (l : Launch) (D : va_G) (cB cI cJ cQ : ClassId) (N : Nat) (r0 : Nat → Nat) (sz : Nat) (x1 : Int32) (x2 : Int32) (x3 : Int32) (p_width : Int32) (p_height : Int32) (p_samples : Nat → Int32) (o : (Nat → Int32)) (hm0 : f_X3_smoothUpright x1 x2 x3 p_width p_samples = some o) : Met l yX3_smoothUpright wsX3_smoothUpright rm_X3_smoothUpright (ctP D cB cI cJ cQ N sz [.ref (r0 0), .int x1, .int x2, .int x3] (wf [oB (r0 0) 3 [.ref (r0 1), .int p_width, .int p_height], aI (r0 1) cI 2304 p_samples] [])) (ctQv D (wf [oB (r0 0) 3 [.ref (r0 1), .int p_width, .int p_height], aI (r0 1) cI 2304 o] []) (va_A (wf [oB (r0 0) 3 [.ref (r0 1), .int p_width, .int p_height], aI (r0 1) cI 2304 p_samples] []) sz)) 0 0 (va_A (wf [oB (r0 0) 3 [.ref (r0 1), .int p_width, .int p_height], aI (r0 1) cI 2304 p_samples] []) sz) := by
  refine ct_of (cc := cX3_smoothUpright) (maxL := 5) (ret := none) (own := RX3) (Qp := ctQv D (wf [oB (r0 0) 3 [.ref (r0 1), .int p_width, .int p_height], aI (r0 1) cI 2304 o] [])) (by decide) rfl rfl (Nat.le_of_ble_eq_true rfl) ?_
  intro p e s m args below meth c A hx hb hr hml hown hts hlk hnm hsz hAe E hP0 hD0 hS0 ls0 hl0
  subst hsz
  have hl0 : lv_has ls0 5 [(0, .ref (r0 0)), (1, .int x1), (2, .int x2), (3, .int x3)] := hl0
  obtain ⟨QQ, hQ⟩ : ∃ Q : State → Prop, Q = MQ below (ctQv D (wf [oB (r0 0) 3 [.ref (r0 1), .int p_width, .int p_height], aI (r0 1) cI 2304 o] []) A) args s 0 0 A := ⟨_, rfl⟩
  rw [← hQ]
  unfold f_X3_smoothUpright at hm0
  refine lv_iconst (v := 0) hx hb dX3_smoothUpright_0 (by decide) ?_
  refine lv_istore (lv' := [(4, .int (0 : Int32)), (0, .ref (r0 0)), (1, .int x1), (2, .int x2), (3, .int x3)]) hx hb dX3_smoothUpright_1 hl0 (by decide) rfl (fun ls1 hl1 => ?_); clear hl0
  obtain ⟨p_samples_18, hlp2, hm19⟩ := bd1_some hm0; clear hm0
  have LP2 : ∀ (n : Nat) (p_samples_3 : Nat → Int32) (v4_4 : Int32) (z2 : (Nat → Int32)) (H5 : Heap) (lc5 : List Loc) (ls5 : Array Slot), f_X3_smoothUpright_L3 x1 x2 x3 p_width n p_samples_3 v4_4 = some z2 → va_P D vwCl (wf [oB (r0 0) 3 [.ref (r0 1), .int p_width, .int p_height], aI (r0 1) cI 2304 p_samples_3] []) H5 → va_D A (wf [oB (r0 0) 3 [.ref (r0 1), .int p_width, .int p_height], aI (r0 1) cI 2304 p_samples_3] []) → va_S A s.heap H5 lc5 → lv_has ls5 5 [(0, .ref (r0 0)), (1, .int x1), (2, .int x2), (3, .int x3), (4, .int v4_4)] → (∀ (H : Heap) (lc : List Loc) (ls : Array Slot), va_P D vwCl (wf [oB (r0 0) 3 [.ref (r0 1), .int p_width, .int p_height], aI (r0 1) cI 2304 z2] []) H → va_D A (wf [oB (r0 0) 3 [.ref (r0 1), .int p_width, .int p_height], aI (r0 1) cI 2304 z2] []) → va_S A s.heap H lc → lv_has ls 5 [] → W p l e rm_X3_smoothUpright s m args below meth c H lc 0 0 QQ (F0 m 33 ls [])) → W p l e rm_X3_smoothUpright s m args below meth c H5 lc5 0 0 QQ (F0 m 3 ls5 []) := by
    intro n
    induction n with
    | zero =>
      intro p_samples_3 v4_4 z2 H5 lc5 ls5 hm7; simp [f_X3_smoothUpright_L3] at hm7
    | succ n ih =>
      intro p_samples_3 v4_4 z2 H5 lc5 ls5 hm7 hP5 hD5 hS5 hl5 kx
      rw [f_X3_smoothUpright_L3] at hm7
      refine lv_iload hx hb dX3_smoothUpright_3 (lv_at hl5 4 rfl) ?_
      refine lv_bipush (v := 8) hx hb dX3_smoothUpright_5 (by decide) ?_
      refine lv_icmp_ge (tgt := 33) hx hb dX3_smoothUpright_7 (by decide) (fun hc8 => ?_) (fun hc8 => ?_)
      · have hm9 := bq_t hm7 hc8; clear hm7
        obtain rfl := Option.some.inj hm9
        exact kx _ _ _ hP5 hD5 hS5 (lv_sub hl5 [] rfl)
      · have hm10 := bq_f hm7 hc8; clear hm7
        refine lv_aload_n hx hb dX3_smoothUpright_10 rfl (lv_at hl5 0 rfl) ?_
        refine lv_iload_n hx hb dX3_smoothUpright_11 rfl (lv_at hl5 2 rfl) ?_
        refine lv_iload hx hb dX3_smoothUpright_12 (lv_at hl5 4 rfl) ?_
        refine lv_iadd hx hb dX3_smoothUpright_14 ?_
        refine lv_aload_n hx hb dX3_smoothUpright_15 rfl (lv_at hl5 0 rfl) ?_
        refine va_get (D := D) (ci := 3) (v := .int p_width) (C := RX3) (T := TX3) (N := 3) hx hb hts hi_X3_smoothUpright_3 hown E.1 hP5 0 rfl rfl 1 (by decide) (hts _ (List.mem_of_getElem? (i := 1) rfl)) (fun _ h9 => h9) rfl dX3_smoothUpright_16 ?_
        refine lv_imul hx hb dX3_smoothUpright_19 ?_
        refine lv_iload_n hx hb dX3_smoothUpright_20 rfl (lv_at hl5 1 rfl) ?_
        refine lv_iadd hx hb dX3_smoothUpright_21 ?_
        refine lv_iconst (v := 1) hx hb dX3_smoothUpright_22 (by decide) ?_
        refine lv_iload_n hx hb dX3_smoothUpright_23 rfl (lv_at hl5 3 rfl) ?_
        obtain ⟨p_samples_11, hcl12, hm12⟩ := bd1_some hm10; clear hm10
        have sb13 := ctS.mk (n := 2) (k := 0) (pre := [oB (r0 0) 3 [.ref (r0 1), .int p_width, .int p_height], aI (r0 1) cI 2304 p_samples_3]) (tl := []) [0, 1] [] [] [] rfl rfl (by decide +kernel) (by decide +kernel)
        refine ct_callv E sb13 hP5 hD5 hS5 (va_runV (As := [.int (((x2 + v4_4) * p_width) + x1), .int (1 : Int32), .int x3]) (rest := []) ⟨hx, hb, hml, hown, hts⟩ (c_X3_smoothLine l D cB cI cJ cQ N r0 H5.size (((x2 + v4_4) * p_width) + x1) (1 : Int32) x3 p_width p_height p_samples_3 (p_samples_11) hcl12) (cwV 3 hts gX3_smoothUpright_X3_smoothLine rfl rfl rfl cdV_X3_smoothLine ⟨Nat.le_of_ble_eq_true rfl, Nat.le_of_ble_eq_true rfl⟩) (ct_preV (q0 := 0) (ci := 3) E sb13 hP5 hD5 hS5 rfl rfl) rfl rfl hl5.1 rfl (lv_room (Nat.le_of_ble_eq_true rfl)) dX3_smoothUpright_24 ⟨Nat.zero_le _, Nat.zero_le _⟩) (fun H14 lc14 hP14 hD14 hS14 => ?_); clear sb13 hcl12
        clear hP5 hD5 hS5
        have hP14 : va_P D vwCl (wf [oB (r0 0) 3 [.ref (r0 1), .int p_width, .int p_height], aI (r0 1) cI 2304 p_samples_11] []) H14 := hP14
        have hD14 : va_D A (wf [oB (r0 0) 3 [.ref (r0 1), .int p_width, .int p_height], aI (r0 1) cI 2304 p_samples_11] []) := hD14
        obtain ⟨v4_15, ev4_15, hm16⟩ := nm_some hm12; clear hm12
        refine lv_iinc (v := v4_15) (lv' := [(4, .int v4_15), (0, .ref (r0 0)), (1, .int x1), (2, .int x2), (3, .int x3)]) hx hb dX3_smoothUpright_27 hl5 (k := 4) rfl (by rw [ev4_15]; rfl) (by decide) rfl (fun ls17 hl17 => ?_); clear hl5
        refine lv_goto (tgt := 3) hx hb dX3_smoothUpright_30 (by decide) ?_
        exact ih p_samples_11 v4_15 _ _ _ _ hm16 hP14 hD14 hS14 (lv_sub hl17 [1, 2, 3, 4, 0] rfl) kx
  refine LP2 4000 p_samples (0 : Int32) (p_samples_18) _ _ _ hlp2 hP0 hD0 hS0 (lv_sub hl1 [1, 2, 3, 4, 0] rfl) (fun H20 lc20 ls20 hP20 hD20 hS20 hl20 => ?_); clear LP2 hlp2
  clear hP0 hD0 hS0
  have hl20 : lv_has ls20 5 [] := hl20
  have hP20 : va_P D vwCl (wf [oB (r0 0) 3 [.ref (r0 1), .int p_width, .int p_height], aI (r0 1) cI 2304 p_samples_18] []) H20 := hP20
  have hD20 : va_D A (wf [oB (r0 0) 3 [.ref (r0 1), .int p_width, .int p_height], aI (r0 1) cI 2304 p_samples_18] []) := hD20
  obtain rfl := Option.some.inj hm19
  rw [hQ]
  exact ct_vret hx hb hr hlk hP20 hD20 hS20 dX3_smoothUpright_33

def f_X3_smoothLevel_L3 (x1 : Int32) (x2 : Int32) (x3 : Int32) (p_width : Int32) : Nat → (Nat → Int32) → Int32 → Option ((Nat → Int32))
  | 0, _, _ => none
  | n + 1, p_samples_3, v4_4 =>
  (if (8 : Int32) ≤ v4_4 then
  (some (p_samples_3))
  else
  (bd1 (f_X3_smoothLine (((x2 * p_width) + x1) + v4_4) p_width x3 p_samples_3) fun p_samples_11 =>
  nm (v4_4 + (1 : Int32) : Int32) fun v4_15 =>
  f_X3_smoothLevel_L3 x1 x2 x3 p_width n p_samples_11 v4_15))

def f_X3_smoothLevel (x1 : Int32) (x2 : Int32) (x3 : Int32) (p_width : Int32) (p_samples : Nat → Int32) : Option ((Nat → Int32)) :=
  bd1 (f_X3_smoothLevel_L3 x1 x2 x3 p_width 4000 p_samples (0 : Int32)) fun p_samples_18 =>
  some (p_samples_18)

abbrev rm_X3_smoothLevel : Room := { frames := 3, cells := 0, slots := 0, locals := 110 }

theorem cdS_X3_smoothLevel : yX3_smoothLevel.cls ≠ "java/lang/invoke/MethodHandle" ∧ yX3_smoothLevel.cls ≠ "java/lang/invoke/VarHandle" ∧ (parseMethodDescriptor yX3_smoothLevel.desc).map (fun d => d.parameters.length) = some 3 := by decide +kernel

theorem cdV_X3_smoothLevel : yX3_smoothLevel.cls = RX3 ∧ yX3_smoothLevel.cls ≠ "java/lang/invoke/MethodHandle" ∧ yX3_smoothLevel.cls ≠ "java/lang/invoke/VarHandle" ∧ (parseMethodDescriptor yX3_smoothLevel.desc).map (fun d => d.parameters.length) = some 3 := ⟨rfl, cdS_X3_smoothLevel⟩

theorem hi_X3_smoothLevel_3 : ∀ w ∈ u_ws RX3 TX3 3, w ∈ wsX3_smoothLevel := fun _ h => List.mem_cons_of_mem _ (List.mem_append_right _ h)

set_option maxHeartbeats 40000000 in
set_option maxRecDepth 100000 in
theorem c_X3_smoothLevel (l : Launch) (D : va_G) (cB cI cJ cQ : ClassId) (N : Nat) (r0 : Nat → Nat) (sz : Nat) (x1 : Int32) (x2 : Int32) (x3 : Int32) (p_width : Int32) (p_height : Int32) (p_samples : Nat → Int32) (o : (Nat → Int32)) (hm0 : f_X3_smoothLevel x1 x2 x3 p_width p_samples = some o) : Met l yX3_smoothLevel wsX3_smoothLevel rm_X3_smoothLevel (ctP D cB cI cJ cQ N sz [.ref (r0 0), .int x1, .int x2, .int x3] (wf [oB (r0 0) 3 [.ref (r0 1), .int p_width, .int p_height], aI (r0 1) cI 2304 p_samples] [])) (ctQv D (wf [oB (r0 0) 3 [.ref (r0 1), .int p_width, .int p_height], aI (r0 1) cI 2304 o] []) (va_A (wf [oB (r0 0) 3 [.ref (r0 1), .int p_width, .int p_height], aI (r0 1) cI 2304 p_samples] []) sz)) 0 0 (va_A (wf [oB (r0 0) 3 [.ref (r0 1), .int p_width, .int p_height], aI (r0 1) cI 2304 p_samples] []) sz) := by
  refine ct_of (cc := cX3_smoothLevel) (maxL := 5) (ret := none) (own := RX3) (Qp := ctQv D (wf [oB (r0 0) 3 [.ref (r0 1), .int p_width, .int p_height], aI (r0 1) cI 2304 o] [])) (by decide) rfl rfl (Nat.le_of_ble_eq_true rfl) ?_
  intro p e s m args below meth c A hx hb hr hml hown hts hlk hnm hsz hAe E hP0 hD0 hS0 ls0 hl0
  subst hsz
  have hl0 : lv_has ls0 5 [(0, .ref (r0 0)), (1, .int x1), (2, .int x2), (3, .int x3)] := hl0
  obtain ⟨QQ, hQ⟩ : ∃ Q : State → Prop, Q = MQ below (ctQv D (wf [oB (r0 0) 3 [.ref (r0 1), .int p_width, .int p_height], aI (r0 1) cI 2304 o] []) A) args s 0 0 A := ⟨_, rfl⟩
  rw [← hQ]
  unfold f_X3_smoothLevel at hm0
  refine lv_iconst (v := 0) hx hb dX3_smoothLevel_0 (by decide) ?_
  refine lv_istore (lv' := [(4, .int (0 : Int32)), (0, .ref (r0 0)), (1, .int x1), (2, .int x2), (3, .int x3)]) hx hb dX3_smoothLevel_1 hl0 (by decide) rfl (fun ls1 hl1 => ?_); clear hl0
  obtain ⟨p_samples_18, hlp2, hm19⟩ := bd1_some hm0; clear hm0
  have LP2 : ∀ (n : Nat) (p_samples_3 : Nat → Int32) (v4_4 : Int32) (z2 : (Nat → Int32)) (H5 : Heap) (lc5 : List Loc) (ls5 : Array Slot), f_X3_smoothLevel_L3 x1 x2 x3 p_width n p_samples_3 v4_4 = some z2 → va_P D vwCl (wf [oB (r0 0) 3 [.ref (r0 1), .int p_width, .int p_height], aI (r0 1) cI 2304 p_samples_3] []) H5 → va_D A (wf [oB (r0 0) 3 [.ref (r0 1), .int p_width, .int p_height], aI (r0 1) cI 2304 p_samples_3] []) → va_S A s.heap H5 lc5 → lv_has ls5 5 [(0, .ref (r0 0)), (1, .int x1), (2, .int x2), (3, .int x3), (4, .int v4_4)] → (∀ (H : Heap) (lc : List Loc) (ls : Array Slot), va_P D vwCl (wf [oB (r0 0) 3 [.ref (r0 1), .int p_width, .int p_height], aI (r0 1) cI 2304 z2] []) H → va_D A (wf [oB (r0 0) 3 [.ref (r0 1), .int p_width, .int p_height], aI (r0 1) cI 2304 z2] []) → va_S A s.heap H lc → lv_has ls 5 [] → W p l e rm_X3_smoothLevel s m args below meth c H lc 0 0 QQ (F0 m 36 ls [])) → W p l e rm_X3_smoothLevel s m args below meth c H5 lc5 0 0 QQ (F0 m 3 ls5 []) := by
    intro n
    induction n with
    | zero =>
      intro p_samples_3 v4_4 z2 H5 lc5 ls5 hm7; simp [f_X3_smoothLevel_L3] at hm7
    | succ n ih =>
      intro p_samples_3 v4_4 z2 H5 lc5 ls5 hm7 hP5 hD5 hS5 hl5 kx
      rw [f_X3_smoothLevel_L3] at hm7
      refine lv_iload hx hb dX3_smoothLevel_3 (lv_at hl5 4 rfl) ?_
      refine lv_bipush (v := 8) hx hb dX3_smoothLevel_5 (by decide) ?_
      refine lv_icmp_ge (tgt := 36) hx hb dX3_smoothLevel_7 (by decide) (fun hc8 => ?_) (fun hc8 => ?_)
      · have hm9 := bq_t hm7 hc8; clear hm7
        obtain rfl := Option.some.inj hm9
        exact kx _ _ _ hP5 hD5 hS5 (lv_sub hl5 [] rfl)
      · have hm10 := bq_f hm7 hc8; clear hm7
        refine lv_aload_n hx hb dX3_smoothLevel_10 rfl (lv_at hl5 0 rfl) ?_
        refine lv_iload_n hx hb dX3_smoothLevel_11 rfl (lv_at hl5 2 rfl) ?_
        refine lv_aload_n hx hb dX3_smoothLevel_12 rfl (lv_at hl5 0 rfl) ?_
        refine va_get (D := D) (ci := 3) (v := .int p_width) (C := RX3) (T := TX3) (N := 3) hx hb hts hi_X3_smoothLevel_3 hown E.1 hP5 0 rfl rfl 1 (by decide) (hts _ (List.mem_of_getElem? (i := 1) rfl)) (fun _ h9 => h9) rfl dX3_smoothLevel_13 ?_
        refine lv_imul hx hb dX3_smoothLevel_16 ?_
        refine lv_iload_n hx hb dX3_smoothLevel_17 rfl (lv_at hl5 1 rfl) ?_
        refine lv_iadd hx hb dX3_smoothLevel_18 ?_
        refine lv_iload hx hb dX3_smoothLevel_19 (lv_at hl5 4 rfl) ?_
        refine lv_iadd hx hb dX3_smoothLevel_21 ?_
        refine lv_aload_n hx hb dX3_smoothLevel_22 rfl (lv_at hl5 0 rfl) ?_
        refine va_get (D := D) (ci := 3) (v := .int p_width) (C := RX3) (T := TX3) (N := 3) hx hb hts hi_X3_smoothLevel_3 hown E.1 hP5 0 rfl rfl 1 (by decide) (hts _ (List.mem_of_getElem? (i := 1) rfl)) (fun _ h9 => h9) rfl dX3_smoothLevel_23 ?_
        refine lv_iload_n hx hb dX3_smoothLevel_26 rfl (lv_at hl5 3 rfl) ?_
        obtain ⟨p_samples_11, hcl12, hm12⟩ := bd1_some hm10; clear hm10
        have sb13 := ctS.mk (n := 2) (k := 0) (pre := [oB (r0 0) 3 [.ref (r0 1), .int p_width, .int p_height], aI (r0 1) cI 2304 p_samples_3]) (tl := []) [0, 1] [] [] [] rfl rfl (by decide +kernel) (by decide +kernel)
        refine ct_callv E sb13 hP5 hD5 hS5 (va_runV (As := [.int (((x2 * p_width) + x1) + v4_4), .int p_width, .int x3]) (rest := []) ⟨hx, hb, hml, hown, hts⟩ (c_X3_smoothLine l D cB cI cJ cQ N r0 H5.size (((x2 * p_width) + x1) + v4_4) p_width x3 p_width p_height p_samples_3 (p_samples_11) hcl12) (cwV 3 hts gX3_smoothLevel_X3_smoothLine rfl rfl rfl cdV_X3_smoothLine ⟨Nat.le_of_ble_eq_true rfl, Nat.le_of_ble_eq_true rfl⟩) (ct_preV (q0 := 0) (ci := 3) E sb13 hP5 hD5 hS5 rfl rfl) rfl rfl hl5.1 rfl (lv_room (Nat.le_of_ble_eq_true rfl)) dX3_smoothLevel_27 ⟨Nat.zero_le _, Nat.zero_le _⟩) (fun H14 lc14 hP14 hD14 hS14 => ?_); clear sb13 hcl12
        clear hP5 hD5 hS5
        have hP14 : va_P D vwCl (wf [oB (r0 0) 3 [.ref (r0 1), .int p_width, .int p_height], aI (r0 1) cI 2304 p_samples_11] []) H14 := hP14
        have hD14 : va_D A (wf [oB (r0 0) 3 [.ref (r0 1), .int p_width, .int p_height], aI (r0 1) cI 2304 p_samples_11] []) := hD14
        obtain ⟨v4_15, ev4_15, hm16⟩ := nm_some hm12; clear hm12
        refine lv_iinc (v := v4_15) (lv' := [(4, .int v4_15), (0, .ref (r0 0)), (1, .int x1), (2, .int x2), (3, .int x3)]) hx hb dX3_smoothLevel_30 hl5 (k := 4) rfl (by rw [ev4_15]; rfl) (by decide) rfl (fun ls17 hl17 => ?_); clear hl5
        refine lv_goto (tgt := 3) hx hb dX3_smoothLevel_33 (by decide) ?_
        exact ih p_samples_11 v4_15 _ _ _ _ hm16 hP14 hD14 hS14 (lv_sub hl17 [1, 2, 3, 4, 0] rfl) kx
  refine LP2 4000 p_samples (0 : Int32) (p_samples_18) _ _ _ hlp2 hP0 hD0 hS0 (lv_sub hl1 [1, 2, 3, 4, 0] rfl) (fun H20 lc20 ls20 hP20 hD20 hS20 hl20 => ?_); clear LP2 hlp2
  clear hP0 hD0 hS0
  have hl20 : lv_has ls20 5 [] := hl20
  have hP20 : va_P D vwCl (wf [oB (r0 0) 3 [.ref (r0 1), .int p_width, .int p_height], aI (r0 1) cI 2304 p_samples_18] []) H20 := hP20
  have hD20 : va_D A (wf [oB (r0 0) 3 [.ref (r0 1), .int p_width, .int p_height], aI (r0 1) cI 2304 p_samples_18] []) := hD20
  obtain rfl := Option.some.inj hm19
  rw [hQ]
  exact ct_vret hx hb hr hlk hP20 hD20 hS20 dX3_smoothLevel_36

def f_X3_smoothBlock (x2 : Int32) (x3 : Int32) (x4 : Int32) (p_width : Int32) (p_samples : Nat → Int32) (f_columns : Int32) (f_rows : Int32) (f_modes : Nat → Int32) : Option ((Nat → Int32)) :=
  nm ((x2 * (8 : Int32)) : Int32) fun v5_1 =>
  nm ((x3 * (8 : Int32)) : Int32) fun v6_4 =>
  jn (fun (k8 : (Nat → Int32) → Option ((Nat → Int32))) => (if x2 ≤ (0 : Int32) then
  (k8 p_samples)
  else
  (bd1 (f_X3_smoothUpright v5_1 v6_4 x4 p_width p_samples) fun p_samples_57 =>
  k8 p_samples_57))) fun p_samples_9 =>
  jn (fun (k13 : (Nat → Int32) → Option ((Nat → Int32))) => (if x3 ≤ (0 : Int32) then
  (k13 p_samples_9)
  else
  (bd1 (f_X3_smoothLevel v5_1 v6_4 x4 p_width p_samples_9) fun p_samples_49 =>
  k13 p_samples_49))) fun p_samples_14 =>
  bd1 (f_X3_isThereNotCoded (x2 + (1 : Int32)) x3 f_columns f_rows f_modes) fun y_17 =>
  jn (fun (k22 : (Nat → Int32) → Option ((Nat → Int32))) => (if y_17 = (0 : Int32) then
  (k22 p_samples_14)
  else
  (bd1 (f_X3_smoothUpright (v5_1 + (8 : Int32)) v6_4 x4 p_width p_samples_14) fun p_samples_41 =>
  k22 p_samples_41))) fun p_samples_23 =>
  bd1 (f_X3_isThereNotCoded x2 (x3 + (1 : Int32)) f_columns f_rows f_modes) fun y_26 =>
  (if y_26 = (0 : Int32) then
  (some (p_samples_23))
  else
  (bd1 (f_X3_smoothLevel v5_1 (v6_4 + (8 : Int32)) x4 p_width p_samples_23) fun p_samples_33 =>
  some (p_samples_33)))

abbrev rm_X3_smoothBlock : Room := { frames := 4, cells := 0, slots := 0, locals := 134 }

theorem cdS_X3_smoothBlock : yX3_smoothBlock.cls ≠ "java/lang/invoke/MethodHandle" ∧ yX3_smoothBlock.cls ≠ "java/lang/invoke/VarHandle" ∧ (parseMethodDescriptor yX3_smoothBlock.desc).map (fun d => d.parameters.length) = some 4 := by decide +kernel

theorem cdV_X3_smoothBlock : yX3_smoothBlock.cls = RX3 ∧ yX3_smoothBlock.cls ≠ "java/lang/invoke/MethodHandle" ∧ yX3_smoothBlock.cls ≠ "java/lang/invoke/VarHandle" ∧ (parseMethodDescriptor yX3_smoothBlock.desc).map (fun d => d.parameters.length) = some 4 := ⟨rfl, cdS_X3_smoothBlock⟩

set_option maxHeartbeats 40000000 in
set_option maxRecDepth 100000 in
theorem c_X3_smoothBlock (l : Launch) (D : va_G) (cB cI cJ cQ : ClassId) (N : Nat) (r0 : Nat → Nat) (r1 : Nat → Nat) (sz : Nat) (x2 : Int32) (x3 : Int32) (x4 : Int32) (p_width : Int32) (p_height : Int32) (p_samples : Nat → Int32) (f_columns : Int32) (f_rows : Int32) (f_scale : Int32) (f_toEnd : Int32) (f_between : Int32) (f_kept : Int32) (f_modes : Nat → Int32) (o : (Nat → Int32)) (hm0 : f_X3_smoothBlock x2 x3 x4 p_width p_samples f_columns f_rows f_modes = some o) : Met l yX3_smoothBlock wsX3_smoothBlock rm_X3_smoothBlock (ctP D cB cI cJ cQ N sz [.ref (r0 0), .ref (r1 0), .int x2, .int x3, .int x4] (wf [oB (r0 0) 3 [.ref (r0 1), .int p_width, .int p_height], aI (r0 1) cI 2304 p_samples, oB (r1 0) 0 [.ref (r1 1), .ref (r1 2), .ref (r1 3), .ref (r1 4), .ref (r1 5), .ref (r1 6), .int f_columns, .int f_rows, .int f_scale, .int f_toEnd, .int f_between, .int f_kept], aI (r1 1) cI 36 f_modes] [])) (ctQv D (wf [oB (r0 0) 3 [.ref (r0 1), .int p_width, .int p_height], aI (r0 1) cI 2304 o, oB (r1 0) 0 [.ref (r1 1), .ref (r1 2), .ref (r1 3), .ref (r1 4), .ref (r1 5), .ref (r1 6), .int f_columns, .int f_rows, .int f_scale, .int f_toEnd, .int f_between, .int f_kept], aI (r1 1) cI 36 f_modes] []) (va_A (wf [oB (r0 0) 3 [.ref (r0 1), .int p_width, .int p_height], aI (r0 1) cI 2304 p_samples, oB (r1 0) 0 [.ref (r1 1), .ref (r1 2), .ref (r1 3), .ref (r1 4), .ref (r1 5), .ref (r1 6), .int f_columns, .int f_rows, .int f_scale, .int f_toEnd, .int f_between, .int f_kept], aI (r1 1) cI 36 f_modes] []) sz)) 0 0 (va_A (wf [oB (r0 0) 3 [.ref (r0 1), .int p_width, .int p_height], aI (r0 1) cI 2304 p_samples, oB (r1 0) 0 [.ref (r1 1), .ref (r1 2), .ref (r1 3), .ref (r1 4), .ref (r1 5), .ref (r1 6), .int f_columns, .int f_rows, .int f_scale, .int f_toEnd, .int f_between, .int f_kept], aI (r1 1) cI 36 f_modes] []) sz) := by
  refine ct_of (cc := cX3_smoothBlock) (maxL := 7) (ret := none) (own := RX3) (Qp := ctQv D (wf [oB (r0 0) 3 [.ref (r0 1), .int p_width, .int p_height], aI (r0 1) cI 2304 o, oB (r1 0) 0 [.ref (r1 1), .ref (r1 2), .ref (r1 3), .ref (r1 4), .ref (r1 5), .ref (r1 6), .int f_columns, .int f_rows, .int f_scale, .int f_toEnd, .int f_between, .int f_kept], aI (r1 1) cI 36 f_modes] [])) (by decide) rfl rfl (Nat.le_of_ble_eq_true rfl) ?_
  intro p e s m args below meth c A hx hb hr hml hown hts hlk hnm hsz hAe E hP0 hD0 hS0 ls0 hl0
  subst hsz
  have hl0 : lv_has ls0 7 [(0, .ref (r0 0)), (1, .ref (r1 0)), (2, .int x2), (3, .int x3), (4, .int x4)] := hl0
  obtain ⟨QQ, hQ⟩ : ∃ Q : State → Prop, Q = MQ below (ctQv D (wf [oB (r0 0) 3 [.ref (r0 1), .int p_width, .int p_height], aI (r0 1) cI 2304 o, oB (r1 0) 0 [.ref (r1 1), .ref (r1 2), .ref (r1 3), .ref (r1 4), .ref (r1 5), .ref (r1 6), .int f_columns, .int f_rows, .int f_scale, .int f_toEnd, .int f_between, .int f_kept], aI (r1 1) cI 36 f_modes] []) A) args s 0 0 A := ⟨_, rfl⟩
  rw [← hQ]
  unfold f_X3_smoothBlock at hm0
  refine lv_iload_n hx hb dX3_smoothBlock_0 rfl (lv_at hl0 2 rfl) ?_
  refine lv_bipush (v := 8) hx hb dX3_smoothBlock_1 (by decide) ?_
  refine lv_imul hx hb dX3_smoothBlock_3 ?_
  obtain ⟨v5_1, ev5_1, hm2⟩ := nm_some hm0; clear hm0
  refine ct_topi ev5_1 ?_
  refine lv_istore (lv' := [(5, .int v5_1), (0, .ref (r0 0)), (1, .ref (r1 0)), (2, .int x2), (3, .int x3), (4, .int x4)]) hx hb dX3_smoothBlock_4 hl0 (by decide) rfl (fun ls3 hl3 => ?_); clear hl0
  refine lv_iload_n hx hb dX3_smoothBlock_6 rfl (lv_at hl3 4 rfl) ?_
  refine lv_bipush (v := 8) hx hb dX3_smoothBlock_7 (by decide) ?_
  refine lv_imul hx hb dX3_smoothBlock_9 ?_
  obtain ⟨v6_4, ev6_4, hm5⟩ := nm_some hm2; clear hm2
  refine ct_topi ev6_4 ?_
  refine lv_istore (lv' := [(6, .int v6_4), (5, .int v5_1), (0, .ref (r0 0)), (1, .ref (r1 0)), (2, .int x2), (3, .int x3), (4, .int x4)]) hx hb dX3_smoothBlock_10 hl3 (by decide) rfl (fun ls6 hl6 => ?_); clear hl3
  refine lv_iload_n hx hb dX3_smoothBlock_12 rfl (lv_at hl6 4 rfl) ?_
  obtain ⟨k8, ek8, hm8⟩ := jn_some hm5; clear hm5
  have KJ8 : ∀ (p_samples_9 : Nat → Int32) (H10 : Heap) (lc10 : List Loc) (ls10 : Array Slot), k8 p_samples_9 = some o → va_P D vwCl (wf [oB (r0 0) 3 [.ref (r0 1), .int p_width, .int p_height], aI (r0 1) cI 2304 p_samples_9, oB (r1 0) 0 [.ref (r1 1), .ref (r1 2), .ref (r1 3), .ref (r1 4), .ref (r1 5), .ref (r1 6), .int f_columns, .int f_rows, .int f_scale, .int f_toEnd, .int f_between, .int f_kept], aI (r1 1) cI 36 f_modes] []) H10 → va_D A (wf [oB (r0 0) 3 [.ref (r0 1), .int p_width, .int p_height], aI (r0 1) cI 2304 p_samples_9, oB (r1 0) 0 [.ref (r1 1), .ref (r1 2), .ref (r1 3), .ref (r1 4), .ref (r1 5), .ref (r1 6), .int f_columns, .int f_rows, .int f_scale, .int f_toEnd, .int f_between, .int f_kept], aI (r1 1) cI 36 f_modes] []) → va_S A s.heap H10 lc10 → lv_has ls10 7 [(0, .ref (r0 0)), (1, .ref (r1 0)), (2, .int x2), (3, .int x3), (4, .int x4), (5, .int v5_1), (6, .int v6_4)] → W p l e rm_X3_smoothBlock s m args below meth c H10 lc10 0 0 QQ (F0 m 26 ls10 []) := by
    intro p_samples_9 H10 lc10 ls10 hm11 hP10 hD10 hS10 hl10
    rw [ek8] at hm11
    refine lv_iload_n hx hb dX3_smoothBlock_26 rfl (lv_at hl10 3 rfl) ?_
    obtain ⟨k13, ek13, hm13⟩ := jn_some hm11; clear hm11
    have KJ13 : ∀ (p_samples_14 : Nat → Int32) (H15 : Heap) (lc15 : List Loc) (ls15 : Array Slot), k13 p_samples_14 = some o → va_P D vwCl (wf [oB (r0 0) 3 [.ref (r0 1), .int p_width, .int p_height], aI (r0 1) cI 2304 p_samples_14, oB (r1 0) 0 [.ref (r1 1), .ref (r1 2), .ref (r1 3), .ref (r1 4), .ref (r1 5), .ref (r1 6), .int f_columns, .int f_rows, .int f_scale, .int f_toEnd, .int f_between, .int f_kept], aI (r1 1) cI 36 f_modes] []) H15 → va_D A (wf [oB (r0 0) 3 [.ref (r0 1), .int p_width, .int p_height], aI (r0 1) cI 2304 p_samples_14, oB (r1 0) 0 [.ref (r1 1), .ref (r1 2), .ref (r1 3), .ref (r1 4), .ref (r1 5), .ref (r1 6), .int f_columns, .int f_rows, .int f_scale, .int f_toEnd, .int f_between, .int f_kept], aI (r1 1) cI 36 f_modes] []) → va_S A s.heap H15 lc15 → lv_has ls15 7 [(0, .ref (r0 0)), (1, .ref (r1 0)), (2, .int x2), (3, .int x3), (4, .int x4), (5, .int v5_1), (6, .int v6_4)] → W p l e rm_X3_smoothBlock s m args below meth c H15 lc15 0 0 QQ (F0 m 40 ls15 []) := by
      intro p_samples_14 H15 lc15 ls15 hm16 hP15 hD15 hS15 hl15
      rw [ek13] at hm16
      refine lv_aload_n hx hb dX3_smoothBlock_40 rfl (lv_at hl15 1 rfl) ?_
      refine lv_iload_n hx hb dX3_smoothBlock_41 rfl (lv_at hl15 2 rfl) ?_
      refine lv_iconst (v := 1) hx hb dX3_smoothBlock_42 (by decide) ?_
      refine lv_iadd hx hb dX3_smoothBlock_43 ?_
      refine lv_iload_n hx hb dX3_smoothBlock_44 rfl (lv_at hl15 3 rfl) ?_
      obtain ⟨y_17, hcl18, hm18⟩ := bd1_some hm16; clear hm16
      have sb19 := ctS.mk (n := 4) (k := 0) (pre := [oB (r0 0) 3 [.ref (r0 1), .int p_width, .int p_height], aI (r0 1) cI 2304 p_samples_14, oB (r1 0) 0 [.ref (r1 1), .ref (r1 2), .ref (r1 3), .ref (r1 4), .ref (r1 5), .ref (r1 6), .int f_columns, .int f_rows, .int f_scale, .int f_toEnd, .int f_between, .int f_kept], aI (r1 1) cI 36 f_modes]) (tl := []) [2, 3] [0, 1] [] [] rfl rfl (by decide +kernel) (by decide +kernel)
      refine ct_calli (r := y_17) E sb19 hP15 hD15 hS15 (va_runS (As := [.ref (r1 0), .int (x2 + (1 : Int32)), .int x3]) (rest := []) ⟨hx, hb, hml, hown, hts⟩ (c_X3_isThereNotCoded l D cB cI cJ cQ N r1 H15.size (x2 + (1 : Int32)) x3 f_columns f_rows f_scale f_toEnd f_between f_kept f_modes (y_17) hcl18) (va_cwS 3 hts gX3_smoothBlock_X3_isThereNotCoded rfl rfl rfl cdS_X3_isThereNotCoded ⟨Nat.le_of_ble_eq_true rfl, Nat.le_of_ble_eq_true rfl⟩) (ct_preS E sb19 hP15 hD15 hS15) rfl rfl hl15.1 rfl (lv_room (Nat.le_of_ble_eq_true rfl)) dX3_smoothBlock_45 ⟨Nat.zero_le _, Nat.zero_le _⟩) (fun H20 lc20 hP20 hD20 hS20 => ?_); clear sb19 hcl18
      clear hP15 hD15 hS15
      have hP20 : va_P D vwCl (wf [oB (r0 0) 3 [.ref (r0 1), .int p_width, .int p_height], aI (r0 1) cI 2304 p_samples_14, oB (r1 0) 0 [.ref (r1 1), .ref (r1 2), .ref (r1 3), .ref (r1 4), .ref (r1 5), .ref (r1 6), .int f_columns, .int f_rows, .int f_scale, .int f_toEnd, .int f_between, .int f_kept], aI (r1 1) cI 36 f_modes] []) H20 := hP20
      have hD20 : va_D A (wf [oB (r0 0) 3 [.ref (r0 1), .int p_width, .int p_height], aI (r0 1) cI 2304 p_samples_14, oB (r1 0) 0 [.ref (r1 1), .ref (r1 2), .ref (r1 3), .ref (r1 4), .ref (r1 5), .ref (r1 6), .int f_columns, .int f_rows, .int f_scale, .int f_toEnd, .int f_between, .int f_kept], aI (r1 1) cI 36 f_modes] []) := hD20
      obtain ⟨k22, ek22, hm22⟩ := jn_some hm18; clear hm18
      have KJ22 : ∀ (p_samples_23 : Nat → Int32) (H24 : Heap) (lc24 : List Loc) (ls24 : Array Slot), k22 p_samples_23 = some o → va_P D vwCl (wf [oB (r0 0) 3 [.ref (r0 1), .int p_width, .int p_height], aI (r0 1) cI 2304 p_samples_23, oB (r1 0) 0 [.ref (r1 1), .ref (r1 2), .ref (r1 3), .ref (r1 4), .ref (r1 5), .ref (r1 6), .int f_columns, .int f_rows, .int f_scale, .int f_toEnd, .int f_between, .int f_kept], aI (r1 1) cI 36 f_modes] []) H24 → va_D A (wf [oB (r0 0) 3 [.ref (r0 1), .int p_width, .int p_height], aI (r0 1) cI 2304 p_samples_23, oB (r1 0) 0 [.ref (r1 1), .ref (r1 2), .ref (r1 3), .ref (r1 4), .ref (r1 5), .ref (r1 6), .int f_columns, .int f_rows, .int f_scale, .int f_toEnd, .int f_between, .int f_kept], aI (r1 1) cI 36 f_modes] []) → va_S A s.heap H24 lc24 → lv_has ls24 7 [(0, .ref (r0 0)), (1, .ref (r1 0)), (2, .int x2), (3, .int x3), (4, .int x4), (5, .int v5_1), (6, .int v6_4)] → W p l e rm_X3_smoothBlock s m args below meth c H24 lc24 0 0 QQ (F0 m 64 ls24 []) := by
        intro p_samples_23 H24 lc24 ls24 hm25 hP24 hD24 hS24 hl24
        rw [ek22] at hm25
        refine lv_aload_n hx hb dX3_smoothBlock_64 rfl (lv_at hl24 1 rfl) ?_
        refine lv_iload_n hx hb dX3_smoothBlock_65 rfl (lv_at hl24 2 rfl) ?_
        refine lv_iload_n hx hb dX3_smoothBlock_66 rfl (lv_at hl24 3 rfl) ?_
        refine lv_iconst (v := 1) hx hb dX3_smoothBlock_67 (by decide) ?_
        refine lv_iadd hx hb dX3_smoothBlock_68 ?_
        obtain ⟨y_26, hcl27, hm27⟩ := bd1_some hm25; clear hm25
        have sb28 := ctS.mk (n := 4) (k := 0) (pre := [oB (r0 0) 3 [.ref (r0 1), .int p_width, .int p_height], aI (r0 1) cI 2304 p_samples_23, oB (r1 0) 0 [.ref (r1 1), .ref (r1 2), .ref (r1 3), .ref (r1 4), .ref (r1 5), .ref (r1 6), .int f_columns, .int f_rows, .int f_scale, .int f_toEnd, .int f_between, .int f_kept], aI (r1 1) cI 36 f_modes]) (tl := []) [2, 3] [0, 1] [] [] rfl rfl (by decide +kernel) (by decide +kernel)
        refine ct_calli (r := y_26) E sb28 hP24 hD24 hS24 (va_runS (As := [.ref (r1 0), .int x2, .int (x3 + (1 : Int32))]) (rest := []) ⟨hx, hb, hml, hown, hts⟩ (c_X3_isThereNotCoded l D cB cI cJ cQ N r1 H24.size x2 (x3 + (1 : Int32)) f_columns f_rows f_scale f_toEnd f_between f_kept f_modes (y_26) hcl27) (va_cwS 3 hts gX3_smoothBlock_X3_isThereNotCoded rfl rfl rfl cdS_X3_isThereNotCoded ⟨Nat.le_of_ble_eq_true rfl, Nat.le_of_ble_eq_true rfl⟩) (ct_preS E sb28 hP24 hD24 hS24) rfl rfl hl24.1 rfl (lv_room (Nat.le_of_ble_eq_true rfl)) dX3_smoothBlock_69 ⟨Nat.zero_le _, Nat.zero_le _⟩) (fun H29 lc29 hP29 hD29 hS29 => ?_); clear sb28 hcl27
        clear hP24 hD24 hS24
        have hP29 : va_P D vwCl (wf [oB (r0 0) 3 [.ref (r0 1), .int p_width, .int p_height], aI (r0 1) cI 2304 p_samples_23, oB (r1 0) 0 [.ref (r1 1), .ref (r1 2), .ref (r1 3), .ref (r1 4), .ref (r1 5), .ref (r1 6), .int f_columns, .int f_rows, .int f_scale, .int f_toEnd, .int f_between, .int f_kept], aI (r1 1) cI 36 f_modes] []) H29 := hP29
        have hD29 : va_D A (wf [oB (r0 0) 3 [.ref (r0 1), .int p_width, .int p_height], aI (r0 1) cI 2304 p_samples_23, oB (r1 0) 0 [.ref (r1 1), .ref (r1 2), .ref (r1 3), .ref (r1 4), .ref (r1 5), .ref (r1 6), .int f_columns, .int f_rows, .int f_scale, .int f_toEnd, .int f_between, .int f_kept], aI (r1 1) cI 36 f_modes] []) := hD29
        refine lv_if_eq (tgt := 88) hx hb dX3_smoothBlock_72 (by decide) (fun hc30 => ?_) (fun hc30 => ?_)
        · have hm31 := bq_t hm27 hc30; clear hm27
          obtain rfl := Option.some.inj hm31
          rw [hQ]
          exact ct_vret hx hb hr hlk hP29 hD29 hS29 dX3_smoothBlock_88
        · have hm32 := bq_f hm27 hc30; clear hm27
          refine lv_aload_n hx hb dX3_smoothBlock_75 rfl (lv_at hl24 0 rfl) ?_
          refine lv_iload hx hb dX3_smoothBlock_76 (lv_at hl24 5 rfl) ?_
          refine lv_iload hx hb dX3_smoothBlock_78 (lv_at hl24 6 rfl) ?_
          refine lv_bipush (v := 8) hx hb dX3_smoothBlock_80 (by decide) ?_
          refine lv_iadd hx hb dX3_smoothBlock_82 ?_
          refine lv_iload hx hb dX3_smoothBlock_83 (lv_at hl24 4 rfl) ?_
          obtain ⟨p_samples_33, hcl34, hm34⟩ := bd1_some hm32; clear hm32
          have sb35 := ctS.mk (n := 4) (k := 0) (pre := [oB (r0 0) 3 [.ref (r0 1), .int p_width, .int p_height], aI (r0 1) cI 2304 p_samples_23, oB (r1 0) 0 [.ref (r1 1), .ref (r1 2), .ref (r1 3), .ref (r1 4), .ref (r1 5), .ref (r1 6), .int f_columns, .int f_rows, .int f_scale, .int f_toEnd, .int f_between, .int f_kept], aI (r1 1) cI 36 f_modes]) (tl := []) [0, 1] [2, 3] [] [] rfl rfl (by decide +kernel) (by decide +kernel)
          refine ct_callv E sb35 hP29 hD29 hS29 (va_runV (As := [.int v5_1, .int (v6_4 + (8 : Int32)), .int x4]) (rest := []) ⟨hx, hb, hml, hown, hts⟩ (c_X3_smoothLevel l D cB cI cJ cQ N r0 H29.size v5_1 (v6_4 + (8 : Int32)) x4 p_width p_height p_samples_23 (p_samples_33) hcl34) (cwV 3 hts gX3_smoothBlock_X3_smoothLevel rfl rfl rfl cdV_X3_smoothLevel ⟨Nat.le_of_ble_eq_true rfl, Nat.le_of_ble_eq_true rfl⟩) (ct_preV (q0 := 0) (ci := 3) E sb35 hP29 hD29 hS29 rfl rfl) rfl rfl hl24.1 rfl (lv_room (Nat.le_of_ble_eq_true rfl)) dX3_smoothBlock_85 ⟨Nat.zero_le _, Nat.zero_le _⟩) (fun H36 lc36 hP36 hD36 hS36 => ?_); clear sb35 hcl34
          clear hP29 hD29 hS29
          have hP36 : va_P D vwCl (wf [oB (r1 0) 0 [.ref (r1 1), .ref (r1 2), .ref (r1 3), .ref (r1 4), .ref (r1 5), .ref (r1 6), .int f_columns, .int f_rows, .int f_scale, .int f_toEnd, .int f_between, .int f_kept], aI (r1 1) cI 36 f_modes, oB (r0 0) 3 [.ref (r0 1), .int p_width, .int p_height], aI (r0 1) cI 2304 p_samples_33] []) H36 := hP36
          have hD36 : va_D A (wf [oB (r1 0) 0 [.ref (r1 1), .ref (r1 2), .ref (r1 3), .ref (r1 4), .ref (r1 5), .ref (r1 6), .int f_columns, .int f_rows, .int f_scale, .int f_toEnd, .int f_between, .int f_kept], aI (r1 1) cI 36 f_modes, oB (r0 0) 3 [.ref (r0 1), .int p_width, .int p_height], aI (r0 1) cI 2304 p_samples_33] []) := hD36
          obtain ⟨hP37, hD37⟩ := ct_ord (n := 4) (k := 0) [2, 3, 0, 1] [] hP36 hD36 rfl rfl (by decide +kernel) (by decide +kernel)
          have hS37 := hS36
          have hP37 : va_P D vwCl (wf [oB (r0 0) 3 [.ref (r0 1), .int p_width, .int p_height], aI (r0 1) cI 2304 p_samples_33, oB (r1 0) 0 [.ref (r1 1), .ref (r1 2), .ref (r1 3), .ref (r1 4), .ref (r1 5), .ref (r1 6), .int f_columns, .int f_rows, .int f_scale, .int f_toEnd, .int f_between, .int f_kept], aI (r1 1) cI 36 f_modes] []) H36 := hP37
          have hD37 : va_D A (wf [oB (r0 0) 3 [.ref (r0 1), .int p_width, .int p_height], aI (r0 1) cI 2304 p_samples_33, oB (r1 0) 0 [.ref (r1 1), .ref (r1 2), .ref (r1 3), .ref (r1 4), .ref (r1 5), .ref (r1 6), .int f_columns, .int f_rows, .int f_scale, .int f_toEnd, .int f_between, .int f_kept], aI (r1 1) cI 36 f_modes] []) := hD37
          obtain rfl := Option.some.inj hm34
          rw [hQ]
          exact ct_vret hx hb hr hlk hP37 hD37 hS37 dX3_smoothBlock_88
      refine lv_if_eq (tgt := 64) hx hb dX3_smoothBlock_48 (by decide) (fun hc38 => ?_) (fun hc38 => ?_)
      · have hm39 := bq_t hm22 hc38; clear hm22
        exact KJ22 p_samples_14 _ _ _ hm39 hP20 hD20 hS20 (lv_sub hl15 [0, 1, 2, 3, 4, 5, 6] rfl)
      · have hm40 := bq_f hm22 hc38; clear hm22
        refine lv_aload_n hx hb dX3_smoothBlock_51 rfl (lv_at hl15 0 rfl) ?_
        refine lv_iload hx hb dX3_smoothBlock_52 (lv_at hl15 5 rfl) ?_
        refine lv_bipush (v := 8) hx hb dX3_smoothBlock_54 (by decide) ?_
        refine lv_iadd hx hb dX3_smoothBlock_56 ?_
        refine lv_iload hx hb dX3_smoothBlock_57 (lv_at hl15 6 rfl) ?_
        refine lv_iload hx hb dX3_smoothBlock_59 (lv_at hl15 4 rfl) ?_
        obtain ⟨p_samples_41, hcl42, hm42⟩ := bd1_some hm40; clear hm40
        have sb43 := ctS.mk (n := 4) (k := 0) (pre := [oB (r0 0) 3 [.ref (r0 1), .int p_width, .int p_height], aI (r0 1) cI 2304 p_samples_14, oB (r1 0) 0 [.ref (r1 1), .ref (r1 2), .ref (r1 3), .ref (r1 4), .ref (r1 5), .ref (r1 6), .int f_columns, .int f_rows, .int f_scale, .int f_toEnd, .int f_between, .int f_kept], aI (r1 1) cI 36 f_modes]) (tl := []) [0, 1] [2, 3] [] [] rfl rfl (by decide +kernel) (by decide +kernel)
        refine ct_callv E sb43 hP20 hD20 hS20 (va_runV (As := [.int (v5_1 + (8 : Int32)), .int v6_4, .int x4]) (rest := []) ⟨hx, hb, hml, hown, hts⟩ (c_X3_smoothUpright l D cB cI cJ cQ N r0 H20.size (v5_1 + (8 : Int32)) v6_4 x4 p_width p_height p_samples_14 (p_samples_41) hcl42) (cwV 3 hts gX3_smoothBlock_X3_smoothUpright rfl rfl rfl cdV_X3_smoothUpright ⟨Nat.le_of_ble_eq_true rfl, Nat.le_of_ble_eq_true rfl⟩) (ct_preV (q0 := 0) (ci := 3) E sb43 hP20 hD20 hS20 rfl rfl) rfl rfl hl15.1 rfl (lv_room (Nat.le_of_ble_eq_true rfl)) dX3_smoothBlock_61 ⟨Nat.zero_le _, Nat.zero_le _⟩) (fun H44 lc44 hP44 hD44 hS44 => ?_); clear sb43 hcl42
        clear hP20 hD20 hS20
        have hP44 : va_P D vwCl (wf [oB (r1 0) 0 [.ref (r1 1), .ref (r1 2), .ref (r1 3), .ref (r1 4), .ref (r1 5), .ref (r1 6), .int f_columns, .int f_rows, .int f_scale, .int f_toEnd, .int f_between, .int f_kept], aI (r1 1) cI 36 f_modes, oB (r0 0) 3 [.ref (r0 1), .int p_width, .int p_height], aI (r0 1) cI 2304 p_samples_41] []) H44 := hP44
        have hD44 : va_D A (wf [oB (r1 0) 0 [.ref (r1 1), .ref (r1 2), .ref (r1 3), .ref (r1 4), .ref (r1 5), .ref (r1 6), .int f_columns, .int f_rows, .int f_scale, .int f_toEnd, .int f_between, .int f_kept], aI (r1 1) cI 36 f_modes, oB (r0 0) 3 [.ref (r0 1), .int p_width, .int p_height], aI (r0 1) cI 2304 p_samples_41] []) := hD44
        obtain ⟨hP45, hD45⟩ := ct_ord (n := 4) (k := 0) [2, 3, 0, 1] [] hP44 hD44 rfl rfl (by decide +kernel) (by decide +kernel)
        have hS45 := hS44
        have hP45 : va_P D vwCl (wf [oB (r0 0) 3 [.ref (r0 1), .int p_width, .int p_height], aI (r0 1) cI 2304 p_samples_41, oB (r1 0) 0 [.ref (r1 1), .ref (r1 2), .ref (r1 3), .ref (r1 4), .ref (r1 5), .ref (r1 6), .int f_columns, .int f_rows, .int f_scale, .int f_toEnd, .int f_between, .int f_kept], aI (r1 1) cI 36 f_modes] []) H44 := hP45
        have hD45 : va_D A (wf [oB (r0 0) 3 [.ref (r0 1), .int p_width, .int p_height], aI (r0 1) cI 2304 p_samples_41, oB (r1 0) 0 [.ref (r1 1), .ref (r1 2), .ref (r1 3), .ref (r1 4), .ref (r1 5), .ref (r1 6), .int f_columns, .int f_rows, .int f_scale, .int f_toEnd, .int f_between, .int f_kept], aI (r1 1) cI 36 f_modes] []) := hD45
        exact KJ22 p_samples_41 _ _ _ hm42 hP45 hD45 hS45 (lv_sub hl15 [0, 1, 2, 3, 4, 5, 6] rfl)
    refine lv_if_le (tgt := 40) hx hb dX3_smoothBlock_27 (by decide) (fun hc46 => ?_) (fun hc46 => ?_)
    · have hm47 := bq_t hm13 hc46; clear hm13
      exact KJ13 p_samples_9 _ _ _ hm47 hP10 hD10 hS10 (lv_sub hl10 [0, 1, 2, 3, 4, 5, 6] rfl)
    · have hm48 := bq_f hm13 hc46; clear hm13
      refine lv_aload_n hx hb dX3_smoothBlock_30 rfl (lv_at hl10 0 rfl) ?_
      refine lv_iload hx hb dX3_smoothBlock_31 (lv_at hl10 5 rfl) ?_
      refine lv_iload hx hb dX3_smoothBlock_33 (lv_at hl10 6 rfl) ?_
      refine lv_iload hx hb dX3_smoothBlock_35 (lv_at hl10 4 rfl) ?_
      obtain ⟨p_samples_49, hcl50, hm50⟩ := bd1_some hm48; clear hm48
      have sb51 := ctS.mk (n := 4) (k := 0) (pre := [oB (r0 0) 3 [.ref (r0 1), .int p_width, .int p_height], aI (r0 1) cI 2304 p_samples_9, oB (r1 0) 0 [.ref (r1 1), .ref (r1 2), .ref (r1 3), .ref (r1 4), .ref (r1 5), .ref (r1 6), .int f_columns, .int f_rows, .int f_scale, .int f_toEnd, .int f_between, .int f_kept], aI (r1 1) cI 36 f_modes]) (tl := []) [0, 1] [2, 3] [] [] rfl rfl (by decide +kernel) (by decide +kernel)
      refine ct_callv E sb51 hP10 hD10 hS10 (va_runV (As := [.int v5_1, .int v6_4, .int x4]) (rest := []) ⟨hx, hb, hml, hown, hts⟩ (c_X3_smoothLevel l D cB cI cJ cQ N r0 H10.size v5_1 v6_4 x4 p_width p_height p_samples_9 (p_samples_49) hcl50) (cwV 3 hts gX3_smoothBlock_X3_smoothLevel rfl rfl rfl cdV_X3_smoothLevel ⟨Nat.le_of_ble_eq_true rfl, Nat.le_of_ble_eq_true rfl⟩) (ct_preV (q0 := 0) (ci := 3) E sb51 hP10 hD10 hS10 rfl rfl) rfl rfl hl10.1 rfl (lv_room (Nat.le_of_ble_eq_true rfl)) dX3_smoothBlock_37 ⟨Nat.zero_le _, Nat.zero_le _⟩) (fun H52 lc52 hP52 hD52 hS52 => ?_); clear sb51 hcl50
      clear hP10 hD10 hS10
      have hP52 : va_P D vwCl (wf [oB (r1 0) 0 [.ref (r1 1), .ref (r1 2), .ref (r1 3), .ref (r1 4), .ref (r1 5), .ref (r1 6), .int f_columns, .int f_rows, .int f_scale, .int f_toEnd, .int f_between, .int f_kept], aI (r1 1) cI 36 f_modes, oB (r0 0) 3 [.ref (r0 1), .int p_width, .int p_height], aI (r0 1) cI 2304 p_samples_49] []) H52 := hP52
      have hD52 : va_D A (wf [oB (r1 0) 0 [.ref (r1 1), .ref (r1 2), .ref (r1 3), .ref (r1 4), .ref (r1 5), .ref (r1 6), .int f_columns, .int f_rows, .int f_scale, .int f_toEnd, .int f_between, .int f_kept], aI (r1 1) cI 36 f_modes, oB (r0 0) 3 [.ref (r0 1), .int p_width, .int p_height], aI (r0 1) cI 2304 p_samples_49] []) := hD52
      obtain ⟨hP53, hD53⟩ := ct_ord (n := 4) (k := 0) [2, 3, 0, 1] [] hP52 hD52 rfl rfl (by decide +kernel) (by decide +kernel)
      have hS53 := hS52
      have hP53 : va_P D vwCl (wf [oB (r0 0) 3 [.ref (r0 1), .int p_width, .int p_height], aI (r0 1) cI 2304 p_samples_49, oB (r1 0) 0 [.ref (r1 1), .ref (r1 2), .ref (r1 3), .ref (r1 4), .ref (r1 5), .ref (r1 6), .int f_columns, .int f_rows, .int f_scale, .int f_toEnd, .int f_between, .int f_kept], aI (r1 1) cI 36 f_modes] []) H52 := hP53
      have hD53 : va_D A (wf [oB (r0 0) 3 [.ref (r0 1), .int p_width, .int p_height], aI (r0 1) cI 2304 p_samples_49, oB (r1 0) 0 [.ref (r1 1), .ref (r1 2), .ref (r1 3), .ref (r1 4), .ref (r1 5), .ref (r1 6), .int f_columns, .int f_rows, .int f_scale, .int f_toEnd, .int f_between, .int f_kept], aI (r1 1) cI 36 f_modes] []) := hD53
      exact KJ13 p_samples_49 _ _ _ hm50 hP53 hD53 hS53 (lv_sub hl10 [0, 1, 2, 3, 4, 5, 6] rfl)
  refine lv_if_le (tgt := 26) hx hb dX3_smoothBlock_13 (by decide) (fun hc54 => ?_) (fun hc54 => ?_)
  · have hm55 := bq_t hm8 hc54; clear hm8
    exact KJ8 p_samples _ _ _ hm55 hP0 hD0 hS0 (lv_sub hl6 [2, 3, 4, 5, 6, 1, 0] rfl)
  · have hm56 := bq_f hm8 hc54; clear hm8
    refine lv_aload_n hx hb dX3_smoothBlock_16 rfl (lv_at hl6 2 rfl) ?_
    refine lv_iload hx hb dX3_smoothBlock_17 (lv_at hl6 1 rfl) ?_
    refine lv_iload hx hb dX3_smoothBlock_19 (lv_at hl6 0 rfl) ?_
    refine lv_iload hx hb dX3_smoothBlock_21 (lv_at hl6 6 rfl) ?_
    obtain ⟨p_samples_57, hcl58, hm58⟩ := bd1_some hm56; clear hm56
    have sb59 := ctS.mk (n := 4) (k := 0) (pre := [oB (r0 0) 3 [.ref (r0 1), .int p_width, .int p_height], aI (r0 1) cI 2304 p_samples, oB (r1 0) 0 [.ref (r1 1), .ref (r1 2), .ref (r1 3), .ref (r1 4), .ref (r1 5), .ref (r1 6), .int f_columns, .int f_rows, .int f_scale, .int f_toEnd, .int f_between, .int f_kept], aI (r1 1) cI 36 f_modes]) (tl := []) [0, 1] [2, 3] [] [] rfl rfl (by decide +kernel) (by decide +kernel)
    refine ct_callv E sb59 hP0 hD0 hS0 (va_runV (As := [.int v5_1, .int v6_4, .int x4]) (rest := []) ⟨hx, hb, hml, hown, hts⟩ (c_X3_smoothUpright l D cB cI cJ cQ N r0 s.heap.size v5_1 v6_4 x4 p_width p_height p_samples (p_samples_57) hcl58) (cwV 3 hts gX3_smoothBlock_X3_smoothUpright rfl rfl rfl cdV_X3_smoothUpright ⟨Nat.le_of_ble_eq_true rfl, Nat.le_of_ble_eq_true rfl⟩) (ct_preV (q0 := 0) (ci := 3) E sb59 hP0 hD0 hS0 rfl rfl) rfl rfl hl6.1 rfl (lv_room (Nat.le_of_ble_eq_true rfl)) dX3_smoothBlock_23 ⟨Nat.zero_le _, Nat.zero_le _⟩) (fun H60 lc60 hP60 hD60 hS60 => ?_); clear sb59 hcl58
    clear hP0 hD0 hS0
    have hP60 : va_P D vwCl (wf [oB (r1 0) 0 [.ref (r1 1), .ref (r1 2), .ref (r1 3), .ref (r1 4), .ref (r1 5), .ref (r1 6), .int f_columns, .int f_rows, .int f_scale, .int f_toEnd, .int f_between, .int f_kept], aI (r1 1) cI 36 f_modes, oB (r0 0) 3 [.ref (r0 1), .int p_width, .int p_height], aI (r0 1) cI 2304 p_samples_57] []) H60 := hP60
    have hD60 : va_D A (wf [oB (r1 0) 0 [.ref (r1 1), .ref (r1 2), .ref (r1 3), .ref (r1 4), .ref (r1 5), .ref (r1 6), .int f_columns, .int f_rows, .int f_scale, .int f_toEnd, .int f_between, .int f_kept], aI (r1 1) cI 36 f_modes, oB (r0 0) 3 [.ref (r0 1), .int p_width, .int p_height], aI (r0 1) cI 2304 p_samples_57] []) := hD60
    obtain ⟨hP61, hD61⟩ := ct_ord (n := 4) (k := 0) [2, 3, 0, 1] [] hP60 hD60 rfl rfl (by decide +kernel) (by decide +kernel)
    have hS61 := hS60
    have hP61 : va_P D vwCl (wf [oB (r0 0) 3 [.ref (r0 1), .int p_width, .int p_height], aI (r0 1) cI 2304 p_samples_57, oB (r1 0) 0 [.ref (r1 1), .ref (r1 2), .ref (r1 3), .ref (r1 4), .ref (r1 5), .ref (r1 6), .int f_columns, .int f_rows, .int f_scale, .int f_toEnd, .int f_between, .int f_kept], aI (r1 1) cI 36 f_modes] []) H60 := hP61
    have hD61 : va_D A (wf [oB (r0 0) 3 [.ref (r0 1), .int p_width, .int p_height], aI (r0 1) cI 2304 p_samples_57, oB (r1 0) 0 [.ref (r1 1), .ref (r1 2), .ref (r1 3), .ref (r1 4), .ref (r1 5), .ref (r1 6), .int f_columns, .int f_rows, .int f_scale, .int f_toEnd, .int f_between, .int f_kept], aI (r1 1) cI 36 f_modes] []) := hD61
    exact KJ8 p_samples_57 _ _ _ hm58 hP61 hD61 hS61 (lv_sub hl6 [2, 3, 4, 5, 6, 1, 0] rfl)

def f_X3_smooth_L13 (x2 : Int32) (p_width : Int32) (f_columns : Int32) (f_rows : Int32) (f_modes : Nat → Int32) (v3_4 : Int32) : Nat → (Nat → Int32) → Int32 → Option ((Nat → Int32))
  | 0, _, _ => none
  | n + 1, p_samples_18, v4_19 =>
  bd1 (f_X0_columns f_columns) fun y_23 =>
  (if y_23 ≤ v4_19 then
  (some (p_samples_18))
  else
  (bd1 (f_X0_index v4_19 v3_4 f_columns) fun y_30 =>
  bd1 (f_X0_isCoded y_30 f_modes) fun y_34 =>
  jn (fun (k39 : (Nat → Int32) → Option ((Nat → Int32))) => (if y_34 = (0 : Int32) then
  (k39 p_samples_18)
  else
  (bd1 (f_X3_smoothBlock v4_19 v3_4 x2 p_width p_samples_18 f_columns f_rows f_modes) fun p_samples_50 =>
  k39 p_samples_50))) fun p_samples_40 =>
  nm (v4_19 + (1 : Int32) : Int32) fun v4_43 =>
  f_X3_smooth_L13 x2 p_width f_columns f_rows f_modes v3_4 n p_samples_40 v4_43))

def f_X3_smooth_L2 (x2 : Int32) (p_width : Int32) (f_columns : Int32) (f_rows : Int32) (f_modes : Nat → Int32) : Nat → (Nat → Int32) → Int32 → Option ((Nat → Int32))
  | 0, _, _ => none
  | n + 1, p_samples_3, v3_4 =>
  bd1 (f_X0_rows f_rows) fun y_8 =>
  (if y_8 ≤ v3_4 then
  (some (p_samples_3))
  else
  (bd1 (f_X3_smooth_L13 x2 p_width f_columns f_rows f_modes v3_4 4000 p_samples_3 (0 : Int32)) fun p_samples_54 =>
  nm (v3_4 + (1 : Int32) : Int32) fun v3_57 =>
  f_X3_smooth_L2 x2 p_width f_columns f_rows f_modes n p_samples_54 v3_57))

def f_X3_smooth (x2 : Int32) (p_width : Int32) (p_samples : Nat → Int32) (f_columns : Int32) (f_rows : Int32) (f_modes : Nat → Int32) : Option ((Nat → Int32)) :=
  bd1 (f_X3_smooth_L2 x2 p_width f_columns f_rows f_modes 4000 p_samples (0 : Int32)) fun p_samples_61 =>
  some (p_samples_61)

abbrev rm_X3_smooth : Room := { frames := 5, cells := 0, slots := 0, locals := 160 }

theorem cdS_X3_smooth : yX3_smooth.cls ≠ "java/lang/invoke/MethodHandle" ∧ yX3_smooth.cls ≠ "java/lang/invoke/VarHandle" ∧ (parseMethodDescriptor yX3_smooth.desc).map (fun d => d.parameters.length) = some 2 := by decide +kernel

theorem cdV_X3_smooth : yX3_smooth.cls = RX3 ∧ yX3_smooth.cls ≠ "java/lang/invoke/MethodHandle" ∧ yX3_smooth.cls ≠ "java/lang/invoke/VarHandle" ∧ (parseMethodDescriptor yX3_smooth.desc).map (fun d => d.parameters.length) = some 2 := ⟨rfl, cdS_X3_smooth⟩

set_option maxHeartbeats 40000000 in
set_option maxRecDepth 100000 in
theorem c_X3_smooth (l : Launch) (D : va_G) (cB cI cJ cQ : ClassId) (N : Nat) (r0 : Nat → Nat) (r1 : Nat → Nat) (sz : Nat) (x2 : Int32) (p_width : Int32) (p_height : Int32) (p_samples : Nat → Int32) (f_columns : Int32) (f_rows : Int32) (f_scale : Int32) (f_toEnd : Int32) (f_between : Int32) (f_kept : Int32) (f_modes : Nat → Int32) (o : (Nat → Int32)) (hm0 : f_X3_smooth x2 p_width p_samples f_columns f_rows f_modes = some o) : Met l yX3_smooth wsX3_smooth rm_X3_smooth (ctP D cB cI cJ cQ N sz [.ref (r0 0), .ref (r1 0), .int x2] (wf [oB (r0 0) 3 [.ref (r0 1), .int p_width, .int p_height], aI (r0 1) cI 2304 p_samples, oB (r1 0) 0 [.ref (r1 1), .ref (r1 2), .ref (r1 3), .ref (r1 4), .ref (r1 5), .ref (r1 6), .int f_columns, .int f_rows, .int f_scale, .int f_toEnd, .int f_between, .int f_kept], aI (r1 1) cI 36 f_modes] [])) (ctQv D (wf [oB (r0 0) 3 [.ref (r0 1), .int p_width, .int p_height], aI (r0 1) cI 2304 o, oB (r1 0) 0 [.ref (r1 1), .ref (r1 2), .ref (r1 3), .ref (r1 4), .ref (r1 5), .ref (r1 6), .int f_columns, .int f_rows, .int f_scale, .int f_toEnd, .int f_between, .int f_kept], aI (r1 1) cI 36 f_modes] []) (va_A (wf [oB (r0 0) 3 [.ref (r0 1), .int p_width, .int p_height], aI (r0 1) cI 2304 p_samples, oB (r1 0) 0 [.ref (r1 1), .ref (r1 2), .ref (r1 3), .ref (r1 4), .ref (r1 5), .ref (r1 6), .int f_columns, .int f_rows, .int f_scale, .int f_toEnd, .int f_between, .int f_kept], aI (r1 1) cI 36 f_modes] []) sz)) 0 0 (va_A (wf [oB (r0 0) 3 [.ref (r0 1), .int p_width, .int p_height], aI (r0 1) cI 2304 p_samples, oB (r1 0) 0 [.ref (r1 1), .ref (r1 2), .ref (r1 3), .ref (r1 4), .ref (r1 5), .ref (r1 6), .int f_columns, .int f_rows, .int f_scale, .int f_toEnd, .int f_between, .int f_kept], aI (r1 1) cI 36 f_modes] []) sz) := by
  refine ct_of (cc := cX3_smooth) (maxL := 5) (ret := none) (own := RX3) (Qp := ctQv D (wf [oB (r0 0) 3 [.ref (r0 1), .int p_width, .int p_height], aI (r0 1) cI 2304 o, oB (r1 0) 0 [.ref (r1 1), .ref (r1 2), .ref (r1 3), .ref (r1 4), .ref (r1 5), .ref (r1 6), .int f_columns, .int f_rows, .int f_scale, .int f_toEnd, .int f_between, .int f_kept], aI (r1 1) cI 36 f_modes] [])) (by decide) rfl rfl (Nat.le_of_ble_eq_true rfl) ?_
  intro p e s m args below meth c A hx hb hr hml hown hts hlk hnm hsz hAe E hP0 hD0 hS0 ls0 hl0
  subst hsz
  have hl0 : lv_has ls0 5 [(0, .ref (r0 0)), (1, .ref (r1 0)), (2, .int x2)] := hl0
  obtain ⟨QQ, hQ⟩ : ∃ Q : State → Prop, Q = MQ below (ctQv D (wf [oB (r0 0) 3 [.ref (r0 1), .int p_width, .int p_height], aI (r0 1) cI 2304 o, oB (r1 0) 0 [.ref (r1 1), .ref (r1 2), .ref (r1 3), .ref (r1 4), .ref (r1 5), .ref (r1 6), .int f_columns, .int f_rows, .int f_scale, .int f_toEnd, .int f_between, .int f_kept], aI (r1 1) cI 36 f_modes] []) A) args s 0 0 A := ⟨_, rfl⟩
  rw [← hQ]
  unfold f_X3_smooth at hm0
  refine lv_iconst (v := 0) hx hb dX3_smooth_0 (by decide) ?_
  refine lv_istore_n (lv' := [(3, .int (0 : Int32)), (0, .ref (r0 0)), (1, .ref (r1 0)), (2, .int x2)]) hx hb dX3_smooth_1 rfl hl0 (by decide) rfl (fun ls1 hl1 => ?_); clear hl0
  obtain ⟨p_samples_61, hlp2, hm62⟩ := bd1_some hm0; clear hm0
  have LP2 : ∀ (n : Nat) (p_samples_3 : Nat → Int32) (v3_4 : Int32) (z2 : (Nat → Int32)) (H5 : Heap) (lc5 : List Loc) (ls5 : Array Slot), f_X3_smooth_L2 x2 p_width f_columns f_rows f_modes n p_samples_3 v3_4 = some z2 → va_P D vwCl (wf [oB (r0 0) 3 [.ref (r0 1), .int p_width, .int p_height], aI (r0 1) cI 2304 p_samples_3, oB (r1 0) 0 [.ref (r1 1), .ref (r1 2), .ref (r1 3), .ref (r1 4), .ref (r1 5), .ref (r1 6), .int f_columns, .int f_rows, .int f_scale, .int f_toEnd, .int f_between, .int f_kept], aI (r1 1) cI 36 f_modes] []) H5 → va_D A (wf [oB (r0 0) 3 [.ref (r0 1), .int p_width, .int p_height], aI (r0 1) cI 2304 p_samples_3, oB (r1 0) 0 [.ref (r1 1), .ref (r1 2), .ref (r1 3), .ref (r1 4), .ref (r1 5), .ref (r1 6), .int f_columns, .int f_rows, .int f_scale, .int f_toEnd, .int f_between, .int f_kept], aI (r1 1) cI 36 f_modes] []) → va_S A s.heap H5 lc5 → lv_has ls5 5 [(0, .ref (r0 0)), (1, .ref (r1 0)), (2, .int x2), (3, .int v3_4)] → (∀ (H : Heap) (lc : List Loc) (ls : Array Slot), va_P D vwCl (wf [oB (r0 0) 3 [.ref (r0 1), .int p_width, .int p_height], aI (r0 1) cI 2304 z2, oB (r1 0) 0 [.ref (r1 1), .ref (r1 2), .ref (r1 3), .ref (r1 4), .ref (r1 5), .ref (r1 6), .int f_columns, .int f_rows, .int f_scale, .int f_toEnd, .int f_between, .int f_kept], aI (r1 1) cI 36 f_modes] []) H → va_D A (wf [oB (r0 0) 3 [.ref (r0 1), .int p_width, .int p_height], aI (r0 1) cI 2304 z2, oB (r1 0) 0 [.ref (r1 1), .ref (r1 2), .ref (r1 3), .ref (r1 4), .ref (r1 5), .ref (r1 6), .int f_columns, .int f_rows, .int f_scale, .int f_toEnd, .int f_between, .int f_kept], aI (r1 1) cI 36 f_modes] []) → va_S A s.heap H lc → lv_has ls 5 [] → W p l e rm_X3_smooth s m args below meth c H lc 0 0 QQ (F0 m 57 ls [])) → W p l e rm_X3_smooth s m args below meth c H5 lc5 0 0 QQ (F0 m 2 ls5 []) := by
    intro n
    induction n with
    | zero =>
      intro p_samples_3 v3_4 z2 H5 lc5 ls5 hm7; simp [f_X3_smooth_L2] at hm7
    | succ n ih =>
      intro p_samples_3 v3_4 z2 H5 lc5 ls5 hm7 hP5 hD5 hS5 hl5 kx
      rw [f_X3_smooth_L2] at hm7
      refine lv_iload_n hx hb dX3_smooth_2 rfl (lv_at hl5 3 rfl) ?_
      refine lv_aload_n hx hb dX3_smooth_3 rfl (lv_at hl5 1 rfl) ?_
      obtain ⟨y_8, hcl9, hm9⟩ := bd1_some hm7; clear hm7
      have sb10 := ctS.mk (n := 4) (k := 0) (pre := [oB (r0 0) 3 [.ref (r0 1), .int p_width, .int p_height], aI (r0 1) cI 2304 p_samples_3, oB (r1 0) 0 [.ref (r1 1), .ref (r1 2), .ref (r1 3), .ref (r1 4), .ref (r1 5), .ref (r1 6), .int f_columns, .int f_rows, .int f_scale, .int f_toEnd, .int f_between, .int f_kept], aI (r1 1) cI 36 f_modes]) (tl := []) [2] [0, 1, 3] [] [] rfl rfl (by decide +kernel) (by decide +kernel)
      refine ct_calli (r := y_8) E sb10 hP5 hD5 hS5 (va_runV (As := []) (rest := [.int v3_4]) ⟨hx, hb, hml, hown, hts⟩ (c_X0_rows l D cB cI cJ cQ N r1 H5.size f_columns f_rows f_scale f_toEnd f_between f_kept (y_8) hcl9) (cwV 0 hts gX3_smooth_X0_rows rfl rfl rfl cdV_X0_rows ⟨Nat.le_of_ble_eq_true rfl, Nat.le_of_ble_eq_true rfl⟩) (ct_preV (q0 := 2) (ci := 0) E sb10 hP5 hD5 hS5 rfl rfl) rfl rfl hl5.1 rfl (lv_room (Nat.le_of_ble_eq_true rfl)) dX3_smooth_4 ⟨Nat.zero_le _, Nat.zero_le _⟩) (fun H11 lc11 hP11 hD11 hS11 => ?_); clear sb10 hcl9
      clear hP5 hD5 hS5
      have hP11 : va_P D vwCl (wf [oB (r0 0) 3 [.ref (r0 1), .int p_width, .int p_height], aI (r0 1) cI 2304 p_samples_3, aI (r1 1) cI 36 f_modes, oB (r1 0) 0 [.ref (r1 1), .ref (r1 2), .ref (r1 3), .ref (r1 4), .ref (r1 5), .ref (r1 6), .int f_columns, .int f_rows, .int f_scale, .int f_toEnd, .int f_between, .int f_kept]] []) H11 := hP11
      have hD11 : va_D A (wf [oB (r0 0) 3 [.ref (r0 1), .int p_width, .int p_height], aI (r0 1) cI 2304 p_samples_3, aI (r1 1) cI 36 f_modes, oB (r1 0) 0 [.ref (r1 1), .ref (r1 2), .ref (r1 3), .ref (r1 4), .ref (r1 5), .ref (r1 6), .int f_columns, .int f_rows, .int f_scale, .int f_toEnd, .int f_between, .int f_kept]] []) := hD11
      refine lv_icmp_ge (tgt := 57) hx hb dX3_smooth_7 (by decide) (fun hc12 => ?_) (fun hc12 => ?_)
      · have hm13 := bq_t hm9 hc12; clear hm9
        obtain ⟨hP14, hD14⟩ := ct_ord (n := 4) (k := 0) [0, 1, 3, 2] [] hP11 hD11 rfl rfl (by decide +kernel) (by decide +kernel)
        have hS14 := hS11
        have hP14 : va_P D vwCl (wf [oB (r0 0) 3 [.ref (r0 1), .int p_width, .int p_height], aI (r0 1) cI 2304 p_samples_3, oB (r1 0) 0 [.ref (r1 1), .ref (r1 2), .ref (r1 3), .ref (r1 4), .ref (r1 5), .ref (r1 6), .int f_columns, .int f_rows, .int f_scale, .int f_toEnd, .int f_between, .int f_kept], aI (r1 1) cI 36 f_modes] []) H11 := hP14
        have hD14 : va_D A (wf [oB (r0 0) 3 [.ref (r0 1), .int p_width, .int p_height], aI (r0 1) cI 2304 p_samples_3, oB (r1 0) 0 [.ref (r1 1), .ref (r1 2), .ref (r1 3), .ref (r1 4), .ref (r1 5), .ref (r1 6), .int f_columns, .int f_rows, .int f_scale, .int f_toEnd, .int f_between, .int f_kept], aI (r1 1) cI 36 f_modes] []) := hD14
        obtain rfl := Option.some.inj hm13
        exact kx _ _ _ hP14 hD14 hS14 (lv_sub hl5 [] rfl)
      · have hm15 := bq_f hm9 hc12; clear hm9
        refine lv_iconst (v := 0) hx hb dX3_smooth_10 (by decide) ?_
        refine lv_istore (lv' := [(4, .int (0 : Int32)), (0, .ref (r0 0)), (1, .ref (r1 0)), (2, .int x2), (3, .int v3_4)]) hx hb dX3_smooth_11 hl5 (by decide) rfl (fun ls16 hl16 => ?_); clear hl5
        obtain ⟨p_samples_54, hlp17, hm55⟩ := bd1_some hm15; clear hm15
        have LP17 : ∀ (n : Nat) (p_samples_18 : Nat → Int32) (v4_19 : Int32) (z17 : (Nat → Int32)) (H20 : Heap) (lc20 : List Loc) (ls20 : Array Slot), f_X3_smooth_L13 x2 p_width f_columns f_rows f_modes v3_4 n p_samples_18 v4_19 = some z17 → va_P D vwCl (wf [oB (r0 0) 3 [.ref (r0 1), .int p_width, .int p_height], aI (r0 1) cI 2304 p_samples_18, aI (r1 1) cI 36 f_modes, oB (r1 0) 0 [.ref (r1 1), .ref (r1 2), .ref (r1 3), .ref (r1 4), .ref (r1 5), .ref (r1 6), .int f_columns, .int f_rows, .int f_scale, .int f_toEnd, .int f_between, .int f_kept]] []) H20 → va_D A (wf [oB (r0 0) 3 [.ref (r0 1), .int p_width, .int p_height], aI (r0 1) cI 2304 p_samples_18, aI (r1 1) cI 36 f_modes, oB (r1 0) 0 [.ref (r1 1), .ref (r1 2), .ref (r1 3), .ref (r1 4), .ref (r1 5), .ref (r1 6), .int f_columns, .int f_rows, .int f_scale, .int f_toEnd, .int f_between, .int f_kept]] []) → va_S A s.heap H20 lc20 → lv_has ls20 5 [(0, .ref (r0 0)), (1, .ref (r1 0)), (2, .int x2), (3, .int v3_4), (4, .int v4_19)] → (∀ (H : Heap) (lc : List Loc) (ls : Array Slot), va_P D vwCl (wf [oB (r0 0) 3 [.ref (r0 1), .int p_width, .int p_height], aI (r0 1) cI 2304 z17, aI (r1 1) cI 36 f_modes, oB (r1 0) 0 [.ref (r1 1), .ref (r1 2), .ref (r1 3), .ref (r1 4), .ref (r1 5), .ref (r1 6), .int f_columns, .int f_rows, .int f_scale, .int f_toEnd, .int f_between, .int f_kept]] []) H → va_D A (wf [oB (r0 0) 3 [.ref (r0 1), .int p_width, .int p_height], aI (r0 1) cI 2304 z17, aI (r1 1) cI 36 f_modes, oB (r1 0) 0 [.ref (r1 1), .ref (r1 2), .ref (r1 3), .ref (r1 4), .ref (r1 5), .ref (r1 6), .int f_columns, .int f_rows, .int f_scale, .int f_toEnd, .int f_between, .int f_kept]] []) → va_S A s.heap H lc → lv_has ls 5 [(0, .ref (r0 0)), (1, .ref (r1 0)), (2, .int x2), (3, .int v3_4)] → W p l e rm_X3_smooth s m args below meth c H lc 0 0 QQ (F0 m 51 ls [])) → W p l e rm_X3_smooth s m args below meth c H20 lc20 0 0 QQ (F0 m 13 ls20 []) := by
          intro n
          induction n with
          | zero =>
            intro p_samples_18 v4_19 z17 H20 lc20 ls20 hm22; simp [f_X3_smooth_L13] at hm22
          | succ n ih =>
            intro p_samples_18 v4_19 z17 H20 lc20 ls20 hm22 hP20 hD20 hS20 hl20 kx
            rw [f_X3_smooth_L13] at hm22
            refine lv_iload hx hb dX3_smooth_13 (lv_at hl20 4 rfl) ?_
            refine lv_aload_n hx hb dX3_smooth_15 rfl (lv_at hl20 1 rfl) ?_
            obtain ⟨y_23, hcl24, hm24⟩ := bd1_some hm22; clear hm22
            have sb25 := ctS.mk (n := 4) (k := 0) (pre := [oB (r0 0) 3 [.ref (r0 1), .int p_width, .int p_height], aI (r0 1) cI 2304 p_samples_18, aI (r1 1) cI 36 f_modes, oB (r1 0) 0 [.ref (r1 1), .ref (r1 2), .ref (r1 3), .ref (r1 4), .ref (r1 5), .ref (r1 6), .int f_columns, .int f_rows, .int f_scale, .int f_toEnd, .int f_between, .int f_kept]]) (tl := []) [3] [0, 1, 2] [] [] rfl rfl (by decide +kernel) (by decide +kernel)
            refine ct_calli (r := y_23) E sb25 hP20 hD20 hS20 (va_runV (As := []) (rest := [.int v4_19]) ⟨hx, hb, hml, hown, hts⟩ (c_X0_columns l D cB cI cJ cQ N r1 H20.size f_columns f_rows f_scale f_toEnd f_between f_kept (y_23) hcl24) (cwV 0 hts gX3_smooth_X0_columns rfl rfl rfl cdV_X0_columns ⟨Nat.le_of_ble_eq_true rfl, Nat.le_of_ble_eq_true rfl⟩) (ct_preV (q0 := 3) (ci := 0) E sb25 hP20 hD20 hS20 rfl rfl) rfl rfl hl20.1 rfl (lv_room (Nat.le_of_ble_eq_true rfl)) dX3_smooth_16 ⟨Nat.zero_le _, Nat.zero_le _⟩) (fun H26 lc26 hP26 hD26 hS26 => ?_); clear sb25 hcl24
            clear hP20 hD20 hS20
            have hP26 : va_P D vwCl (wf [oB (r0 0) 3 [.ref (r0 1), .int p_width, .int p_height], aI (r0 1) cI 2304 p_samples_18, aI (r1 1) cI 36 f_modes, oB (r1 0) 0 [.ref (r1 1), .ref (r1 2), .ref (r1 3), .ref (r1 4), .ref (r1 5), .ref (r1 6), .int f_columns, .int f_rows, .int f_scale, .int f_toEnd, .int f_between, .int f_kept]] []) H26 := hP26
            have hD26 : va_D A (wf [oB (r0 0) 3 [.ref (r0 1), .int p_width, .int p_height], aI (r0 1) cI 2304 p_samples_18, aI (r1 1) cI 36 f_modes, oB (r1 0) 0 [.ref (r1 1), .ref (r1 2), .ref (r1 3), .ref (r1 4), .ref (r1 5), .ref (r1 6), .int f_columns, .int f_rows, .int f_scale, .int f_toEnd, .int f_between, .int f_kept]] []) := hD26
            refine lv_icmp_ge (tgt := 51) hx hb dX3_smooth_19 (by decide) (fun hc27 => ?_) (fun hc27 => ?_)
            · have hm28 := bq_t hm24 hc27; clear hm24
              obtain rfl := Option.some.inj hm28
              exact kx _ _ _ hP26 hD26 hS26 (lv_sub hl20 [0, 1, 2, 3] rfl)
            · have hm29 := bq_f hm24 hc27; clear hm24
              refine lv_aload_n hx hb dX3_smooth_22 rfl (lv_at hl20 1 rfl) ?_
              refine lv_aload_n hx hb dX3_smooth_23 rfl (lv_at hl20 1 rfl) ?_
              refine lv_iload hx hb dX3_smooth_24 (lv_at hl20 4 rfl) ?_
              refine lv_iload_n hx hb dX3_smooth_26 rfl (lv_at hl20 3 rfl) ?_
              obtain ⟨y_30, hcl31, hm31⟩ := bd1_some hm29; clear hm29
              have sb32 := ctS.mk (n := 4) (k := 0) (pre := [oB (r0 0) 3 [.ref (r0 1), .int p_width, .int p_height], aI (r0 1) cI 2304 p_samples_18, aI (r1 1) cI 36 f_modes, oB (r1 0) 0 [.ref (r1 1), .ref (r1 2), .ref (r1 3), .ref (r1 4), .ref (r1 5), .ref (r1 6), .int f_columns, .int f_rows, .int f_scale, .int f_toEnd, .int f_between, .int f_kept]]) (tl := []) [3] [0, 1, 2] [] [] rfl rfl (by decide +kernel) (by decide +kernel)
              refine ct_calli (r := y_30) E sb32 hP26 hD26 hS26 (va_runV (As := [.int v4_19, .int v3_4]) (rest := [.ref (r1 0)]) ⟨hx, hb, hml, hown, hts⟩ (c_X0_index l D cB cI cJ cQ N r1 H26.size v4_19 v3_4 f_columns f_rows f_scale f_toEnd f_between f_kept (y_30) hcl31) (cwV 2 hts gX3_smooth_X0_index rfl rfl rfl cdV_X0_index ⟨Nat.le_of_ble_eq_true rfl, Nat.le_of_ble_eq_true rfl⟩) (ct_preV (q0 := 3) (ci := 0) E sb32 hP26 hD26 hS26 rfl rfl) rfl rfl hl20.1 rfl (lv_room (Nat.le_of_ble_eq_true rfl)) dX3_smooth_27 ⟨Nat.zero_le _, Nat.zero_le _⟩) (fun H33 lc33 hP33 hD33 hS33 => ?_); clear sb32 hcl31
              clear hP26 hD26 hS26
              have hP33 : va_P D vwCl (wf [oB (r0 0) 3 [.ref (r0 1), .int p_width, .int p_height], aI (r0 1) cI 2304 p_samples_18, aI (r1 1) cI 36 f_modes, oB (r1 0) 0 [.ref (r1 1), .ref (r1 2), .ref (r1 3), .ref (r1 4), .ref (r1 5), .ref (r1 6), .int f_columns, .int f_rows, .int f_scale, .int f_toEnd, .int f_between, .int f_kept]] []) H33 := hP33
              have hD33 : va_D A (wf [oB (r0 0) 3 [.ref (r0 1), .int p_width, .int p_height], aI (r0 1) cI 2304 p_samples_18, aI (r1 1) cI 36 f_modes, oB (r1 0) 0 [.ref (r1 1), .ref (r1 2), .ref (r1 3), .ref (r1 4), .ref (r1 5), .ref (r1 6), .int f_columns, .int f_rows, .int f_scale, .int f_toEnd, .int f_between, .int f_kept]] []) := hD33
              obtain ⟨y_34, hcl35, hm35⟩ := bd1_some hm31; clear hm31
              have sb36 := ctS.mk (n := 4) (k := 0) (pre := [oB (r0 0) 3 [.ref (r0 1), .int p_width, .int p_height], aI (r0 1) cI 2304 p_samples_18, aI (r1 1) cI 36 f_modes, oB (r1 0) 0 [.ref (r1 1), .ref (r1 2), .ref (r1 3), .ref (r1 4), .ref (r1 5), .ref (r1 6), .int f_columns, .int f_rows, .int f_scale, .int f_toEnd, .int f_between, .int f_kept]]) (tl := []) [3, 2] [0, 1] [] [] rfl rfl (by decide +kernel) (by decide +kernel)
              refine ct_calli (r := y_34) E sb36 hP33 hD33 hS33 (va_runV (As := [.int y_30]) (rest := []) ⟨hx, hb, hml, hown, hts⟩ (c_X0_isCoded l D cB cI cJ cQ N r1 H33.size y_30 f_columns f_rows f_scale f_toEnd f_between f_kept f_modes (y_34) hcl35) (cwV 1 hts gX3_smooth_X0_isCoded rfl rfl rfl cdV_X0_isCoded ⟨Nat.le_of_ble_eq_true rfl, Nat.le_of_ble_eq_true rfl⟩) (ct_preV (q0 := 3) (ci := 0) E sb36 hP33 hD33 hS33 rfl rfl) rfl rfl hl20.1 rfl (lv_room (Nat.le_of_ble_eq_true rfl)) dX3_smooth_30 ⟨Nat.zero_le _, Nat.zero_le _⟩) (fun H37 lc37 hP37 hD37 hS37 => ?_); clear sb36 hcl35
              clear hP33 hD33 hS33
              have hP37 : va_P D vwCl (wf [oB (r0 0) 3 [.ref (r0 1), .int p_width, .int p_height], aI (r0 1) cI 2304 p_samples_18, oB (r1 0) 0 [.ref (r1 1), .ref (r1 2), .ref (r1 3), .ref (r1 4), .ref (r1 5), .ref (r1 6), .int f_columns, .int f_rows, .int f_scale, .int f_toEnd, .int f_between, .int f_kept], aI (r1 1) cI 36 f_modes] []) H37 := hP37
              have hD37 : va_D A (wf [oB (r0 0) 3 [.ref (r0 1), .int p_width, .int p_height], aI (r0 1) cI 2304 p_samples_18, oB (r1 0) 0 [.ref (r1 1), .ref (r1 2), .ref (r1 3), .ref (r1 4), .ref (r1 5), .ref (r1 6), .int f_columns, .int f_rows, .int f_scale, .int f_toEnd, .int f_between, .int f_kept], aI (r1 1) cI 36 f_modes] []) := hD37
              obtain ⟨k39, ek39, hm39⟩ := jn_some hm35; clear hm35
              have KJ39 : ∀ (p_samples_40 : Nat → Int32) (H41 : Heap) (lc41 : List Loc) (ls41 : Array Slot), k39 p_samples_40 = some z17 → va_P D vwCl (wf [oB (r0 0) 3 [.ref (r0 1), .int p_width, .int p_height], aI (r0 1) cI 2304 p_samples_40, oB (r1 0) 0 [.ref (r1 1), .ref (r1 2), .ref (r1 3), .ref (r1 4), .ref (r1 5), .ref (r1 6), .int f_columns, .int f_rows, .int f_scale, .int f_toEnd, .int f_between, .int f_kept], aI (r1 1) cI 36 f_modes] []) H41 → va_D A (wf [oB (r0 0) 3 [.ref (r0 1), .int p_width, .int p_height], aI (r0 1) cI 2304 p_samples_40, oB (r1 0) 0 [.ref (r1 1), .ref (r1 2), .ref (r1 3), .ref (r1 4), .ref (r1 5), .ref (r1 6), .int f_columns, .int f_rows, .int f_scale, .int f_toEnd, .int f_between, .int f_kept], aI (r1 1) cI 36 f_modes] []) → va_S A s.heap H41 lc41 → lv_has ls41 5 [(0, .ref (r0 0)), (1, .ref (r1 0)), (2, .int x2), (3, .int v3_4), (4, .int v4_19)] → W p l e rm_X3_smooth s m args below meth c H41 lc41 0 0 QQ (F0 m 45 ls41 []) := by
                intro p_samples_40 H41 lc41 ls41 hm42 hP41 hD41 hS41 hl41
                rw [ek39] at hm42
                obtain ⟨v4_43, ev4_43, hm44⟩ := nm_some hm42; clear hm42
                refine lv_iinc (v := v4_43) (lv' := [(4, .int v4_43), (0, .ref (r0 0)), (1, .ref (r1 0)), (2, .int x2), (3, .int v3_4)]) hx hb dX3_smooth_45 hl41 (k := 4) rfl (by rw [ev4_43]; rfl) (by decide) rfl (fun ls45 hl45 => ?_); clear hl41
                refine lv_goto (tgt := 13) hx hb dX3_smooth_48 (by decide) ?_
                obtain ⟨hP46, hD46⟩ := ct_ord (n := 4) (k := 0) [0, 1, 3, 2] [] hP41 hD41 rfl rfl (by decide +kernel) (by decide +kernel)
                have hS46 := hS41
                have hP46 : va_P D vwCl (wf [oB (r0 0) 3 [.ref (r0 1), .int p_width, .int p_height], aI (r0 1) cI 2304 p_samples_40, aI (r1 1) cI 36 f_modes, oB (r1 0) 0 [.ref (r1 1), .ref (r1 2), .ref (r1 3), .ref (r1 4), .ref (r1 5), .ref (r1 6), .int f_columns, .int f_rows, .int f_scale, .int f_toEnd, .int f_between, .int f_kept]] []) H41 := hP46
                have hD46 : va_D A (wf [oB (r0 0) 3 [.ref (r0 1), .int p_width, .int p_height], aI (r0 1) cI 2304 p_samples_40, aI (r1 1) cI 36 f_modes, oB (r1 0) 0 [.ref (r1 1), .ref (r1 2), .ref (r1 3), .ref (r1 4), .ref (r1 5), .ref (r1 6), .int f_columns, .int f_rows, .int f_scale, .int f_toEnd, .int f_between, .int f_kept]] []) := hD46
                exact ih p_samples_40 v4_43 _ _ _ _ hm44 hP46 hD46 hS46 (lv_sub hl45 [1, 2, 3, 4, 0] rfl) kx
              refine lv_if_eq (tgt := 45) hx hb dX3_smooth_33 (by decide) (fun hc47 => ?_) (fun hc47 => ?_)
              · have hm48 := bq_t hm39 hc47; clear hm39
                exact KJ39 p_samples_18 _ _ _ hm48 hP37 hD37 hS37 (lv_sub hl20 [0, 1, 2, 3, 4] rfl)
              · have hm49 := bq_f hm39 hc47; clear hm39
                refine lv_aload_n hx hb dX3_smooth_36 rfl (lv_at hl20 0 rfl) ?_
                refine lv_aload_n hx hb dX3_smooth_37 rfl (lv_at hl20 1 rfl) ?_
                refine lv_iload hx hb dX3_smooth_38 (lv_at hl20 4 rfl) ?_
                refine lv_iload_n hx hb dX3_smooth_40 rfl (lv_at hl20 3 rfl) ?_
                refine lv_iload_n hx hb dX3_smooth_41 rfl (lv_at hl20 2 rfl) ?_
                obtain ⟨p_samples_50, hcl51, hm51⟩ := bd1_some hm49; clear hm49
                have sb52 := ctS.mk (n := 4) (k := 0) (pre := [oB (r0 0) 3 [.ref (r0 1), .int p_width, .int p_height], aI (r0 1) cI 2304 p_samples_18, oB (r1 0) 0 [.ref (r1 1), .ref (r1 2), .ref (r1 3), .ref (r1 4), .ref (r1 5), .ref (r1 6), .int f_columns, .int f_rows, .int f_scale, .int f_toEnd, .int f_between, .int f_kept], aI (r1 1) cI 36 f_modes]) (tl := []) [0, 1, 2, 3] [] [] [] rfl rfl (by decide +kernel) (by decide +kernel)
                refine ct_callv E sb52 hP37 hD37 hS37 (va_runV (As := [.ref (r1 0), .int v4_19, .int v3_4, .int x2]) (rest := []) ⟨hx, hb, hml, hown, hts⟩ (c_X3_smoothBlock l D cB cI cJ cQ N r0 r1 H37.size v4_19 v3_4 x2 p_width p_height p_samples_18 f_columns f_rows f_scale f_toEnd f_between f_kept f_modes (p_samples_50) hcl51) (cwV 4 hts gX3_smooth_X3_smoothBlock rfl rfl rfl cdV_X3_smoothBlock ⟨Nat.le_of_ble_eq_true rfl, Nat.le_of_ble_eq_true rfl⟩) (ct_preV (q0 := 0) (ci := 3) E sb52 hP37 hD37 hS37 rfl rfl) rfl rfl hl20.1 rfl (lv_room (Nat.le_of_ble_eq_true rfl)) dX3_smooth_42 ⟨Nat.zero_le _, Nat.zero_le _⟩) (fun H53 lc53 hP53 hD53 hS53 => ?_); clear sb52 hcl51
                clear hP37 hD37 hS37
                have hP53 : va_P D vwCl (wf [oB (r0 0) 3 [.ref (r0 1), .int p_width, .int p_height], aI (r0 1) cI 2304 p_samples_50, oB (r1 0) 0 [.ref (r1 1), .ref (r1 2), .ref (r1 3), .ref (r1 4), .ref (r1 5), .ref (r1 6), .int f_columns, .int f_rows, .int f_scale, .int f_toEnd, .int f_between, .int f_kept], aI (r1 1) cI 36 f_modes] []) H53 := hP53
                have hD53 : va_D A (wf [oB (r0 0) 3 [.ref (r0 1), .int p_width, .int p_height], aI (r0 1) cI 2304 p_samples_50, oB (r1 0) 0 [.ref (r1 1), .ref (r1 2), .ref (r1 3), .ref (r1 4), .ref (r1 5), .ref (r1 6), .int f_columns, .int f_rows, .int f_scale, .int f_toEnd, .int f_between, .int f_kept], aI (r1 1) cI 36 f_modes] []) := hD53
                exact KJ39 p_samples_50 _ _ _ hm51 hP53 hD53 hS53 (lv_sub hl20 [0, 1, 2, 3, 4] rfl)
        refine LP17 4000 p_samples_3 (0 : Int32) (p_samples_54) _ _ _ hlp17 hP11 hD11 hS11 (lv_sub hl16 [1, 2, 3, 4, 0] rfl) (fun H56 lc56 ls56 hP56 hD56 hS56 hl56 => ?_); clear LP17 hlp17
        clear hP11 hD11 hS11
        have hl56 : lv_has ls56 5 [(0, .ref (r0 0)), (1, .ref (r1 0)), (2, .int x2), (3, .int v3_4)] := hl56
        have hP56 : va_P D vwCl (wf [oB (r0 0) 3 [.ref (r0 1), .int p_width, .int p_height], aI (r0 1) cI 2304 p_samples_54, aI (r1 1) cI 36 f_modes, oB (r1 0) 0 [.ref (r1 1), .ref (r1 2), .ref (r1 3), .ref (r1 4), .ref (r1 5), .ref (r1 6), .int f_columns, .int f_rows, .int f_scale, .int f_toEnd, .int f_between, .int f_kept]] []) H56 := hP56
        have hD56 : va_D A (wf [oB (r0 0) 3 [.ref (r0 1), .int p_width, .int p_height], aI (r0 1) cI 2304 p_samples_54, aI (r1 1) cI 36 f_modes, oB (r1 0) 0 [.ref (r1 1), .ref (r1 2), .ref (r1 3), .ref (r1 4), .ref (r1 5), .ref (r1 6), .int f_columns, .int f_rows, .int f_scale, .int f_toEnd, .int f_between, .int f_kept]] []) := hD56
        obtain ⟨v3_57, ev3_57, hm58⟩ := nm_some hm55; clear hm55
        refine lv_iinc (v := v3_57) (lv' := [(3, .int v3_57), (0, .ref (r0 0)), (1, .ref (r1 0)), (2, .int x2)]) hx hb dX3_smooth_51 hl56 (k := 3) rfl (by rw [ev3_57]; rfl) (by decide) rfl (fun ls59 hl59 => ?_); clear hl56
        refine lv_goto (tgt := 2) hx hb dX3_smooth_54 (by decide) ?_
        obtain ⟨hP60, hD60⟩ := ct_ord (n := 4) (k := 0) [0, 1, 3, 2] [] hP56 hD56 rfl rfl (by decide +kernel) (by decide +kernel)
        have hS60 := hS56
        have hP60 : va_P D vwCl (wf [oB (r0 0) 3 [.ref (r0 1), .int p_width, .int p_height], aI (r0 1) cI 2304 p_samples_54, oB (r1 0) 0 [.ref (r1 1), .ref (r1 2), .ref (r1 3), .ref (r1 4), .ref (r1 5), .ref (r1 6), .int f_columns, .int f_rows, .int f_scale, .int f_toEnd, .int f_between, .int f_kept], aI (r1 1) cI 36 f_modes] []) H56 := hP60
        have hD60 : va_D A (wf [oB (r0 0) 3 [.ref (r0 1), .int p_width, .int p_height], aI (r0 1) cI 2304 p_samples_54, oB (r1 0) 0 [.ref (r1 1), .ref (r1 2), .ref (r1 3), .ref (r1 4), .ref (r1 5), .ref (r1 6), .int f_columns, .int f_rows, .int f_scale, .int f_toEnd, .int f_between, .int f_kept], aI (r1 1) cI 36 f_modes] []) := hD60
        exact ih p_samples_54 v3_57 _ _ _ _ hm58 hP60 hD60 hS60 (lv_sub hl59 [1, 2, 3, 0] rfl) kx
  refine LP2 4000 p_samples (0 : Int32) (p_samples_61) _ _ _ hlp2 hP0 hD0 hS0 (lv_sub hl1 [1, 2, 3, 0] rfl) (fun H63 lc63 ls63 hP63 hD63 hS63 hl63 => ?_); clear LP2 hlp2
  clear hP0 hD0 hS0
  have hl63 : lv_has ls63 5 [] := hl63
  have hP63 : va_P D vwCl (wf [oB (r0 0) 3 [.ref (r0 1), .int p_width, .int p_height], aI (r0 1) cI 2304 p_samples_61, oB (r1 0) 0 [.ref (r1 1), .ref (r1 2), .ref (r1 3), .ref (r1 4), .ref (r1 5), .ref (r1 6), .int f_columns, .int f_rows, .int f_scale, .int f_toEnd, .int f_between, .int f_kept], aI (r1 1) cI 36 f_modes] []) H63 := hP63
  have hD63 : va_D A (wf [oB (r0 0) 3 [.ref (r0 1), .int p_width, .int p_height], aI (r0 1) cI 2304 p_samples_61, oB (r1 0) 0 [.ref (r1 1), .ref (r1 2), .ref (r1 3), .ref (r1 4), .ref (r1 5), .ref (r1 6), .int f_columns, .int f_rows, .int f_scale, .int f_toEnd, .int f_between, .int f_kept], aI (r1 1) cI 36 f_modes] []) := hD63
  obtain rfl := Option.some.inj hm62
  rw [hQ]
  exact ct_vret hx hb hr hlk hP63 hD63 hS63 dX3_smooth_57
