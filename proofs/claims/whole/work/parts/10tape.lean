def f_X4_size (t_size : Int32) : Option (Int32) :=
  some (t_size)

abbrev rm_X4_size : Room := { frames := 0, cells := 0, slots := 0, locals := 0 }

theorem cdS_X4_size : yX4_size.cls ≠ "java/lang/invoke/MethodHandle" ∧ yX4_size.cls ≠ "java/lang/invoke/VarHandle" ∧ (parseMethodDescriptor yX4_size.desc).map (fun d => d.parameters.length) = some 0 := by decide +kernel

theorem cdV_X4_size : yX4_size.cls = RX4 ∧ yX4_size.cls ≠ "java/lang/invoke/MethodHandle" ∧ yX4_size.cls ≠ "java/lang/invoke/VarHandle" ∧ (parseMethodDescriptor yX4_size.desc).map (fun d => d.parameters.length) = some 0 := ⟨rfl, cdS_X4_size⟩

theorem hi_X4_size_4 : ∀ w ∈ u_ws RX4 TX4 4, w ∈ wsX4_size := fun _ h => List.mem_cons_of_mem _ (List.mem_append_right _ h)

set_option maxHeartbeats 40000000 in
set_option maxRecDepth 100000 in
theorem c_X4_size (l : Launch) (D : va_G) (cB cI cJ cQ : ClassId) (N : Nat) (r0 : Nat → Nat) (sz : Nat) (t_size : Int32) (t_position : Int32) (t_fault : Int32) (o : Int32) (hm0 : f_X4_size t_size = some o) : Met l yX4_size wsX4_size rm_X4_size (ctP D cB cI cJ cQ N sz [.ref (r0 0)] (wf [oB (r0 0) 4 [.ref (r0 1), .int t_size, .int t_position, .int t_fault]] [])) (ctQi D o (wf [oB (r0 0) 4 [.ref (r0 1), .int t_size, .int t_position, .int t_fault]] []) (va_A (wf [oB (r0 0) 4 [.ref (r0 1), .int t_size, .int t_position, .int t_fault]] []) sz)) 0 0 (va_A (wf [oB (r0 0) 4 [.ref (r0 1), .int t_size, .int t_position, .int t_fault]] []) sz) := by
  refine ct_of (cc := cX4_size) (maxL := 1) (ret := (some .int)) (own := RX4) (Qp := ctQi D o (wf [oB (r0 0) 4 [.ref (r0 1), .int t_size, .int t_position, .int t_fault]] [])) (by decide) rfl rfl (Nat.le_of_ble_eq_true rfl) ?_
  intro p e s m args below meth c A hx hb hr hml hown hts hlk hnm hsz hAe E hP0 hD0 hS0 ls0 hl0
  subst hsz
  have hl0 : lv_has ls0 1 [(0, .ref (r0 0))] := hl0
  obtain ⟨QQ, hQ⟩ : ∃ Q : State → Prop, Q = MQ below (ctQi D o (wf [oB (r0 0) 4 [.ref (r0 1), .int t_size, .int t_position, .int t_fault]] []) A) args s 0 0 A := ⟨_, rfl⟩
  rw [← hQ]
  unfold f_X4_size at hm0
  refine lv_aload_n hx hb dX4_size_0 rfl (lv_at hl0 0 rfl) ?_
  refine va_get (D := D) (ci := 4) (v := .int t_size) (C := RX4) (T := TX4) (N := 4) hx hb hts hi_X4_size_4 hown E.1 hP0 0 rfl rfl 1 (by decide) (hts _ (List.mem_of_getElem? (i := 1) rfl)) (fun _ h9 => h9) rfl dX4_size_1 ?_
  obtain rfl := Option.some.inj hm0
  rw [hQ]
  exact ct_iret hx hb hr hlk hP0 hD0 hS0 rfl dX4_size_4

def f_X4_position (t_position : Int32) : Option (Int32) :=
  some (t_position)

abbrev rm_X4_position : Room := { frames := 0, cells := 0, slots := 0, locals := 0 }

theorem cdS_X4_position : yX4_position.cls ≠ "java/lang/invoke/MethodHandle" ∧ yX4_position.cls ≠ "java/lang/invoke/VarHandle" ∧ (parseMethodDescriptor yX4_position.desc).map (fun d => d.parameters.length) = some 0 := by decide +kernel

theorem cdV_X4_position : yX4_position.cls = RX4 ∧ yX4_position.cls ≠ "java/lang/invoke/MethodHandle" ∧ yX4_position.cls ≠ "java/lang/invoke/VarHandle" ∧ (parseMethodDescriptor yX4_position.desc).map (fun d => d.parameters.length) = some 0 := ⟨rfl, cdS_X4_position⟩

theorem hi_X4_position_4 : ∀ w ∈ u_ws RX4 TX4 4, w ∈ wsX4_position := fun _ h => List.mem_cons_of_mem _ (List.mem_append_right _ h)

set_option maxHeartbeats 40000000 in
set_option maxRecDepth 100000 in
theorem c_X4_position (l : Launch) (D : va_G) (cB cI cJ cQ : ClassId) (N : Nat) (r0 : Nat → Nat) (sz : Nat) (t_size : Int32) (t_position : Int32) (t_fault : Int32) (o : Int32) (hm0 : f_X4_position t_position = some o) : Met l yX4_position wsX4_position rm_X4_position (ctP D cB cI cJ cQ N sz [.ref (r0 0)] (wf [oB (r0 0) 4 [.ref (r0 1), .int t_size, .int t_position, .int t_fault]] [])) (ctQi D o (wf [oB (r0 0) 4 [.ref (r0 1), .int t_size, .int t_position, .int t_fault]] []) (va_A (wf [oB (r0 0) 4 [.ref (r0 1), .int t_size, .int t_position, .int t_fault]] []) sz)) 0 0 (va_A (wf [oB (r0 0) 4 [.ref (r0 1), .int t_size, .int t_position, .int t_fault]] []) sz) := by
  refine ct_of (cc := cX4_position) (maxL := 1) (ret := (some .int)) (own := RX4) (Qp := ctQi D o (wf [oB (r0 0) 4 [.ref (r0 1), .int t_size, .int t_position, .int t_fault]] [])) (by decide) rfl rfl (Nat.le_of_ble_eq_true rfl) ?_
  intro p e s m args below meth c A hx hb hr hml hown hts hlk hnm hsz hAe E hP0 hD0 hS0 ls0 hl0
  subst hsz
  have hl0 : lv_has ls0 1 [(0, .ref (r0 0))] := hl0
  obtain ⟨QQ, hQ⟩ : ∃ Q : State → Prop, Q = MQ below (ctQi D o (wf [oB (r0 0) 4 [.ref (r0 1), .int t_size, .int t_position, .int t_fault]] []) A) args s 0 0 A := ⟨_, rfl⟩
  rw [← hQ]
  unfold f_X4_position at hm0
  refine lv_aload_n hx hb dX4_position_0 rfl (lv_at hl0 0 rfl) ?_
  refine va_get (D := D) (ci := 4) (v := .int t_position) (C := RX4) (T := TX4) (N := 4) hx hb hts hi_X4_position_4 hown E.1 hP0 0 rfl rfl 2 (by decide) (hts _ (List.mem_of_getElem? (i := 1) rfl)) (fun _ h9 => h9) rfl dX4_position_1 ?_
  obtain rfl := Option.some.inj hm0
  rw [hQ]
  exact ct_iret hx hb hr hlk hP0 hD0 hS0 rfl dX4_position_4

def f_X4_fault (t_fault : Int32) : Option (Int32) :=
  some (t_fault)

abbrev rm_X4_fault : Room := { frames := 0, cells := 0, slots := 0, locals := 0 }

theorem cdS_X4_fault : yX4_fault.cls ≠ "java/lang/invoke/MethodHandle" ∧ yX4_fault.cls ≠ "java/lang/invoke/VarHandle" ∧ (parseMethodDescriptor yX4_fault.desc).map (fun d => d.parameters.length) = some 0 := by decide +kernel

theorem cdV_X4_fault : yX4_fault.cls = RX4 ∧ yX4_fault.cls ≠ "java/lang/invoke/MethodHandle" ∧ yX4_fault.cls ≠ "java/lang/invoke/VarHandle" ∧ (parseMethodDescriptor yX4_fault.desc).map (fun d => d.parameters.length) = some 0 := ⟨rfl, cdS_X4_fault⟩

theorem hi_X4_fault_4 : ∀ w ∈ u_ws RX4 TX4 4, w ∈ wsX4_fault := fun _ h => List.mem_cons_of_mem _ (List.mem_append_right _ h)

set_option maxHeartbeats 40000000 in
set_option maxRecDepth 100000 in
theorem c_X4_fault (l : Launch) (D : va_G) (cB cI cJ cQ : ClassId) (N : Nat) (r0 : Nat → Nat) (sz : Nat) (t_size : Int32) (t_position : Int32) (t_fault : Int32) (o : Int32) (hm0 : f_X4_fault t_fault = some o) : Met l yX4_fault wsX4_fault rm_X4_fault (ctP D cB cI cJ cQ N sz [.ref (r0 0)] (wf [oB (r0 0) 4 [.ref (r0 1), .int t_size, .int t_position, .int t_fault]] [])) (ctQi D o (wf [oB (r0 0) 4 [.ref (r0 1), .int t_size, .int t_position, .int t_fault]] []) (va_A (wf [oB (r0 0) 4 [.ref (r0 1), .int t_size, .int t_position, .int t_fault]] []) sz)) 0 0 (va_A (wf [oB (r0 0) 4 [.ref (r0 1), .int t_size, .int t_position, .int t_fault]] []) sz) := by
  refine ct_of (cc := cX4_fault) (maxL := 1) (ret := (some .int)) (own := RX4) (Qp := ctQi D o (wf [oB (r0 0) 4 [.ref (r0 1), .int t_size, .int t_position, .int t_fault]] [])) (by decide) rfl rfl (Nat.le_of_ble_eq_true rfl) ?_
  intro p e s m args below meth c A hx hb hr hml hown hts hlk hnm hsz hAe E hP0 hD0 hS0 ls0 hl0
  subst hsz
  have hl0 : lv_has ls0 1 [(0, .ref (r0 0))] := hl0
  obtain ⟨QQ, hQ⟩ : ∃ Q : State → Prop, Q = MQ below (ctQi D o (wf [oB (r0 0) 4 [.ref (r0 1), .int t_size, .int t_position, .int t_fault]] []) A) args s 0 0 A := ⟨_, rfl⟩
  rw [← hQ]
  unfold f_X4_fault at hm0
  refine lv_aload_n hx hb dX4_fault_0 rfl (lv_at hl0 0 rfl) ?_
  refine va_get (D := D) (ci := 4) (v := .int t_fault) (C := RX4) (T := TX4) (N := 4) hx hb hts hi_X4_fault_4 hown E.1 hP0 0 rfl rfl 3 (by decide) (hts _ (List.mem_of_getElem? (i := 1) rfl)) (fun _ h9 => h9) rfl dX4_fault_1 ?_
  obtain rfl := Option.some.inj hm0
  rw [hQ]
  exact ct_iret hx hb hr hlk hP0 hD0 hS0 rfl dX4_fault_4

def f_X4_isSound (t_fault : Int32) : Option (Int32) :=
  (if t_fault = (0 : Int32) then
  (some ((1 : Int32)))
  else
  (some ((0 : Int32))))

abbrev rm_X4_isSound : Room := { frames := 0, cells := 0, slots := 0, locals := 0 }

theorem cdS_X4_isSound : yX4_isSound.cls ≠ "java/lang/invoke/MethodHandle" ∧ yX4_isSound.cls ≠ "java/lang/invoke/VarHandle" ∧ (parseMethodDescriptor yX4_isSound.desc).map (fun d => d.parameters.length) = some 0 := by decide +kernel

theorem cdV_X4_isSound : yX4_isSound.cls = RX4 ∧ yX4_isSound.cls ≠ "java/lang/invoke/MethodHandle" ∧ yX4_isSound.cls ≠ "java/lang/invoke/VarHandle" ∧ (parseMethodDescriptor yX4_isSound.desc).map (fun d => d.parameters.length) = some 0 := ⟨rfl, cdS_X4_isSound⟩

theorem hi_X4_isSound_4 : ∀ w ∈ u_ws RX4 TX4 4, w ∈ wsX4_isSound := fun _ h => List.mem_cons_of_mem _ (List.mem_append_right _ h)

set_option maxHeartbeats 40000000 in
set_option maxRecDepth 100000 in
theorem c_X4_isSound (l : Launch) (D : va_G) (cB cI cJ cQ : ClassId) (N : Nat) (r0 : Nat → Nat) (sz : Nat) (t_size : Int32) (t_position : Int32) (t_fault : Int32) (o : Int32) (hm0 : f_X4_isSound t_fault = some o) : Met l yX4_isSound wsX4_isSound rm_X4_isSound (ctP D cB cI cJ cQ N sz [.ref (r0 0)] (wf [oB (r0 0) 4 [.ref (r0 1), .int t_size, .int t_position, .int t_fault]] [])) (ctQi D o (wf [oB (r0 0) 4 [.ref (r0 1), .int t_size, .int t_position, .int t_fault]] []) (va_A (wf [oB (r0 0) 4 [.ref (r0 1), .int t_size, .int t_position, .int t_fault]] []) sz)) 0 0 (va_A (wf [oB (r0 0) 4 [.ref (r0 1), .int t_size, .int t_position, .int t_fault]] []) sz) := by
  refine ct_of (cc := cX4_isSound) (maxL := 1) (ret := (some .boolean)) (own := RX4) (Qp := ctQi D o (wf [oB (r0 0) 4 [.ref (r0 1), .int t_size, .int t_position, .int t_fault]] [])) (by decide) rfl rfl (Nat.le_of_ble_eq_true rfl) ?_
  intro p e s m args below meth c A hx hb hr hml hown hts hlk hnm hsz hAe E hP0 hD0 hS0 ls0 hl0
  subst hsz
  have hl0 : lv_has ls0 1 [(0, .ref (r0 0))] := hl0
  obtain ⟨QQ, hQ⟩ : ∃ Q : State → Prop, Q = MQ below (ctQi D o (wf [oB (r0 0) 4 [.ref (r0 1), .int t_size, .int t_position, .int t_fault]] []) A) args s 0 0 A := ⟨_, rfl⟩
  rw [← hQ]
  unfold f_X4_isSound at hm0
  refine lv_aload_n hx hb dX4_isSound_0 rfl (lv_at hl0 0 rfl) ?_
  refine va_get (D := D) (ci := 4) (v := .int t_fault) (C := RX4) (T := TX4) (N := 4) hx hb hts hi_X4_isSound_4 hown E.1 hP0 0 rfl rfl 3 (by decide) (hts _ (List.mem_of_getElem? (i := 1) rfl)) (fun _ h9 => h9) rfl dX4_isSound_1 ?_
  refine lv_if_ne (tgt := 11) hx hb dX4_isSound_4 (by decide) (fun hc1 => ?_) (fun hc1 => ?_)
  · have hm2 := bq_f hm0 hc1; clear hm0
    refine lv_iconst (v := 0) hx hb dX4_isSound_11 (by decide) ?_
    obtain rfl := Option.some.inj hm2
    rw [hQ]
    exact ct_zret hx hb hr hlk (Or.inl rfl) hP0 hD0 hS0 rfl dX4_isSound_12
  · have hm3 := bq_t hm0 hc1; clear hm0
    refine lv_iconst (v := 1) hx hb dX4_isSound_7 (by decide) ?_
    refine lv_goto (tgt := 12) hx hb dX4_isSound_8 (by decide) ?_
    obtain rfl := Option.some.inj hm3
    rw [hQ]
    exact ct_zret hx hb hr hlk (Or.inr rfl) hP0 hD0 hS0 rfl dX4_isSound_12

def f_X4_add_L3 (x1 : Int32) : Nat → Int32 → (Nat → Int32) → Int32 → Option (Int32 × (Nat → Int32))
  | 0, _, _, _ => none
  | n + 1, t_size_3, t_bytes_4, v2_5 =>
  (if v2_5 < (0 : Int32) then
  (some (t_size_3, t_bytes_4))
  else
  ((if (6000 : Int32) ≤ t_size_3 then
  (some (t_size_3, t_bytes_4))
  else
  (gi t_size_3 6000 <|
  nm (upd t_bytes_4 t_size_3.toNatClampNeg (vp_nar .byte (Int8.toInt32 (Int32.toInt8 (x1 >>> (v2_5 &&& (31 : Int32)))))) : Nat → Int32) fun t_bytes_16 =>
  nm ((t_size_3 + (1 : Int32)) : Int32) fun t_size_19 =>
  nm (v2_5 + (-8 : Int32) : Int32) fun v2_22 =>
  f_X4_add_L3 x1 n t_size_19 t_bytes_16 v2_22))))

def f_X4_add (x1 : Int32) (t_size : Int32) (t_bytes : Nat → Int32) : Option (Int32 × (Nat → Int32)) :=
  bd2 (f_X4_add_L3 x1 4000 t_size t_bytes (24 : Int32)) fun t_size_25 t_bytes_26 =>
  some (t_size_25, t_bytes_26)

abbrev rm_X4_add : Room := { frames := 0, cells := 0, slots := 0, locals := 0 }

theorem cdS_X4_add : yX4_add.cls ≠ "java/lang/invoke/MethodHandle" ∧ yX4_add.cls ≠ "java/lang/invoke/VarHandle" ∧ (parseMethodDescriptor yX4_add.desc).map (fun d => d.parameters.length) = some 1 := by decide +kernel

theorem cdV_X4_add : yX4_add.cls = RX4 ∧ yX4_add.cls ≠ "java/lang/invoke/MethodHandle" ∧ yX4_add.cls ≠ "java/lang/invoke/VarHandle" ∧ (parseMethodDescriptor yX4_add.desc).map (fun d => d.parameters.length) = some 1 := ⟨rfl, cdS_X4_add⟩

theorem hi_X4_add_4 : ∀ w ∈ u_ws RX4 TX4 4, w ∈ wsX4_add := fun _ h => List.mem_cons_of_mem _ (List.mem_append_right _ h)

set_option maxHeartbeats 40000000 in
set_option maxRecDepth 100000 in
theorem c_X4_add (l : Launch) (D : va_G) (cB cI cJ cQ : ClassId) (N : Nat) (r0 : Nat → Nat) (sz : Nat) (x1 : Int32) (t_size : Int32) (t_position : Int32) (t_fault : Int32) (t_bytes : Nat → Int32) (o : Int32 × (Nat → Int32)) (hm0 : f_X4_add x1 t_size t_bytes = some o) : Met l yX4_add wsX4_add rm_X4_add (ctP D cB cI cJ cQ N sz [.ref (r0 0), .int x1] (wf [oB (r0 0) 4 [.ref (r0 1), .int t_size, .int t_position, .int t_fault], aI (r0 1) cB 6000 t_bytes] [])) (ctQv D (wf [oB (r0 0) 4 [.ref (r0 1), .int (o.1), .int t_position, .int t_fault], aI (r0 1) cB 6000 (o.2)] []) (va_A (wf [oB (r0 0) 4 [.ref (r0 1), .int t_size, .int t_position, .int t_fault], aI (r0 1) cB 6000 t_bytes] []) sz)) 0 0 (va_A (wf [oB (r0 0) 4 [.ref (r0 1), .int t_size, .int t_position, .int t_fault], aI (r0 1) cB 6000 t_bytes] []) sz) := by
  refine ct_of (cc := cX4_add) (maxL := 3) (ret := none) (own := RX4) (Qp := ctQv D (wf [oB (r0 0) 4 [.ref (r0 1), .int (o.1), .int t_position, .int t_fault], aI (r0 1) cB 6000 (o.2)] [])) (by decide) rfl rfl (Nat.le_of_ble_eq_true rfl) ?_
  intro p e s m args below meth c A hx hb hr hml hown hts hlk hnm hsz hAe E hP0 hD0 hS0 ls0 hl0
  subst hsz
  have hl0 : lv_has ls0 3 [(0, .ref (r0 0)), (1, .int x1)] := hl0
  obtain ⟨QQ, hQ⟩ : ∃ Q : State → Prop, Q = MQ below (ctQv D (wf [oB (r0 0) 4 [.ref (r0 1), .int (o.1), .int t_position, .int t_fault], aI (r0 1) cB 6000 (o.2)] []) A) args s 0 0 A := ⟨_, rfl⟩
  rw [← hQ]
  unfold f_X4_add at hm0
  refine lv_bipush (v := 24) hx hb dX4_add_0 (by decide) ?_
  refine lv_istore_n (lv' := [(2, .int (24 : Int32)), (0, .ref (r0 0)), (1, .int x1)]) hx hb dX4_add_2 rfl hl0 (by decide) rfl (fun ls1 hl1 => ?_); clear hl0
  obtain ⟨t_size_25, t_bytes_26, hlp2, hm27⟩ := bd2_some hm0; clear hm0
  have LP2 : ∀ (n : Nat) (t_size_3 : Int32) (t_bytes_4 : Nat → Int32) (v2_5 : Int32) (z2 : Int32 × (Nat → Int32)) (H6 : Heap) (lc6 : List Loc) (ls6 : Array Slot), f_X4_add_L3 x1 n t_size_3 t_bytes_4 v2_5 = some z2 → va_P D vwCl (wf [oB (r0 0) 4 [.ref (r0 1), .int t_size_3, .int t_position, .int t_fault], aI (r0 1) cB 6000 t_bytes_4] []) H6 → va_D A (wf [oB (r0 0) 4 [.ref (r0 1), .int t_size_3, .int t_position, .int t_fault], aI (r0 1) cB 6000 t_bytes_4] []) → va_S A s.heap H6 lc6 → lv_has ls6 3 [(0, .ref (r0 0)), (1, .int x1), (2, .int v2_5)] → (∀ (H : Heap) (lc : List Loc) (ls : Array Slot), va_P D vwCl (wf [oB (r0 0) 4 [.ref (r0 1), .int (z2.1), .int t_position, .int t_fault], aI (r0 1) cB 6000 (z2.2)] []) H → va_D A (wf [oB (r0 0) 4 [.ref (r0 1), .int (z2.1), .int t_position, .int t_fault], aI (r0 1) cB 6000 (z2.2)] []) → va_S A s.heap H lc → lv_has ls 3 [] → W p l e rm_X4_add s m args below meth c H lc 0 0 QQ (F0 m 46 ls [])) → W p l e rm_X4_add s m args below meth c H6 lc6 0 0 QQ (F0 m 3 ls6 []) := by
    intro n
    induction n with
    | zero =>
      intro t_size_3 t_bytes_4 v2_5 z2 H6 lc6 ls6 hm8; simp [f_X4_add_L3] at hm8
    | succ n ih =>
      intro t_size_3 t_bytes_4 v2_5 z2 H6 lc6 ls6 hm8 hP6 hD6 hS6 hl6 kx
      rw [f_X4_add_L3] at hm8
      refine lv_iload_n hx hb dX4_add_3 rfl (lv_at hl6 2 rfl) ?_
      refine lv_if_lt (tgt := 46) hx hb dX4_add_4 (by decide) (fun hc9 => ?_) (fun hc9 => ?_)
      · have hm10 := bq_t hm8 hc9; clear hm8
        obtain rfl := Option.some.inj hm10
        exact kx _ _ _ hP6 hD6 hS6 (lv_sub hl6 [] rfl)
      · have hm11 := bq_f hm8 hc9; clear hm8
        refine lv_aload_n hx hb dX4_add_7 rfl (lv_at hl6 0 rfl) ?_
        refine va_get (D := D) (ci := 4) (v := .int t_size_3) (C := RX4) (T := TX4) (N := 4) hx hb hts hi_X4_add_4 hown E.1 hP6 0 rfl rfl 1 (by decide) (hts _ (List.mem_of_getElem? (i := 1) rfl)) (fun _ h9 => h9) rfl dX4_add_8 ?_
        refine lv_sipush (v := 6000) hx hb dX4_add_11 (by decide) ?_
        refine lv_icmp_ge (tgt := 46) hx hb dX4_add_14 (by decide) (fun hc12 => ?_) (fun hc12 => ?_)
        · have hm13 := bq_t hm11 hc12; clear hm11
          obtain rfl := Option.some.inj hm13
          exact kx _ _ _ hP6 hD6 hS6 (lv_sub hl6 [] rfl)
        · have hm14 := bq_f hm11 hc12; clear hm11
          refine lv_aload_n hx hb dX4_add_17 rfl (lv_at hl6 0 rfl) ?_
          refine va_get (D := D) (ci := 4) (v := .ref (r0 1)) (C := RX4) (T := TX4) (N := 4) hx hb hts hi_X4_add_4 hown E.1 hP6 0 rfl rfl 0 (by decide) (hts _ (List.mem_of_getElem? (i := 2) rfl)) (fun _ h9 => h9) rfl dX4_add_18 ?_
          refine lv_aload_n hx hb dX4_add_21 rfl (lv_at hl6 0 rfl) ?_
          refine va_get (D := D) (ci := 4) (v := .int t_size_3) (C := RX4) (T := TX4) (N := 4) hx hb hts hi_X4_add_4 hown E.1 hP6 0 rfl rfl 1 (by decide) (hts _ (List.mem_of_getElem? (i := 1) rfl)) (fun _ h9 => h9) rfl dX4_add_22 ?_
          refine lv_iload_n hx hb dX4_add_25 rfl (lv_at hl6 1 rfl) ?_
          refine lv_iload_n hx hb dX4_add_26 rfl (lv_at hl6 2 rfl) ?_
          refine lv_ishr hx hb dX4_add_27 ?_
          refine lv_i2b hx hb dX4_add_28 rfl ?_
          obtain ⟨hin15, hm15⟩ := gi_some hm14; clear hm14
          obtain ⟨t_bytes_16, et_bytes_16, hm17⟩ := nm_some hm15; clear hm15
          refine ct_bast (g := t_bytes_16) (ws' := (wf [oB (r0 0) 4 [.ref (r0 1), .int t_size_3, .int t_position, .int t_fault], aI (r0 1) cB 6000 t_bytes_16] [])) hx hb E.1 hP6 hD6 hS6 1 1 rfl rfl hin15 et_bytes_16 rfl dX4_add_29 (fun H18 lc18 hP18 hD18 hS18 => ?_)
          clear hP6 hD6 hS6
          refine lv_aload_n hx hb dX4_add_30 rfl (lv_at hl6 0 rfl) ?_
          refine lv_dup hx hb dX4_add_31 rfl ?_
          refine va_get (D := D) (ci := 4) (v := .int t_size_3) (C := RX4) (T := TX4) (N := 4) hx hb hts hi_X4_add_4 hown E.1 hP18 0 rfl rfl 1 (by decide) (hts _ (List.mem_of_getElem? (i := 1) rfl)) (fun _ h9 => h9) rfl dX4_add_32 ?_
          refine lv_iconst (v := 1) hx hb dX4_add_35 (by decide) ?_
          refine lv_iadd hx hb dX4_add_36 ?_
          obtain ⟨t_size_19, et_size_19, hm20⟩ := nm_some hm17; clear hm17
          refine ct_topi et_size_19 ?_
          refine ct_put (D := D) (ci := 4) (v := .int t_size_19) (ty := .int) (C := RX4) (T := TX4) (N := 4) (ws' := (wf [oB (r0 0) 4 [.ref (r0 1), .int t_size_19, .int t_position, .int t_fault], aI (r0 1) cB 6000 t_bytes_16] [])) hx hb hts hi_X4_add_4 tyX4 tyX4_ok nmX4 hown E.1 hP18 hD18 hS18 0 rfl rfl 1 (by decide) (hts _ (List.mem_of_getElem? (i := 1) rfl)) (fun _ h9 => h9) rfl (by decide +kernel) rfl rfl (Nat.le_of_ble_eq_true rfl) rfl dX4_add_37 (fun H21 lc21 hP21 hD21 hS21 => ?_)
          clear hP18 hD18 hS18
          obtain ⟨v2_22, ev2_22, hm23⟩ := nm_some hm20; clear hm20
          refine lv_iinc (v := v2_22) (lv' := [(2, .int v2_22), (0, .ref (r0 0)), (1, .int x1)]) hx hb dX4_add_40 hl6 (k := 2) rfl (by rw [ev2_22]; rfl) (by decide) rfl (fun ls24 hl24 => ?_); clear hl6
          refine lv_goto (tgt := 3) hx hb dX4_add_43 (by decide) ?_
          exact ih t_size_19 t_bytes_16 v2_22 _ _ _ _ hm23 hP21 hD21 hS21 (lv_sub hl24 [1, 2, 0] rfl) kx
  refine LP2 4000 t_size t_bytes (24 : Int32) (t_size_25, t_bytes_26) _ _ _ hlp2 hP0 hD0 hS0 (lv_sub hl1 [1, 2, 0] rfl) (fun H28 lc28 ls28 hP28 hD28 hS28 hl28 => ?_); clear LP2 hlp2
  clear hP0 hD0 hS0
  have hl28 : lv_has ls28 3 [] := hl28
  have hP28 : va_P D vwCl (wf [oB (r0 0) 4 [.ref (r0 1), .int t_size_25, .int t_position, .int t_fault], aI (r0 1) cB 6000 t_bytes_26] []) H28 := hP28
  have hD28 : va_D A (wf [oB (r0 0) 4 [.ref (r0 1), .int t_size_25, .int t_position, .int t_fault], aI (r0 1) cB 6000 t_bytes_26] []) := hD28
  obtain rfl := Option.some.inj hm27
  rw [hQ]
  exact ct_vret hx hb hr hlk hP28 hD28 hS28 dX4_add_46

def f_X4_cut (x1 : Int32) (t_size : Int32) : Option (Int32) :=
  some (x1)

abbrev rm_X4_cut : Room := { frames := 0, cells := 0, slots := 0, locals := 0 }

theorem cdS_X4_cut : yX4_cut.cls ≠ "java/lang/invoke/MethodHandle" ∧ yX4_cut.cls ≠ "java/lang/invoke/VarHandle" ∧ (parseMethodDescriptor yX4_cut.desc).map (fun d => d.parameters.length) = some 1 := by decide +kernel

theorem cdV_X4_cut : yX4_cut.cls = RX4 ∧ yX4_cut.cls ≠ "java/lang/invoke/MethodHandle" ∧ yX4_cut.cls ≠ "java/lang/invoke/VarHandle" ∧ (parseMethodDescriptor yX4_cut.desc).map (fun d => d.parameters.length) = some 1 := ⟨rfl, cdS_X4_cut⟩

theorem hi_X4_cut_4 : ∀ w ∈ u_ws RX4 TX4 4, w ∈ wsX4_cut := fun _ h => List.mem_cons_of_mem _ (List.mem_append_right _ h)

set_option maxHeartbeats 40000000 in
set_option maxRecDepth 100000 in
theorem c_X4_cut (l : Launch) (D : va_G) (cB cI cJ cQ : ClassId) (N : Nat) (r0 : Nat → Nat) (sz : Nat) (x1 : Int32) (t_size : Int32) (t_position : Int32) (t_fault : Int32) (o : Int32) (hm0 : f_X4_cut x1 t_size = some o) : Met l yX4_cut wsX4_cut rm_X4_cut (ctP D cB cI cJ cQ N sz [.ref (r0 0), .int x1] (wf [oB (r0 0) 4 [.ref (r0 1), .int t_size, .int t_position, .int t_fault]] [])) (ctQv D (wf [oB (r0 0) 4 [.ref (r0 1), .int o, .int t_position, .int t_fault]] []) (va_A (wf [oB (r0 0) 4 [.ref (r0 1), .int t_size, .int t_position, .int t_fault]] []) sz)) 0 0 (va_A (wf [oB (r0 0) 4 [.ref (r0 1), .int t_size, .int t_position, .int t_fault]] []) sz) := by
  refine ct_of (cc := cX4_cut) (maxL := 2) (ret := none) (own := RX4) (Qp := ctQv D (wf [oB (r0 0) 4 [.ref (r0 1), .int o, .int t_position, .int t_fault]] [])) (by decide) rfl rfl (Nat.le_of_ble_eq_true rfl) ?_
  intro p e s m args below meth c A hx hb hr hml hown hts hlk hnm hsz hAe E hP0 hD0 hS0 ls0 hl0
  subst hsz
  have hl0 : lv_has ls0 2 [(0, .ref (r0 0)), (1, .int x1)] := hl0
  obtain ⟨QQ, hQ⟩ : ∃ Q : State → Prop, Q = MQ below (ctQv D (wf [oB (r0 0) 4 [.ref (r0 1), .int o, .int t_position, .int t_fault]] []) A) args s 0 0 A := ⟨_, rfl⟩
  rw [← hQ]
  unfold f_X4_cut at hm0
  refine lv_aload_n hx hb dX4_cut_0 rfl (lv_at hl0 0 rfl) ?_
  refine lv_iload_n hx hb dX4_cut_1 rfl (lv_at hl0 1 rfl) ?_
  refine ct_put (D := D) (ci := 4) (v := .int x1) (ty := .int) (C := RX4) (T := TX4) (N := 4) (ws' := (wf [oB (r0 0) 4 [.ref (r0 1), .int x1, .int t_position, .int t_fault]] [])) hx hb hts hi_X4_cut_4 tyX4 tyX4_ok nmX4 hown E.1 hP0 hD0 hS0 0 rfl rfl 1 (by decide) (hts _ (List.mem_of_getElem? (i := 1) rfl)) (fun _ h9 => h9) rfl (by decide +kernel) rfl rfl (Nat.le_of_ble_eq_true rfl) rfl dX4_cut_2 (fun H1 lc1 hP1 hD1 hS1 => ?_)
  clear hP0 hD0 hS0
  obtain rfl := Option.some.inj hm0
  rw [hQ]
  exact ct_vret hx hb hr hlk hP1 hD1 hS1 dX4_cut_5

def f_X4_rewind (t_position : Int32) (t_fault : Int32) : Option (Int32 × Int32) :=
  some ((0 : Int32), (0 : Int32))

abbrev rm_X4_rewind : Room := { frames := 0, cells := 0, slots := 0, locals := 0 }

theorem cdS_X4_rewind : yX4_rewind.cls ≠ "java/lang/invoke/MethodHandle" ∧ yX4_rewind.cls ≠ "java/lang/invoke/VarHandle" ∧ (parseMethodDescriptor yX4_rewind.desc).map (fun d => d.parameters.length) = some 0 := by decide +kernel

theorem cdV_X4_rewind : yX4_rewind.cls = RX4 ∧ yX4_rewind.cls ≠ "java/lang/invoke/MethodHandle" ∧ yX4_rewind.cls ≠ "java/lang/invoke/VarHandle" ∧ (parseMethodDescriptor yX4_rewind.desc).map (fun d => d.parameters.length) = some 0 := ⟨rfl, cdS_X4_rewind⟩

theorem hi_X4_rewind_4 : ∀ w ∈ u_ws RX4 TX4 4, w ∈ wsX4_rewind := fun _ h => List.mem_cons_of_mem _ (List.mem_append_right _ h)

set_option maxHeartbeats 40000000 in
set_option maxRecDepth 100000 in
theorem c_X4_rewind (l : Launch) (D : va_G) (cB cI cJ cQ : ClassId) (N : Nat) (r0 : Nat → Nat) (sz : Nat) (t_size : Int32) (t_position : Int32) (t_fault : Int32) (o : Int32 × Int32) (hm0 : f_X4_rewind t_position t_fault = some o) : Met l yX4_rewind wsX4_rewind rm_X4_rewind (ctP D cB cI cJ cQ N sz [.ref (r0 0)] (wf [oB (r0 0) 4 [.ref (r0 1), .int t_size, .int t_position, .int t_fault]] [])) (ctQv D (wf [oB (r0 0) 4 [.ref (r0 1), .int t_size, .int (o.1), .int (o.2)]] []) (va_A (wf [oB (r0 0) 4 [.ref (r0 1), .int t_size, .int t_position, .int t_fault]] []) sz)) 0 0 (va_A (wf [oB (r0 0) 4 [.ref (r0 1), .int t_size, .int t_position, .int t_fault]] []) sz) := by
  refine ct_of (cc := cX4_rewind) (maxL := 1) (ret := none) (own := RX4) (Qp := ctQv D (wf [oB (r0 0) 4 [.ref (r0 1), .int t_size, .int (o.1), .int (o.2)]] [])) (by decide) rfl rfl (Nat.le_of_ble_eq_true rfl) ?_
  intro p e s m args below meth c A hx hb hr hml hown hts hlk hnm hsz hAe E hP0 hD0 hS0 ls0 hl0
  subst hsz
  have hl0 : lv_has ls0 1 [(0, .ref (r0 0))] := hl0
  obtain ⟨QQ, hQ⟩ : ∃ Q : State → Prop, Q = MQ below (ctQv D (wf [oB (r0 0) 4 [.ref (r0 1), .int t_size, .int (o.1), .int (o.2)]] []) A) args s 0 0 A := ⟨_, rfl⟩
  rw [← hQ]
  unfold f_X4_rewind at hm0
  refine lv_aload_n hx hb dX4_rewind_0 rfl (lv_at hl0 0 rfl) ?_
  refine lv_iconst (v := 0) hx hb dX4_rewind_1 (by decide) ?_
  refine ct_put (D := D) (ci := 4) (v := .int (0 : Int32)) (ty := .int) (C := RX4) (T := TX4) (N := 4) (ws' := (wf [oB (r0 0) 4 [.ref (r0 1), .int t_size, .int (0 : Int32), .int t_fault]] [])) hx hb hts hi_X4_rewind_4 tyX4 tyX4_ok nmX4 hown E.1 hP0 hD0 hS0 0 rfl rfl 2 (by decide) (hts _ (List.mem_of_getElem? (i := 1) rfl)) (fun _ h9 => h9) rfl (by decide +kernel) rfl rfl (Nat.le_of_ble_eq_true rfl) rfl dX4_rewind_2 (fun H1 lc1 hP1 hD1 hS1 => ?_)
  clear hP0 hD0 hS0
  refine lv_aload_n hx hb dX4_rewind_5 rfl (lv_at hl0 0 rfl) ?_
  refine lv_iconst (v := 0) hx hb dX4_rewind_6 (by decide) ?_
  refine ct_put (D := D) (ci := 4) (v := .int (0 : Int32)) (ty := .int) (C := RX4) (T := TX4) (N := 4) (ws' := (wf [oB (r0 0) 4 [.ref (r0 1), .int t_size, .int (0 : Int32), .int (0 : Int32)]] [])) hx hb hts hi_X4_rewind_4 tyX4 tyX4_ok nmX4 hown E.1 hP1 hD1 hS1 0 rfl rfl 3 (by decide) (hts _ (List.mem_of_getElem? (i := 2) rfl)) (fun _ h9 => h9) rfl (by decide +kernel) rfl rfl (Nat.le_of_ble_eq_true rfl) rfl dX4_rewind_7 (fun H2 lc2 hP2 hD2 hS2 => ?_)
  clear hP1 hD1 hS1
  obtain rfl := Option.some.inj hm0
  rw [hQ]
  exact ct_vret hx hb hr hlk hP2 hD2 hS2 dX4_rewind_10

def f_X4_fail (x1 : Int32) (t_fault : Int32) : Option (Int32) :=
  (if t_fault = (0 : Int32) then
  (some (x1))
  else
  (some (t_fault)))

abbrev rm_X4_fail : Room := { frames := 0, cells := 0, slots := 0, locals := 0 }

theorem cdS_X4_fail : yX4_fail.cls ≠ "java/lang/invoke/MethodHandle" ∧ yX4_fail.cls ≠ "java/lang/invoke/VarHandle" ∧ (parseMethodDescriptor yX4_fail.desc).map (fun d => d.parameters.length) = some 1 := by decide +kernel

theorem cdV_X4_fail : yX4_fail.cls = RX4 ∧ yX4_fail.cls ≠ "java/lang/invoke/MethodHandle" ∧ yX4_fail.cls ≠ "java/lang/invoke/VarHandle" ∧ (parseMethodDescriptor yX4_fail.desc).map (fun d => d.parameters.length) = some 1 := ⟨rfl, cdS_X4_fail⟩

theorem hi_X4_fail_4 : ∀ w ∈ u_ws RX4 TX4 4, w ∈ wsX4_fail := fun _ h => List.mem_cons_of_mem _ (List.mem_append_right _ h)

set_option maxHeartbeats 40000000 in
set_option maxRecDepth 100000 in
theorem c_X4_fail (l : Launch) (D : va_G) (cB cI cJ cQ : ClassId) (N : Nat) (r0 : Nat → Nat) (sz : Nat) (x1 : Int32) (t_size : Int32) (t_position : Int32) (t_fault : Int32) (o : Int32) (hm0 : f_X4_fail x1 t_fault = some o) : Met l yX4_fail wsX4_fail rm_X4_fail (ctP D cB cI cJ cQ N sz [.ref (r0 0), .int x1] (wf [oB (r0 0) 4 [.ref (r0 1), .int t_size, .int t_position, .int t_fault]] [])) (ctQv D (wf [oB (r0 0) 4 [.ref (r0 1), .int t_size, .int t_position, .int o]] []) (va_A (wf [oB (r0 0) 4 [.ref (r0 1), .int t_size, .int t_position, .int t_fault]] []) sz)) 0 0 (va_A (wf [oB (r0 0) 4 [.ref (r0 1), .int t_size, .int t_position, .int t_fault]] []) sz) := by
  refine ct_of (cc := cX4_fail) (maxL := 2) (ret := none) (own := RX4) (Qp := ctQv D (wf [oB (r0 0) 4 [.ref (r0 1), .int t_size, .int t_position, .int o]] [])) (by decide) rfl rfl (Nat.le_of_ble_eq_true rfl) ?_
  intro p e s m args below meth c A hx hb hr hml hown hts hlk hnm hsz hAe E hP0 hD0 hS0 ls0 hl0
  subst hsz
  have hl0 : lv_has ls0 2 [(0, .ref (r0 0)), (1, .int x1)] := hl0
  obtain ⟨QQ, hQ⟩ : ∃ Q : State → Prop, Q = MQ below (ctQv D (wf [oB (r0 0) 4 [.ref (r0 1), .int t_size, .int t_position, .int o]] []) A) args s 0 0 A := ⟨_, rfl⟩
  rw [← hQ]
  unfold f_X4_fail at hm0
  refine lv_aload_n hx hb dX4_fail_0 rfl (lv_at hl0 0 rfl) ?_
  refine va_get (D := D) (ci := 4) (v := .int t_fault) (C := RX4) (T := TX4) (N := 4) hx hb hts hi_X4_fail_4 hown E.1 hP0 0 rfl rfl 3 (by decide) (hts _ (List.mem_of_getElem? (i := 1) rfl)) (fun _ h9 => h9) rfl dX4_fail_1 ?_
  refine lv_if_ne (tgt := 12) hx hb dX4_fail_4 (by decide) (fun hc1 => ?_) (fun hc1 => ?_)
  · have hm2 := bq_f hm0 hc1; clear hm0
    obtain rfl := Option.some.inj hm2
    rw [hQ]
    exact ct_vret hx hb hr hlk hP0 hD0 hS0 dX4_fail_12
  · have hm3 := bq_t hm0 hc1; clear hm0
    refine lv_aload_n hx hb dX4_fail_7 rfl (lv_at hl0 0 rfl) ?_
    refine lv_iload_n hx hb dX4_fail_8 rfl (lv_at hl0 1 rfl) ?_
    refine ct_put (D := D) (ci := 4) (v := .int x1) (ty := .int) (C := RX4) (T := TX4) (N := 4) (ws' := (wf [oB (r0 0) 4 [.ref (r0 1), .int t_size, .int t_position, .int x1]] [])) hx hb hts hi_X4_fail_4 tyX4 tyX4_ok nmX4 hown E.1 hP0 hD0 hS0 0 rfl rfl 3 (by decide) (hts _ (List.mem_of_getElem? (i := 1) rfl)) (fun _ h9 => h9) rfl (by decide +kernel) rfl rfl (Nat.le_of_ble_eq_true rfl) rfl dX4_fail_9 (fun H4 lc4 hP4 hD4 hS4 => ?_)
    clear hP0 hD0 hS0
    obtain rfl := Option.some.inj hm3
    rw [hQ]
    exact ct_vret hx hb hr hlk hP4 hD4 hS4 dX4_fail_12

def f_X4_bit (t_size : Int32) (t_position : Int32) (t_fault : Int32) (t_bytes : Nat → Int32) : Option (Int32 × Int32 × Int32) :=
  jn (fun (k2 : Int32 → Option (Int32 × Int32 × Int32)) => (if t_position < ((8 : Int32) * t_size) then
  (k2 t_fault)
  else
  (bd1 (f_X4_fail (1 : Int32) t_fault) fun t_fault_19 =>
  k2 t_fault_19))) fun t_fault_3 =>
  (if t_fault_3 = (0 : Int32) then
  (gi (t_position / (8 : Int32)) 6000 <|
  nm ((((t_bytes (t_position / (8 : Int32)).toNatClampNeg) >>> (((7 : Int32) - (t_position - t_position / (8 : Int32) * (8 : Int32))) &&& (31 : Int32))) &&& (1 : Int32)) : Int32) fun v1_9 =>
  nm ((t_position + (1 : Int32)) : Int32) fun t_position_12 =>
  some (v1_9, t_position_12, t_fault_3))
  else
  (some ((0 : Int32), t_position, t_fault_3)))

abbrev rm_X4_bit : Room := { frames := 1, cells := 0, slots := 0, locals := 21 }

theorem cdS_X4_bit : yX4_bit.cls ≠ "java/lang/invoke/MethodHandle" ∧ yX4_bit.cls ≠ "java/lang/invoke/VarHandle" ∧ (parseMethodDescriptor yX4_bit.desc).map (fun d => d.parameters.length) = some 0 := by decide +kernel

theorem cdV_X4_bit : yX4_bit.cls = RX4 ∧ yX4_bit.cls ≠ "java/lang/invoke/MethodHandle" ∧ yX4_bit.cls ≠ "java/lang/invoke/VarHandle" ∧ (parseMethodDescriptor yX4_bit.desc).map (fun d => d.parameters.length) = some 0 := ⟨rfl, cdS_X4_bit⟩

theorem hi_X4_bit_4 : ∀ w ∈ u_ws RX4 TX4 4, w ∈ wsX4_bit := fun _ h => List.mem_cons_of_mem _ (List.mem_append_right _ h)

set_option maxHeartbeats 40000000 in
set_option maxRecDepth 100000 in
theorem c_X4_bit (l : Launch) (D : va_G) (cB cI cJ cQ : ClassId) (N : Nat) (r0 : Nat → Nat) (sz : Nat) (t_size : Int32) (t_position : Int32) (t_fault : Int32) (t_bytes : Nat → Int32) (o : Int32 × Int32 × Int32) (hm0 : f_X4_bit t_size t_position t_fault t_bytes = some o) : Met l yX4_bit wsX4_bit rm_X4_bit (ctP D cB cI cJ cQ N sz [.ref (r0 0)] (wf [oB (r0 0) 4 [.ref (r0 1), .int t_size, .int t_position, .int t_fault], aI (r0 1) cB 6000 t_bytes] [])) (ctQi D (o.1) (wf [oB (r0 0) 4 [.ref (r0 1), .int t_size, .int (o.2.1), .int (o.2.2)], aI (r0 1) cB 6000 t_bytes] []) (va_A (wf [oB (r0 0) 4 [.ref (r0 1), .int t_size, .int t_position, .int t_fault], aI (r0 1) cB 6000 t_bytes] []) sz)) 0 0 (va_A (wf [oB (r0 0) 4 [.ref (r0 1), .int t_size, .int t_position, .int t_fault], aI (r0 1) cB 6000 t_bytes] []) sz) := by
  refine ct_of (cc := cX4_bit) (maxL := 2) (ret := (some .int)) (own := RX4) (Qp := ctQi D (o.1) (wf [oB (r0 0) 4 [.ref (r0 1), .int t_size, .int (o.2.1), .int (o.2.2)], aI (r0 1) cB 6000 t_bytes] [])) (by decide) rfl rfl (Nat.le_of_ble_eq_true rfl) ?_
  intro p e s m args below meth c A hx hb hr hml hown hts hlk hnm hsz hAe E hP0 hD0 hS0 ls0 hl0
  subst hsz
  have hl0 : lv_has ls0 2 [(0, .ref (r0 0))] := hl0
  obtain ⟨QQ, hQ⟩ : ∃ Q : State → Prop, Q = MQ below (ctQi D (o.1) (wf [oB (r0 0) 4 [.ref (r0 1), .int t_size, .int (o.2.1), .int (o.2.2)], aI (r0 1) cB 6000 t_bytes] []) A) args s 0 0 A := ⟨_, rfl⟩
  rw [← hQ]
  unfold f_X4_bit at hm0
  refine lv_aload_n hx hb dX4_bit_0 rfl (lv_at hl0 0 rfl) ?_
  refine va_get (D := D) (ci := 4) (v := .int t_position) (C := RX4) (T := TX4) (N := 4) hx hb hts hi_X4_bit_4 hown E.1 hP0 0 rfl rfl 2 (by decide) (hts _ (List.mem_of_getElem? (i := 1) rfl)) (fun _ h9 => h9) rfl dX4_bit_1 ?_
  refine lv_bipush (v := 8) hx hb dX4_bit_4 (by decide) ?_
  refine lv_aload_n hx hb dX4_bit_6 rfl (lv_at hl0 0 rfl) ?_
  refine va_get (D := D) (ci := 4) (v := .int t_size) (C := RX4) (T := TX4) (N := 4) hx hb hts hi_X4_bit_4 hown E.1 hP0 0 rfl rfl 1 (by decide) (hts _ (List.mem_of_getElem? (i := 2) rfl)) (fun _ h9 => h9) rfl dX4_bit_7 ?_
  refine lv_imul hx hb dX4_bit_10 ?_
  obtain ⟨k2, ek2, hm2⟩ := jn_some hm0; clear hm0
  have KJ2 : ∀ (t_fault_3 : Int32) (H4 : Heap) (lc4 : List Loc) (ls4 : Array Slot), k2 t_fault_3 = some o → va_P D vwCl (wf [oB (r0 0) 4 [.ref (r0 1), .int t_size, .int t_position, .int t_fault_3], aI (r0 1) cB 6000 t_bytes] []) H4 → va_D A (wf [oB (r0 0) 4 [.ref (r0 1), .int t_size, .int t_position, .int t_fault_3], aI (r0 1) cB 6000 t_bytes] []) → va_S A s.heap H4 lc4 → lv_has ls4 2 [(0, .ref (r0 0))] → W p l e rm_X4_bit s m args below meth c H4 lc4 0 0 QQ (F0 m 19 ls4 []) := by
    intro t_fault_3 H4 lc4 ls4 hm5 hP4 hD4 hS4 hl4
    rw [ek2] at hm5
    refine lv_aload_n hx hb dX4_bit_19 rfl (lv_at hl4 0 rfl) ?_
    refine va_get (D := D) (ci := 4) (v := .int t_fault_3) (C := RX4) (T := TX4) (N := 4) hx hb hts hi_X4_bit_4 hown E.1 hP4 0 rfl rfl 3 (by decide) (hts _ (List.mem_of_getElem? (i := 3) rfl)) (fun _ h9 => h9) rfl dX4_bit_20 ?_
    refine lv_if_eq (tgt := 28) hx hb dX4_bit_23 (by decide) (fun hc6 => ?_) (fun hc6 => ?_)
    · have hm7 := bq_t hm5 hc6; clear hm5
      refine lv_aload_n hx hb dX4_bit_28 rfl (lv_at hl4 0 rfl) ?_
      refine va_get (D := D) (ci := 4) (v := .ref (r0 1)) (C := RX4) (T := TX4) (N := 4) hx hb hts hi_X4_bit_4 hown E.1 hP4 0 rfl rfl 0 (by decide) (hts _ (List.mem_of_getElem? (i := 4) rfl)) (fun _ h9 => h9) rfl dX4_bit_29 ?_
      refine lv_aload_n hx hb dX4_bit_32 rfl (lv_at hl4 0 rfl) ?_
      refine va_get (D := D) (ci := 4) (v := .int t_position) (C := RX4) (T := TX4) (N := 4) hx hb hts hi_X4_bit_4 hown E.1 hP4 0 rfl rfl 2 (by decide) (hts _ (List.mem_of_getElem? (i := 1) rfl)) (fun _ h9 => h9) rfl dX4_bit_33 ?_
      refine lv_bipush (v := 8) hx hb dX4_bit_36 (by decide) ?_
      refine lv_idiv hx hb dX4_bit_38 (by decide) ?_
      obtain ⟨hin8, hm8⟩ := gi_some hm7; clear hm7
      refine va_bald hx hb E.1 hP4 1 1 rfl rfl hin8 dX4_bit_39 ?_
      refine lv_bipush (v := 7) hx hb dX4_bit_40 (by decide) ?_
      refine lv_aload_n hx hb dX4_bit_42 rfl (lv_at hl4 0 rfl) ?_
      refine va_get (D := D) (ci := 4) (v := .int t_position) (C := RX4) (T := TX4) (N := 4) hx hb hts hi_X4_bit_4 hown E.1 hP4 0 rfl rfl 2 (by decide) (hts _ (List.mem_of_getElem? (i := 1) rfl)) (fun _ h9 => h9) rfl dX4_bit_43 ?_
      refine lv_bipush (v := 8) hx hb dX4_bit_46 (by decide) ?_
      refine lv_irem hx hb dX4_bit_48 (by decide) ?_
      refine lv_isub hx hb dX4_bit_49 ?_
      refine lv_ishr hx hb dX4_bit_50 ?_
      refine lv_iconst (v := 1) hx hb dX4_bit_51 (by decide) ?_
      refine lv_iand hx hb dX4_bit_52 ?_
      obtain ⟨v1_9, ev1_9, hm10⟩ := nm_some hm8; clear hm8
      refine ct_topi ev1_9 ?_
      refine lv_istore_n (lv' := [(1, .int v1_9), (0, .ref (r0 0))]) hx hb dX4_bit_53 rfl hl4 (by decide) rfl (fun ls11 hl11 => ?_); clear hl4
      refine lv_aload_n hx hb dX4_bit_54 rfl (lv_at hl11 1 rfl) ?_
      refine lv_dup hx hb dX4_bit_55 rfl ?_
      refine va_get (D := D) (ci := 4) (v := .int t_position) (C := RX4) (T := TX4) (N := 4) hx hb hts hi_X4_bit_4 hown E.1 hP4 0 rfl rfl 2 (by decide) (hts _ (List.mem_of_getElem? (i := 1) rfl)) (fun _ h9 => h9) rfl dX4_bit_56 ?_
      refine lv_iconst (v := 1) hx hb dX4_bit_59 (by decide) ?_
      refine lv_iadd hx hb dX4_bit_60 ?_
      obtain ⟨t_position_12, et_position_12, hm13⟩ := nm_some hm10; clear hm10
      refine ct_topi et_position_12 ?_
      refine ct_put (D := D) (ci := 4) (v := .int t_position_12) (ty := .int) (C := RX4) (T := TX4) (N := 4) (ws' := (wf [oB (r0 0) 4 [.ref (r0 1), .int t_size, .int t_position_12, .int t_fault_3], aI (r0 1) cB 6000 t_bytes] [])) hx hb hts hi_X4_bit_4 tyX4 tyX4_ok nmX4 hown E.1 hP4 hD4 hS4 0 rfl rfl 2 (by decide) (hts _ (List.mem_of_getElem? (i := 1) rfl)) (fun _ h9 => h9) rfl (by decide +kernel) rfl rfl (Nat.le_of_ble_eq_true rfl) rfl dX4_bit_61 (fun H14 lc14 hP14 hD14 hS14 => ?_)
      clear hP4 hD4 hS4
      refine lv_iload_n hx hb dX4_bit_64 rfl (lv_at hl11 0 rfl) ?_
      obtain rfl := Option.some.inj hm13
      rw [hQ]
      exact ct_iret hx hb hr hlk hP14 hD14 hS14 rfl dX4_bit_65
    · have hm15 := bq_f hm5 hc6; clear hm5
      refine lv_iconst (v := 0) hx hb dX4_bit_26 (by decide) ?_
      obtain rfl := Option.some.inj hm15
      rw [hQ]
      exact ct_iret hx hb hr hlk hP4 hD4 hS4 rfl dX4_bit_27
  refine lv_icmp_lt (tgt := 19) hx hb dX4_bit_11 (by decide) (fun hc16 => ?_) (fun hc16 => ?_)
  · have hm17 := bq_t hm2 hc16; clear hm2
    exact KJ2 t_fault _ _ _ hm17 hP0 hD0 hS0 (lv_sub hl0 [0] rfl)
  · have hm18 := bq_f hm2 hc16; clear hm2
    refine lv_aload_n hx hb dX4_bit_14 rfl (lv_at hl0 0 rfl) ?_
    refine lv_iconst (v := 1) hx hb dX4_bit_15 (by decide) ?_
    obtain ⟨t_fault_19, hcl20, hm20⟩ := bd1_some hm18; clear hm18
    have sb21 := ctS.mk (n := 2) (k := 0) (pre := [oB (r0 0) 4 [.ref (r0 1), .int t_size, .int t_position, .int t_fault], aI (r0 1) cB 6000 t_bytes]) (tl := []) [0] [1] [] [] rfl rfl (by decide +kernel) (by decide +kernel)
    refine ct_callv E sb21 hP0 hD0 hS0 (va_runV (As := [.int (1 : Int32)]) (rest := []) ⟨hx, hb, hml, hown, hts⟩ (c_X4_fail l D cB cI cJ cQ N r0 s.heap.size (1 : Int32) t_size t_position t_fault (t_fault_19) hcl20) (cwV 1 hts gX4_bit_X4_fail rfl rfl rfl cdV_X4_fail ⟨Nat.le_of_ble_eq_true rfl, Nat.le_of_ble_eq_true rfl⟩) (ct_preV (q0 := 0) (ci := 4) E sb21 hP0 hD0 hS0 rfl rfl) rfl rfl hl0.1 rfl (lv_room (Nat.le_of_ble_eq_true rfl)) dX4_bit_16 ⟨Nat.zero_le _, Nat.zero_le _⟩) (fun H22 lc22 hP22 hD22 hS22 => ?_); clear sb21 hcl20
    clear hP0 hD0 hS0
    have hP22 : va_P D vwCl (wf [aI (r0 1) cB 6000 t_bytes, oB (r0 0) 4 [.ref (r0 1), .int t_size, .int t_position, .int t_fault_19]] []) H22 := hP22
    have hD22 : va_D A (wf [aI (r0 1) cB 6000 t_bytes, oB (r0 0) 4 [.ref (r0 1), .int t_size, .int t_position, .int t_fault_19]] []) := hD22
    obtain ⟨hP23, hD23⟩ := ct_ord (n := 2) (k := 0) [1, 0] [] hP22 hD22 rfl rfl (by decide +kernel) (by decide +kernel)
    have hS23 := hS22
    have hP23 : va_P D vwCl (wf [oB (r0 0) 4 [.ref (r0 1), .int t_size, .int t_position, .int t_fault_19], aI (r0 1) cB 6000 t_bytes] []) H22 := hP23
    have hD23 : va_D A (wf [oB (r0 0) 4 [.ref (r0 1), .int t_size, .int t_position, .int t_fault_19], aI (r0 1) cB 6000 t_bytes] []) := hD23
    exact KJ2 t_fault_19 _ _ _ hm20 hP23 hD23 hS23 (lv_sub hl0 [0] rfl)

def f_X4_number_L4 (x1 : Int32) (t_size : Int32) (t_bytes : Nat → Int32) : Nat → Int32 → Int32 → Int32 → Int32 → Option (Int32 × Int32 × Int32)
  | 0, _, _, _, _ => none
  | n + 1, t_position_4, t_fault_5, v2_6, v3_7 =>
  (if x1 ≤ v3_7 then
  (some (t_position_4, t_fault_5, v2_6))
  else
  (bd3 (f_X4_bit t_size t_position_4 t_fault_5 t_bytes) fun y_14 t_position_15 t_fault_16 =>
  nm ((((2 : Int32) * v2_6) + y_14) : Int32) fun v2_20 =>
  nm (v3_7 + (1 : Int32) : Int32) fun v3_23 =>
  f_X4_number_L4 x1 t_size t_bytes n t_position_15 t_fault_16 v2_20 v3_23))

def f_X4_number (x1 : Int32) (t_size : Int32) (t_position : Int32) (t_fault : Int32) (t_bytes : Nat → Int32) : Option (Int32 × Int32 × Int32) :=
  bd3 (f_X4_number_L4 x1 t_size t_bytes 4000 t_position t_fault (0 : Int32) (0 : Int32)) fun t_position_26 t_fault_27 v2_28 =>
  some (v2_28, t_position_26, t_fault_27)

abbrev rm_X4_number : Room := { frames := 2, cells := 0, slots := 0, locals := 42 }

theorem cdS_X4_number : yX4_number.cls ≠ "java/lang/invoke/MethodHandle" ∧ yX4_number.cls ≠ "java/lang/invoke/VarHandle" ∧ (parseMethodDescriptor yX4_number.desc).map (fun d => d.parameters.length) = some 1 := by decide +kernel

theorem cdV_X4_number : yX4_number.cls = RX4 ∧ yX4_number.cls ≠ "java/lang/invoke/MethodHandle" ∧ yX4_number.cls ≠ "java/lang/invoke/VarHandle" ∧ (parseMethodDescriptor yX4_number.desc).map (fun d => d.parameters.length) = some 1 := ⟨rfl, cdS_X4_number⟩

set_option maxHeartbeats 40000000 in
set_option maxRecDepth 100000 in
theorem c_X4_number (l : Launch) (D : va_G) (cB cI cJ cQ : ClassId) (N : Nat) (r0 : Nat → Nat) (sz : Nat) (x1 : Int32) (t_size : Int32) (t_position : Int32) (t_fault : Int32) (t_bytes : Nat → Int32) (o : Int32 × Int32 × Int32) (hm0 : f_X4_number x1 t_size t_position t_fault t_bytes = some o) : Met l yX4_number wsX4_number rm_X4_number (ctP D cB cI cJ cQ N sz [.ref (r0 0), .int x1] (wf [oB (r0 0) 4 [.ref (r0 1), .int t_size, .int t_position, .int t_fault], aI (r0 1) cB 6000 t_bytes] [])) (ctQi D (o.1) (wf [oB (r0 0) 4 [.ref (r0 1), .int t_size, .int (o.2.1), .int (o.2.2)], aI (r0 1) cB 6000 t_bytes] []) (va_A (wf [oB (r0 0) 4 [.ref (r0 1), .int t_size, .int t_position, .int t_fault], aI (r0 1) cB 6000 t_bytes] []) sz)) 0 0 (va_A (wf [oB (r0 0) 4 [.ref (r0 1), .int t_size, .int t_position, .int t_fault], aI (r0 1) cB 6000 t_bytes] []) sz) := by
  refine ct_of (cc := cX4_number) (maxL := 4) (ret := (some .int)) (own := RX4) (Qp := ctQi D (o.1) (wf [oB (r0 0) 4 [.ref (r0 1), .int t_size, .int (o.2.1), .int (o.2.2)], aI (r0 1) cB 6000 t_bytes] [])) (by decide) rfl rfl (Nat.le_of_ble_eq_true rfl) ?_
  intro p e s m args below meth c A hx hb hr hml hown hts hlk hnm hsz hAe E hP0 hD0 hS0 ls0 hl0
  subst hsz
  have hl0 : lv_has ls0 4 [(0, .ref (r0 0)), (1, .int x1)] := hl0
  obtain ⟨QQ, hQ⟩ : ∃ Q : State → Prop, Q = MQ below (ctQi D (o.1) (wf [oB (r0 0) 4 [.ref (r0 1), .int t_size, .int (o.2.1), .int (o.2.2)], aI (r0 1) cB 6000 t_bytes] []) A) args s 0 0 A := ⟨_, rfl⟩
  rw [← hQ]
  unfold f_X4_number at hm0
  refine lv_iconst (v := 0) hx hb dX4_number_0 (by decide) ?_
  refine lv_istore_n (lv' := [(2, .int (0 : Int32)), (0, .ref (r0 0)), (1, .int x1)]) hx hb dX4_number_1 rfl hl0 (by decide) rfl (fun ls1 hl1 => ?_); clear hl0
  refine lv_iconst (v := 0) hx hb dX4_number_2 (by decide) ?_
  refine lv_istore_n (lv' := [(3, .int (0 : Int32)), (2, .int (0 : Int32)), (0, .ref (r0 0)), (1, .int x1)]) hx hb dX4_number_3 rfl hl1 (by decide) rfl (fun ls2 hl2 => ?_); clear hl1
  obtain ⟨t_position_26, t_fault_27, v2_28, hlp3, hm29⟩ := bd3_some hm0; clear hm0
  have LP3 : ∀ (n : Nat) (t_position_4 : Int32) (t_fault_5 : Int32) (v2_6 : Int32) (v3_7 : Int32) (z3 : Int32 × Int32 × Int32) (H8 : Heap) (lc8 : List Loc) (ls8 : Array Slot), f_X4_number_L4 x1 t_size t_bytes n t_position_4 t_fault_5 v2_6 v3_7 = some z3 → va_P D vwCl (wf [oB (r0 0) 4 [.ref (r0 1), .int t_size, .int t_position_4, .int t_fault_5], aI (r0 1) cB 6000 t_bytes] []) H8 → va_D A (wf [oB (r0 0) 4 [.ref (r0 1), .int t_size, .int t_position_4, .int t_fault_5], aI (r0 1) cB 6000 t_bytes] []) → va_S A s.heap H8 lc8 → lv_has ls8 4 [(0, .ref (r0 0)), (1, .int x1), (2, .int v2_6), (3, .int v3_7)] → (∀ (H : Heap) (lc : List Loc) (ls : Array Slot), va_P D vwCl (wf [oB (r0 0) 4 [.ref (r0 1), .int t_size, .int (z3.1), .int (z3.2.1)], aI (r0 1) cB 6000 t_bytes] []) H → va_D A (wf [oB (r0 0) 4 [.ref (r0 1), .int t_size, .int (z3.1), .int (z3.2.1)], aI (r0 1) cB 6000 t_bytes] []) → va_S A s.heap H lc → lv_has ls 4 [(2, .int (z3.2.2))] → W p l e rm_X4_number s m args below meth c H lc 0 0 QQ (F0 m 24 ls [])) → W p l e rm_X4_number s m args below meth c H8 lc8 0 0 QQ (F0 m 4 ls8 []) := by
    intro n
    induction n with
    | zero =>
      intro t_position_4 t_fault_5 v2_6 v3_7 z3 H8 lc8 ls8 hm10; simp [f_X4_number_L4] at hm10
    | succ n ih =>
      intro t_position_4 t_fault_5 v2_6 v3_7 z3 H8 lc8 ls8 hm10 hP8 hD8 hS8 hl8 kx
      rw [f_X4_number_L4] at hm10
      refine lv_iload_n hx hb dX4_number_4 rfl (lv_at hl8 3 rfl) ?_
      refine lv_iload_n hx hb dX4_number_5 rfl (lv_at hl8 1 rfl) ?_
      refine lv_icmp_ge (tgt := 24) hx hb dX4_number_6 (by decide) (fun hc11 => ?_) (fun hc11 => ?_)
      · have hm12 := bq_t hm10 hc11; clear hm10
        obtain rfl := Option.some.inj hm12
        exact kx _ _ _ hP8 hD8 hS8 (lv_sub hl8 [2] rfl)
      · have hm13 := bq_f hm10 hc11; clear hm10
        refine lv_iconst (v := 2) hx hb dX4_number_9 (by decide) ?_
        refine lv_iload_n hx hb dX4_number_10 rfl (lv_at hl8 2 rfl) ?_
        refine lv_imul hx hb dX4_number_11 ?_
        refine lv_aload_n hx hb dX4_number_12 rfl (lv_at hl8 0 rfl) ?_
        obtain ⟨y_14, t_position_15, t_fault_16, hcl17, hm17⟩ := bd3_some hm13; clear hm13
        have sb18 := ctS.mk (n := 2) (k := 0) (pre := [oB (r0 0) 4 [.ref (r0 1), .int t_size, .int t_position_4, .int t_fault_5], aI (r0 1) cB 6000 t_bytes]) (tl := []) [0, 1] [] [] [] rfl rfl (by decide +kernel) (by decide +kernel)
        refine ct_calli (r := y_14) E sb18 hP8 hD8 hS8 (va_runV (As := []) (rest := [.int ((2 : Int32) * v2_6)]) ⟨hx, hb, hml, hown, hts⟩ (c_X4_bit l D cB cI cJ cQ N r0 H8.size t_size t_position_4 t_fault_5 t_bytes (y_14, t_position_15, t_fault_16) hcl17) (cwV 0 hts gX4_number_X4_bit rfl rfl rfl cdV_X4_bit ⟨Nat.le_of_ble_eq_true rfl, Nat.le_of_ble_eq_true rfl⟩) (ct_preV (q0 := 0) (ci := 4) E sb18 hP8 hD8 hS8 rfl rfl) rfl rfl hl8.1 rfl (lv_room (Nat.le_of_ble_eq_true rfl)) dX4_number_13 ⟨Nat.zero_le _, Nat.zero_le _⟩) (fun H19 lc19 hP19 hD19 hS19 => ?_); clear sb18 hcl17
        clear hP8 hD8 hS8
        have hP19 : va_P D vwCl (wf [oB (r0 0) 4 [.ref (r0 1), .int t_size, .int t_position_15, .int t_fault_16], aI (r0 1) cB 6000 t_bytes] []) H19 := hP19
        have hD19 : va_D A (wf [oB (r0 0) 4 [.ref (r0 1), .int t_size, .int t_position_15, .int t_fault_16], aI (r0 1) cB 6000 t_bytes] []) := hD19
        refine lv_iadd hx hb dX4_number_16 ?_
        obtain ⟨v2_20, ev2_20, hm21⟩ := nm_some hm17; clear hm17
        refine ct_topi ev2_20 ?_
        refine lv_istore_n (lv' := [(2, .int v2_20), (0, .ref (r0 0)), (1, .int x1), (3, .int v3_7)]) hx hb dX4_number_17 rfl hl8 (by decide) rfl (fun ls22 hl22 => ?_); clear hl8
        obtain ⟨v3_23, ev3_23, hm24⟩ := nm_some hm21; clear hm21
        refine lv_iinc (v := v3_23) (lv' := [(3, .int v3_23), (2, .int v2_20), (0, .ref (r0 0)), (1, .int x1)]) hx hb dX4_number_18 hl22 (k := 3) rfl (by rw [ev3_23]; rfl) (by decide) rfl (fun ls25 hl25 => ?_); clear hl22
        refine lv_goto (tgt := 4) hx hb dX4_number_21 (by decide) ?_
        exact ih t_position_15 t_fault_16 v2_20 v3_23 _ _ _ _ hm24 hP19 hD19 hS19 (lv_sub hl25 [2, 3, 1, 0] rfl) kx
  refine LP3 4000 t_position t_fault (0 : Int32) (0 : Int32) (t_position_26, t_fault_27, v2_28) _ _ _ hlp3 hP0 hD0 hS0 (lv_sub hl2 [2, 3, 1, 0] rfl) (fun H30 lc30 ls30 hP30 hD30 hS30 hl30 => ?_); clear LP3 hlp3
  clear hP0 hD0 hS0
  have hl30 : lv_has ls30 4 [(2, .int v2_28)] := hl30
  have hP30 : va_P D vwCl (wf [oB (r0 0) 4 [.ref (r0 1), .int t_size, .int t_position_26, .int t_fault_27], aI (r0 1) cB 6000 t_bytes] []) H30 := hP30
  have hD30 : va_D A (wf [oB (r0 0) 4 [.ref (r0 1), .int t_size, .int t_position_26, .int t_fault_27], aI (r0 1) cB 6000 t_bytes] []) := hD30
  refine lv_iload_n hx hb dX4_number_24 rfl (lv_at hl30 0 rfl) ?_
  obtain rfl := Option.some.inj hm29
  rw [hQ]
  exact ct_iret hx hb hr hlk hP30 hD30 hS30 rfl dX4_number_25
