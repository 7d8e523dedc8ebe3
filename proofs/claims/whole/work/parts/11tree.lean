def f_X5_tokenCount (e_tokenCount : Int32) : Option (Int32) :=
  some (e_tokenCount)

abbrev rm_X5_tokenCount : Room := { frames := 0, cells := 0, slots := 0, locals := 0 }

theorem cdS_X5_tokenCount : yX5_tokenCount.cls ≠ "java/lang/invoke/MethodHandle" ∧ yX5_tokenCount.cls ≠ "java/lang/invoke/VarHandle" ∧ (parseMethodDescriptor yX5_tokenCount.desc).map (fun d => d.parameters.length) = some 0 := by decide +kernel

theorem cdV_X5_tokenCount : yX5_tokenCount.cls = RX5 ∧ yX5_tokenCount.cls ≠ "java/lang/invoke/MethodHandle" ∧ yX5_tokenCount.cls ≠ "java/lang/invoke/VarHandle" ∧ (parseMethodDescriptor yX5_tokenCount.desc).map (fun d => d.parameters.length) = some 0 := ⟨rfl, cdS_X5_tokenCount⟩

theorem hi_X5_tokenCount_5 : ∀ w ∈ u_ws RX5 TX5 4, w ∈ wsX5_tokenCount := fun _ h => List.mem_cons_of_mem _ (List.mem_append_right _ h)

set_option maxHeartbeats 40000000 in
set_option maxRecDepth 100000 in
theorem c_X5_tokenCount (l : Launch) (D : va_G) (cB cI cJ cQ : ClassId) (N : Nat) (r0 : Nat → Nat) (sz : Nat) (e_nodeCount : Int32) (e_tokenCount : Int32) (e_root : Int32) (o : Int32) (hm0 : f_X5_tokenCount e_tokenCount = some o) : Met l yX5_tokenCount wsX5_tokenCount rm_X5_tokenCount (ctP D cB cI cJ cQ N sz [.ref (r0 0)] (wf [oB (r0 0) 5 [.ref (r0 1), .int e_nodeCount, .int e_tokenCount, .int e_root]] [])) (ctQi D o (wf [oB (r0 0) 5 [.ref (r0 1), .int e_nodeCount, .int e_tokenCount, .int e_root]] []) (va_A (wf [oB (r0 0) 5 [.ref (r0 1), .int e_nodeCount, .int e_tokenCount, .int e_root]] []) sz)) 0 0 (va_A (wf [oB (r0 0) 5 [.ref (r0 1), .int e_nodeCount, .int e_tokenCount, .int e_root]] []) sz) := by
  refine ct_of (cc := cX5_tokenCount) (maxL := 1) (ret := (some .int)) (own := RX5) (Qp := ctQi D o (wf [oB (r0 0) 5 [.ref (r0 1), .int e_nodeCount, .int e_tokenCount, .int e_root]] [])) (by decide) rfl rfl (Nat.le_of_ble_eq_true rfl) ?_
  intro p e s m args below meth c A hx hb hr hml hown hts hlk hnm hsz hAe E hP0 hD0 hS0 ls0 hl0
  subst hsz
  have hl0 : lv_has ls0 1 [(0, .ref (r0 0))] := hl0
  obtain ⟨QQ, hQ⟩ : ∃ Q : State → Prop, Q = MQ below (ctQi D o (wf [oB (r0 0) 5 [.ref (r0 1), .int e_nodeCount, .int e_tokenCount, .int e_root]] []) A) args s 0 0 A := ⟨_, rfl⟩
  rw [← hQ]
  unfold f_X5_tokenCount at hm0
  refine lv_aload_n hx hb dX5_tokenCount_0 rfl (lv_at hl0 0 rfl) ?_
  refine va_get (D := D) (ci := 5) (v := .int e_tokenCount) (C := RX5) (T := TX5) (N := 4) hx hb hts hi_X5_tokenCount_5 hown E.1 hP0 0 rfl rfl 2 (by decide) (hts _ (List.mem_of_getElem? (i := 1) rfl)) (fun _ h9 => h9) rfl dX5_tokenCount_1 ?_
  obtain rfl := Option.some.inj hm0
  rw [hQ]
  exact ct_iret hx hb hr hlk hP0 hD0 hS0 rfl dX5_tokenCount_4

def f_X5_readLeaf (e_tokenCount : Int32) (t_size : Int32) (t_position : Int32) (t_fault : Int32) (t_bytes : Nat → Int32) : Option (Int32 × Int32 × Int32 × Int32) :=
  jn (fun (k2 : Int32 → Option (Int32 × Int32 × Int32 × Int32)) => (if e_tokenCount < (32 : Int32) then
  (k2 t_fault)
  else
  (bd1 (f_X4_fail (3 : Int32) t_fault) fun t_fault_18 =>
  k2 t_fault_18))) fun t_fault_3 =>
  nm ((e_tokenCount + (1 : Int32)) : Int32) fun e_tokenCount_6 =>
  bd3 (f_X4_number (5 : Int32) t_size t_position t_fault_3 t_bytes) fun y_9 t_position_10 t_fault_11 =>
  some (((-1 : Int32) - y_9), e_tokenCount_6, t_position_10, t_fault_11)

abbrev rm_X5_readLeaf : Room := { frames := 3, cells := 0, slots := 0, locals := 65 }

theorem cdS_X5_readLeaf : yX5_readLeaf.cls ≠ "java/lang/invoke/MethodHandle" ∧ yX5_readLeaf.cls ≠ "java/lang/invoke/VarHandle" ∧ (parseMethodDescriptor yX5_readLeaf.desc).map (fun d => d.parameters.length) = some 1 := by decide +kernel

theorem cdV_X5_readLeaf : yX5_readLeaf.cls = RX5 ∧ yX5_readLeaf.cls ≠ "java/lang/invoke/MethodHandle" ∧ yX5_readLeaf.cls ≠ "java/lang/invoke/VarHandle" ∧ (parseMethodDescriptor yX5_readLeaf.desc).map (fun d => d.parameters.length) = some 1 := ⟨rfl, cdS_X5_readLeaf⟩

theorem hi_X5_readLeaf_5 : ∀ w ∈ u_ws RX5 TX5 4, w ∈ wsX5_readLeaf := fun _ h => List.mem_cons_of_mem _ (List.mem_append_left _ (List.mem_append_right _ h))

set_option maxHeartbeats 40000000 in
set_option maxRecDepth 100000 in
theorem c_X5_readLeaf (l : Launch) (D : va_G) (cB cI cJ cQ : ClassId) (N : Nat) (r0 : Nat → Nat) (r1 : Nat → Nat) (sz : Nat) (e_nodeCount : Int32) (e_tokenCount : Int32) (e_root : Int32) (t_size : Int32) (t_position : Int32) (t_fault : Int32) (t_bytes : Nat → Int32) (o : Int32 × Int32 × Int32 × Int32) (hm0 : f_X5_readLeaf e_tokenCount t_size t_position t_fault t_bytes = some o) : Met l yX5_readLeaf wsX5_readLeaf rm_X5_readLeaf (ctP D cB cI cJ cQ N sz [.ref (r0 0), .ref (r1 0)] (wf [oB (r0 0) 5 [.ref (r0 1), .int e_nodeCount, .int e_tokenCount, .int e_root], oB (r1 0) 4 [.ref (r1 1), .int t_size, .int t_position, .int t_fault], aI (r1 1) cB 6000 t_bytes] [])) (ctQi D (o.1) (wf [oB (r0 0) 5 [.ref (r0 1), .int e_nodeCount, .int (o.2.1), .int e_root], oB (r1 0) 4 [.ref (r1 1), .int t_size, .int (o.2.2.1), .int (o.2.2.2)], aI (r1 1) cB 6000 t_bytes] []) (va_A (wf [oB (r0 0) 5 [.ref (r0 1), .int e_nodeCount, .int e_tokenCount, .int e_root], oB (r1 0) 4 [.ref (r1 1), .int t_size, .int t_position, .int t_fault], aI (r1 1) cB 6000 t_bytes] []) sz)) 0 0 (va_A (wf [oB (r0 0) 5 [.ref (r0 1), .int e_nodeCount, .int e_tokenCount, .int e_root], oB (r1 0) 4 [.ref (r1 1), .int t_size, .int t_position, .int t_fault], aI (r1 1) cB 6000 t_bytes] []) sz) := by
  refine ct_of (cc := cX5_readLeaf) (maxL := 2) (ret := (some .int)) (own := RX5) (Qp := ctQi D (o.1) (wf [oB (r0 0) 5 [.ref (r0 1), .int e_nodeCount, .int (o.2.1), .int e_root], oB (r1 0) 4 [.ref (r1 1), .int t_size, .int (o.2.2.1), .int (o.2.2.2)], aI (r1 1) cB 6000 t_bytes] [])) (by decide) rfl rfl (Nat.le_of_ble_eq_true rfl) ?_
  intro p e s m args below meth c A hx hb hr hml hown hts hlk hnm hsz hAe E hP0 hD0 hS0 ls0 hl0
  subst hsz
  have hl0 : lv_has ls0 2 [(0, .ref (r0 0)), (1, .ref (r1 0))] := hl0
  obtain ⟨QQ, hQ⟩ : ∃ Q : State → Prop, Q = MQ below (ctQi D (o.1) (wf [oB (r0 0) 5 [.ref (r0 1), .int e_nodeCount, .int (o.2.1), .int e_root], oB (r1 0) 4 [.ref (r1 1), .int t_size, .int (o.2.2.1), .int (o.2.2.2)], aI (r1 1) cB 6000 t_bytes] []) A) args s 0 0 A := ⟨_, rfl⟩
  rw [← hQ]
  unfold f_X5_readLeaf at hm0
  refine lv_aload_n hx hb dX5_readLeaf_0 rfl (lv_at hl0 0 rfl) ?_
  refine va_get (D := D) (ci := 5) (v := .int e_tokenCount) (C := RX5) (T := TX5) (N := 4) hx hb hts hi_X5_readLeaf_5 hown E.1 hP0 0 rfl rfl 2 (by decide) (hts _ (List.mem_of_getElem? (i := 1) rfl)) (fun _ h9 => h9) rfl dX5_readLeaf_1 ?_
  refine lv_bipush (v := 32) hx hb dX5_readLeaf_4 (by decide) ?_
  obtain ⟨k2, ek2, hm2⟩ := jn_some hm0; clear hm0
  have KJ2 : ∀ (t_fault_3 : Int32) (H4 : Heap) (lc4 : List Loc) (ls4 : Array Slot), k2 t_fault_3 = some o → va_P D vwCl (wf [oB (r0 0) 5 [.ref (r0 1), .int e_nodeCount, .int e_tokenCount, .int e_root], oB (r1 0) 4 [.ref (r1 1), .int t_size, .int t_position, .int t_fault_3], aI (r1 1) cB 6000 t_bytes] []) H4 → va_D A (wf [oB (r0 0) 5 [.ref (r0 1), .int e_nodeCount, .int e_tokenCount, .int e_root], oB (r1 0) 4 [.ref (r1 1), .int t_size, .int t_position, .int t_fault_3], aI (r1 1) cB 6000 t_bytes] []) → va_S A s.heap H4 lc4 → lv_has ls4 2 [(0, .ref (r0 0)), (1, .ref (r1 0))] → W p l e rm_X5_readLeaf s m args below meth c H4 lc4 0 0 QQ (F0 m 14 ls4 []) := by
    intro t_fault_3 H4 lc4 ls4 hm5 hP4 hD4 hS4 hl4
    rw [ek2] at hm5
    refine lv_aload_n hx hb dX5_readLeaf_14 rfl (lv_at hl4 0 rfl) ?_
    refine lv_dup hx hb dX5_readLeaf_15 rfl ?_
    refine va_get (D := D) (ci := 5) (v := .int e_tokenCount) (C := RX5) (T := TX5) (N := 4) hx hb hts hi_X5_readLeaf_5 hown E.1 hP4 0 rfl rfl 2 (by decide) (hts _ (List.mem_of_getElem? (i := 1) rfl)) (fun _ h9 => h9) rfl dX5_readLeaf_16 ?_
    refine lv_iconst (v := 1) hx hb dX5_readLeaf_19 (by decide) ?_
    refine lv_iadd hx hb dX5_readLeaf_20 ?_
    obtain ⟨e_tokenCount_6, ee_tokenCount_6, hm7⟩ := nm_some hm5; clear hm5
    refine ct_topi ee_tokenCount_6 ?_
    refine ct_put (D := D) (ci := 5) (v := .int e_tokenCount_6) (ty := .int) (C := RX5) (T := TX5) (N := 4) (ws' := (wf [oB (r0 0) 5 [.ref (r0 1), .int e_nodeCount, .int e_tokenCount_6, .int e_root], oB (r1 0) 4 [.ref (r1 1), .int t_size, .int t_position, .int t_fault_3], aI (r1 1) cB 6000 t_bytes] [])) hx hb hts hi_X5_readLeaf_5 tyX5 tyX5_ok nmX5 hown E.1 hP4 hD4 hS4 0 rfl rfl 2 (by decide) (hts _ (List.mem_of_getElem? (i := 1) rfl)) (fun _ h9 => h9) rfl (by decide +kernel) rfl rfl (Nat.le_of_ble_eq_true rfl) rfl dX5_readLeaf_21 (fun H8 lc8 hP8 hD8 hS8 => ?_)
    clear hP4 hD4 hS4
    refine lv_iconst (v := -1) hx hb dX5_readLeaf_24 (by decide) ?_
    refine lv_aload_n hx hb dX5_readLeaf_25 rfl (lv_at hl4 1 rfl) ?_
    refine lv_iconst (v := 5) hx hb dX5_readLeaf_26 (by decide) ?_
    obtain ⟨y_9, t_position_10, t_fault_11, hcl12, hm12⟩ := bd3_some hm7; clear hm7
    have sb13 := ctS.mk (n := 3) (k := 0) (pre := [oB (r0 0) 5 [.ref (r0 1), .int e_nodeCount, .int e_tokenCount_6, .int e_root], oB (r1 0) 4 [.ref (r1 1), .int t_size, .int t_position, .int t_fault_3], aI (r1 1) cB 6000 t_bytes]) (tl := []) [1, 2] [0] [] [] rfl rfl (by decide +kernel) (by decide +kernel)
    refine ct_calli (r := y_9) E sb13 hP8 hD8 hS8 (va_runV (As := [.int (5 : Int32)]) (rest := [.int (-1 : Int32)]) ⟨hx, hb, hml, hown, hts⟩ (c_X4_number l D cB cI cJ cQ N r1 H8.size (5 : Int32) t_size t_position t_fault_3 t_bytes (y_9, t_position_10, t_fault_11) hcl12) (cwV 1 hts gX5_readLeaf_X4_number rfl rfl rfl cdV_X4_number ⟨Nat.le_of_ble_eq_true rfl, Nat.le_of_ble_eq_true rfl⟩) (ct_preV (q0 := 1) (ci := 4) E sb13 hP8 hD8 hS8 rfl rfl) rfl rfl hl4.1 rfl (lv_room (Nat.le_of_ble_eq_true rfl)) dX5_readLeaf_27 ⟨Nat.zero_le _, Nat.zero_le _⟩) (fun H14 lc14 hP14 hD14 hS14 => ?_); clear sb13 hcl12
    clear hP8 hD8 hS8
    have hP14 : va_P D vwCl (wf [oB (r0 0) 5 [.ref (r0 1), .int e_nodeCount, .int e_tokenCount_6, .int e_root], oB (r1 0) 4 [.ref (r1 1), .int t_size, .int t_position_10, .int t_fault_11], aI (r1 1) cB 6000 t_bytes] []) H14 := hP14
    have hD14 : va_D A (wf [oB (r0 0) 5 [.ref (r0 1), .int e_nodeCount, .int e_tokenCount_6, .int e_root], oB (r1 0) 4 [.ref (r1 1), .int t_size, .int t_position_10, .int t_fault_11], aI (r1 1) cB 6000 t_bytes] []) := hD14
    refine lv_isub hx hb dX5_readLeaf_30 ?_
    obtain rfl := Option.some.inj hm12
    rw [hQ]
    exact ct_iret hx hb hr hlk hP14 hD14 hS14 rfl dX5_readLeaf_31
  refine lv_icmp_lt (tgt := 14) hx hb dX5_readLeaf_6 (by decide) (fun hc15 => ?_) (fun hc15 => ?_)
  · have hm16 := bq_t hm2 hc15; clear hm2
    exact KJ2 t_fault _ _ _ hm16 hP0 hD0 hS0 (lv_sub hl0 [0, 1] rfl)
  · have hm17 := bq_f hm2 hc15; clear hm2
    refine lv_aload_n hx hb dX5_readLeaf_9 rfl (lv_at hl0 1 rfl) ?_
    refine lv_iconst (v := 3) hx hb dX5_readLeaf_10 (by decide) ?_
    obtain ⟨t_fault_18, hcl19, hm19⟩ := bd1_some hm17; clear hm17
    have sb20 := ctS.mk (n := 3) (k := 0) (pre := [oB (r0 0) 5 [.ref (r0 1), .int e_nodeCount, .int e_tokenCount, .int e_root], oB (r1 0) 4 [.ref (r1 1), .int t_size, .int t_position, .int t_fault], aI (r1 1) cB 6000 t_bytes]) (tl := []) [1] [0, 2] [] [] rfl rfl (by decide +kernel) (by decide +kernel)
    refine ct_callv E sb20 hP0 hD0 hS0 (va_runV (As := [.int (3 : Int32)]) (rest := []) ⟨hx, hb, hml, hown, hts⟩ (c_X4_fail l D cB cI cJ cQ N r1 s.heap.size (3 : Int32) t_size t_position t_fault (t_fault_18) hcl19) (cwV 1 hts gX5_readLeaf_X4_fail rfl rfl rfl cdV_X4_fail ⟨Nat.le_of_ble_eq_true rfl, Nat.le_of_ble_eq_true rfl⟩) (ct_preV (q0 := 1) (ci := 4) E sb20 hP0 hD0 hS0 rfl rfl) rfl rfl hl0.1 rfl (lv_room (Nat.le_of_ble_eq_true rfl)) dX5_readLeaf_11 ⟨Nat.zero_le _, Nat.zero_le _⟩) (fun H21 lc21 hP21 hD21 hS21 => ?_); clear sb20 hcl19
    clear hP0 hD0 hS0
    have hP21 : va_P D vwCl (wf [oB (r0 0) 5 [.ref (r0 1), .int e_nodeCount, .int e_tokenCount, .int e_root], aI (r1 1) cB 6000 t_bytes, oB (r1 0) 4 [.ref (r1 1), .int t_size, .int t_position, .int t_fault_18]] []) H21 := hP21
    have hD21 : va_D A (wf [oB (r0 0) 5 [.ref (r0 1), .int e_nodeCount, .int e_tokenCount, .int e_root], aI (r1 1) cB 6000 t_bytes, oB (r1 0) 4 [.ref (r1 1), .int t_size, .int t_position, .int t_fault_18]] []) := hD21
    obtain ⟨hP22, hD22⟩ := ct_ord (n := 3) (k := 0) [0, 2, 1] [] hP21 hD21 rfl rfl (by decide +kernel) (by decide +kernel)
    have hS22 := hS21
    have hP22 : va_P D vwCl (wf [oB (r0 0) 5 [.ref (r0 1), .int e_nodeCount, .int e_tokenCount, .int e_root], oB (r1 0) 4 [.ref (r1 1), .int t_size, .int t_position, .int t_fault_18], aI (r1 1) cB 6000 t_bytes] []) H21 := hP22
    have hD22 : va_D A (wf [oB (r0 0) 5 [.ref (r0 1), .int e_nodeCount, .int e_tokenCount, .int e_root], oB (r1 0) 4 [.ref (r1 1), .int t_size, .int t_position, .int t_fault_18], aI (r1 1) cB 6000 t_bytes] []) := hD22
    exact KJ2 t_fault_18 _ _ _ hm19 hP22 hD22 hS22 (lv_sub hl0 [0, 1] rfl)

def f_X5_readBranch : Nat → Int32 → Int32 → Int32 → (Nat → Int32) → Int32 → Int32 → Int32 → (Nat → Int32) → Option (Int32 × Int32 × Int32 × (Nat → Int32) × Int32 × Int32)
  | 0, _, _, _, _, _, _, _, _ => none
  | n + 1, x2, e_nodeCount, e_tokenCount, e_branches, t_size, t_position, t_fault, t_bytes =>
  bd3 (f_X4_bit t_size t_position t_fault t_bytes) fun y_1 t_position_2 t_fault_3 =>
  (if y_1 = (1 : Int32) then
  (bd4 (f_X5_readLeaf e_tokenCount t_size t_position_2 t_fault_3 t_bytes) fun y_69 e_tokenCount_70 t_position_71 t_fault_72 =>
  some (y_69, e_nodeCount, e_tokenCount_70, e_branches, t_position_71, t_fault_72))
  else
  (jn (fun (k10 : Int32 → Option (Int32 × Int32 × Int32 × (Nat → Int32) × Int32 × Int32)) => (if (12 : Int32) ≤ x2 then
  (bd1 (f_X4_fail (3 : Int32) t_fault_3) fun t_fault_54 =>
  k10 t_fault_54)
  else
  ((if e_nodeCount < (44 : Int32) then
  (k10 t_fault_3)
  else
  (bd1 (f_X4_fail (3 : Int32) t_fault_3) fun t_fault_63 =>
  k10 t_fault_63))))) fun t_fault_11 =>
  bd1 (f_X4_isSound t_fault_11) fun y_14 =>
  (if y_14 = (0 : Int32) then
  (some ((0 : Int32), e_nodeCount, e_tokenCount, e_branches, t_position_2, t_fault_11))
  else
  (nm ((e_nodeCount + (1 : Int32)) : Int32) fun e_nodeCount_21 =>
  bd6 (f_X5_readBranch n (x2 + (1 : Int32)) e_nodeCount_21 e_tokenCount e_branches t_size t_position_2 t_fault_11 t_bytes) fun y_24 e_nodeCount_25 e_tokenCount_26 e_branches_27 t_position_28 t_fault_29 =>
  gi ((2 : Int32) * e_nodeCount) 88 <|
  nm (upd e_branches_27 ((2 : Int32) * e_nodeCount).toNatClampNeg y_24 : Nat → Int32) fun e_branches_34 =>
  bd6 (f_X5_readBranch n (x2 + (1 : Int32)) e_nodeCount_25 e_tokenCount_26 e_branches_34 t_size t_position_28 t_fault_29 t_bytes) fun y_37 e_nodeCount_38 e_tokenCount_39 e_branches_40 t_position_41 t_fault_42 =>
  gi (((2 : Int32) * e_nodeCount) + (1 : Int32)) 88 <|
  nm (upd e_branches_40 (((2 : Int32) * e_nodeCount) + (1 : Int32)).toNatClampNeg y_37 : Nat → Int32) fun e_branches_47 =>
  some (e_nodeCount, e_nodeCount_38, e_tokenCount_39, e_branches_47, t_position_41, t_fault_42)))))

def rm_X5_readBranch (n : Nat) : Room := { frames := n + 4, cells := 0, slots := 0, locals := 40 * n + 200 }

theorem cdS_X5_readBranch : yX5_readBranch.cls ≠ "java/lang/invoke/MethodHandle" ∧ yX5_readBranch.cls ≠ "java/lang/invoke/VarHandle" ∧ (parseMethodDescriptor yX5_readBranch.desc).map (fun d => d.parameters.length) = some 3 := by decide +kernel

theorem hi_X5_readBranch_5 : ∀ w ∈ u_ws RX5 TX5 4, w ∈ wsX5_readBranch := fun _ h => List.mem_cons_of_mem _ (List.mem_append_left _ (List.mem_append_right _ h))

set_option maxHeartbeats 40000000 in
set_option maxRecDepth 100000 in
theorem c_X5_readBranch (l : Launch) (D : va_G) (cB cI cJ cQ : ClassId) (N : Nat) (r0 : Nat → Nat) (r1 : Nat → Nat) : ∀ (n : Nat) (sz : Nat) (x2 : Int32) (e_nodeCount : Int32) (e_tokenCount : Int32) (e_root : Int32) (e_branches : Nat → Int32) (t_size : Int32) (t_position : Int32) (t_fault : Int32) (t_bytes : Nat → Int32) (o : Int32 × Int32 × Int32 × (Nat → Int32) × Int32 × Int32) (hm0 : f_X5_readBranch n x2 e_nodeCount e_tokenCount e_branches t_size t_position t_fault t_bytes = some o), Met l yX5_readBranch wsX5_readBranch (rm_X5_readBranch n) (ctP D cB cI cJ cQ N sz [.ref (r0 0), .ref (r1 0), .int x2] (wf [oB (r0 0) 5 [.ref (r0 1), .int e_nodeCount, .int e_tokenCount, .int e_root], aI (r0 1) cI 88 e_branches, oB (r1 0) 4 [.ref (r1 1), .int t_size, .int t_position, .int t_fault], aI (r1 1) cB 6000 t_bytes] [])) (ctQi D (o.1) (wf [oB (r0 0) 5 [.ref (r0 1), .int (o.2.1), .int (o.2.2.1), .int e_root], aI (r0 1) cI 88 (o.2.2.2.1), oB (r1 0) 4 [.ref (r1 1), .int t_size, .int (o.2.2.2.2.1), .int (o.2.2.2.2.2)], aI (r1 1) cB 6000 t_bytes] []) (va_A (wf [oB (r0 0) 5 [.ref (r0 1), .int e_nodeCount, .int e_tokenCount, .int e_root], aI (r0 1) cI 88 e_branches, oB (r1 0) 4 [.ref (r1 1), .int t_size, .int t_position, .int t_fault], aI (r1 1) cB 6000 t_bytes] []) sz)) 0 0 (va_A (wf [oB (r0 0) 5 [.ref (r0 1), .int e_nodeCount, .int e_tokenCount, .int e_root], aI (r0 1) cI 88 e_branches, oB (r1 0) 4 [.ref (r1 1), .int t_size, .int t_position, .int t_fault], aI (r1 1) cB 6000 t_bytes] []) sz) := by
  intro n
  induction n with
  | zero =>
    intro sz x2 e_nodeCount e_tokenCount e_root e_branches t_size t_position t_fault t_bytes o hm0; simp [f_X5_readBranch] at hm0
  | succ n ih =>
    intro sz x2 e_nodeCount e_tokenCount e_root e_branches t_size t_position t_fault t_bytes o hm0
    refine ct_of (cc := cX5_readBranch) (maxL := 4) (ret := (some .int)) (own := RX5) (Qp := ctQi D (o.1) (wf [oB (r0 0) 5 [.ref (r0 1), .int (o.2.1), .int (o.2.2.1), .int e_root], aI (r0 1) cI 88 (o.2.2.2.1), oB (r1 0) 4 [.ref (r1 1), .int t_size, .int (o.2.2.2.2.1), .int (o.2.2.2.2.2)], aI (r1 1) cB 6000 t_bytes] [])) (by decide) rfl rfl (Nat.le_of_ble_eq_true rfl) ?_
    intro p e s m args below meth c A hx hb hr hml hown hts hlk hnm hsz hAe E hP0 hD0 hS0 ls0 hl0
    subst hsz
    have hl0 : lv_has ls0 4 [(0, .ref (r0 0)), (1, .ref (r1 0)), (2, .int x2)] := hl0
    obtain ⟨QQ, hQ⟩ : ∃ Q : State → Prop, Q = MQ below (ctQi D (o.1) (wf [oB (r0 0) 5 [.ref (r0 1), .int (o.2.1), .int (o.2.2.1), .int e_root], aI (r0 1) cI 88 (o.2.2.2.1), oB (r1 0) 4 [.ref (r1 1), .int t_size, .int (o.2.2.2.2.1), .int (o.2.2.2.2.2)], aI (r1 1) cB 6000 t_bytes] []) A) args s 0 0 A := ⟨_, rfl⟩
    rw [← hQ]
    rw [f_X5_readBranch] at hm0
    refine lv_aload_n hx hb dX5_readBranch_0 rfl (lv_at hl0 1 rfl) ?_
    obtain ⟨y_1, t_position_2, t_fault_3, hcl4, hm4⟩ := bd3_some hm0; clear hm0
    have sb5 := ctS.mk (n := 4) (k := 0) (pre := [oB (r0 0) 5 [.ref (r0 1), .int e_nodeCount, .int e_tokenCount, .int e_root], aI (r0 1) cI 88 e_branches, oB (r1 0) 4 [.ref (r1 1), .int t_size, .int t_position, .int t_fault], aI (r1 1) cB 6000 t_bytes]) (tl := []) [2, 3] [0, 1] [] [] rfl rfl (by decide +kernel) (by decide +kernel)
    refine ct_calli (r := y_1) E sb5 hP0 hD0 hS0 (va_runV (As := []) (rest := []) ⟨hx, hb, hml, hown, hts⟩ (c_X4_bit l D cB cI cJ cQ N r1 s.heap.size t_size t_position t_fault t_bytes (y_1, t_position_2, t_fault_3) hcl4) (cwV 0 hts gX5_readBranch_X4_bit rfl rfl rfl cdV_X4_bit ⟨by dsimp only [rm_X5_readBranch, rm_X4_bit]; omega, by dsimp only [rm_X5_readBranch, rm_X4_bit]; omega⟩) (ct_preV (q0 := 2) (ci := 4) E sb5 hP0 hD0 hS0 rfl rfl) rfl rfl hl0.1 rfl (lv_room (Nat.le_of_ble_eq_true rfl)) dX5_readBranch_1 ⟨Nat.zero_le _, Nat.zero_le _⟩) (fun H6 lc6 hP6 hD6 hS6 => ?_); clear sb5 hcl4
    clear hP0 hD0 hS0
    have hP6 : va_P D vwCl (wf [oB (r0 0) 5 [.ref (r0 1), .int e_nodeCount, .int e_tokenCount, .int e_root], aI (r0 1) cI 88 e_branches, oB (r1 0) 4 [.ref (r1 1), .int t_size, .int t_position_2, .int t_fault_3], aI (r1 1) cB 6000 t_bytes] []) H6 := hP6
    have hD6 : va_D A (wf [oB (r0 0) 5 [.ref (r0 1), .int e_nodeCount, .int e_tokenCount, .int e_root], aI (r0 1) cI 88 e_branches, oB (r1 0) 4 [.ref (r1 1), .int t_size, .int t_position_2, .int t_fault_3], aI (r1 1) cB 6000 t_bytes] []) := hD6
    refine lv_iconst (v := 1) hx hb dX5_readBranch_4 (by decide) ?_
    refine lv_icmp_ne (tgt := 14) hx hb dX5_readBranch_5 (by decide) (fun hc7 => ?_) (fun hc7 => ?_)
    · have hm8 := bq_f hm4 hc7; clear hm4
      refine lv_iload_n hx hb dX5_readBranch_14 rfl (lv_at hl0 2 rfl) ?_
      refine lv_bipush (v := 12) hx hb dX5_readBranch_15 (by decide) ?_
      obtain ⟨k10, ek10, hm10⟩ := jn_some hm8; clear hm8
      have KJ10 : ∀ (t_fault_11 : Int32) (H12 : Heap) (lc12 : List Loc) (ls12 : Array Slot), k10 t_fault_11 = some o → va_P D vwCl (wf [oB (r0 0) 5 [.ref (r0 1), .int e_nodeCount, .int e_tokenCount, .int e_root], aI (r0 1) cI 88 e_branches, oB (r1 0) 4 [.ref (r1 1), .int t_size, .int t_position_2, .int t_fault_11], aI (r1 1) cB 6000 t_bytes] []) H12 → va_D A (wf [oB (r0 0) 5 [.ref (r0 1), .int e_nodeCount, .int e_tokenCount, .int e_root], aI (r0 1) cI 88 e_branches, oB (r1 0) 4 [.ref (r1 1), .int t_size, .int t_position_2, .int t_fault_11], aI (r1 1) cB 6000 t_bytes] []) → va_S A s.heap H12 lc12 → lv_has ls12 4 [(0, .ref (r0 0)), (1, .ref (r1 0)), (2, .int x2)] → W p l e (rm_X5_readBranch (n + 1)) s m args below meth c H12 lc12 0 0 QQ (F0 m 34 ls12 []) := by
        intro t_fault_11 H12 lc12 ls12 hm13 hP12 hD12 hS12 hl12
        rw [ek10] at hm13
        refine lv_aload_n hx hb dX5_readBranch_34 rfl (lv_at hl12 1 rfl) ?_
        obtain ⟨y_14, hcl15, hm15⟩ := bd1_some hm13; clear hm13
        have sb16 := ctS.mk (n := 4) (k := 0) (pre := [oB (r0 0) 5 [.ref (r0 1), .int e_nodeCount, .int e_tokenCount, .int e_root], aI (r0 1) cI 88 e_branches, oB (r1 0) 4 [.ref (r1 1), .int t_size, .int t_position_2, .int t_fault_11], aI (r1 1) cB 6000 t_bytes]) (tl := []) [2] [0, 1, 3] [] [] rfl rfl (by decide +kernel) (by decide +kernel)
        refine ct_calli (r := y_14) E sb16 hP12 hD12 hS12 (va_runV (As := []) (rest := []) ⟨hx, hb, hml, hown, hts⟩ (c_X4_isSound l D cB cI cJ cQ N r1 H12.size t_size t_position_2 t_fault_11 (y_14) hcl15) (cwV 0 hts gX5_readBranch_X4_isSound rfl rfl rfl cdV_X4_isSound ⟨by dsimp only [rm_X5_readBranch, rm_X4_isSound]; omega, by dsimp only [rm_X5_readBranch, rm_X4_isSound]; omega⟩) (ct_preV (q0 := 2) (ci := 4) E sb16 hP12 hD12 hS12 rfl rfl) rfl rfl hl12.1 rfl (lv_room (Nat.le_of_ble_eq_true rfl)) dX5_readBranch_35 ⟨Nat.zero_le _, Nat.zero_le _⟩) (fun H17 lc17 hP17 hD17 hS17 => ?_); clear sb16 hcl15
        clear hP12 hD12 hS12
        have hP17 : va_P D vwCl (wf [oB (r0 0) 5 [.ref (r0 1), .int e_nodeCount, .int e_tokenCount, .int e_root], aI (r0 1) cI 88 e_branches, aI (r1 1) cB 6000 t_bytes, oB (r1 0) 4 [.ref (r1 1), .int t_size, .int t_position_2, .int t_fault_11]] []) H17 := hP17
        have hD17 : va_D A (wf [oB (r0 0) 5 [.ref (r0 1), .int e_nodeCount, .int e_tokenCount, .int e_root], aI (r0 1) cI 88 e_branches, aI (r1 1) cB 6000 t_bytes, oB (r1 0) 4 [.ref (r1 1), .int t_size, .int t_position_2, .int t_fault_11]] []) := hD17
        refine lv_if_ne (tgt := 43) hx hb dX5_readBranch_38 (by decide) (fun hc18 => ?_) (fun hc18 => ?_)
        · have hm19 := bq_f hm15 hc18; clear hm15
          refine lv_aload_n hx hb dX5_readBranch_43 rfl (lv_at hl12 0 rfl) ?_
          refine va_get (D := D) (ci := 5) (v := .int e_nodeCount) (C := RX5) (T := TX5) (N := 4) hx hb hts hi_X5_readBranch_5 hown E.1 hP17 0 rfl rfl 1 (by decide) (hts _ (List.mem_of_getElem? (i := 1) rfl)) (fun _ h9 => h9) rfl dX5_readBranch_44 ?_
          refine lv_istore_n (lv' := [(3, .int e_nodeCount), (0, .ref (r0 0)), (1, .ref (r1 0)), (2, .int x2)]) hx hb dX5_readBranch_47 rfl hl12 (by decide) rfl (fun ls20 hl20 => ?_); clear hl12
          refine lv_aload_n hx hb dX5_readBranch_48 rfl (lv_at hl20 1 rfl) ?_
          refine lv_dup hx hb dX5_readBranch_49 rfl ?_
          refine va_get (D := D) (ci := 5) (v := .int e_nodeCount) (C := RX5) (T := TX5) (N := 4) hx hb hts hi_X5_readBranch_5 hown E.1 hP17 0 rfl rfl 1 (by decide) (hts _ (List.mem_of_getElem? (i := 1) rfl)) (fun _ h9 => h9) rfl dX5_readBranch_50 ?_
          refine lv_iconst (v := 1) hx hb dX5_readBranch_53 (by decide) ?_
          refine lv_iadd hx hb dX5_readBranch_54 ?_
          obtain ⟨e_nodeCount_21, ee_nodeCount_21, hm22⟩ := nm_some hm19; clear hm19
          refine ct_topi ee_nodeCount_21 ?_
          refine ct_put (D := D) (ci := 5) (v := .int e_nodeCount_21) (ty := .int) (C := RX5) (T := TX5) (N := 4) (ws' := (wf [oB (r0 0) 5 [.ref (r0 1), .int e_nodeCount_21, .int e_tokenCount, .int e_root], aI (r0 1) cI 88 e_branches, aI (r1 1) cB 6000 t_bytes, oB (r1 0) 4 [.ref (r1 1), .int t_size, .int t_position_2, .int t_fault_11]] [])) hx hb hts hi_X5_readBranch_5 tyX5 tyX5_ok nmX5 hown E.1 hP17 hD17 hS17 0 rfl rfl 1 (by decide) (hts _ (List.mem_of_getElem? (i := 1) rfl)) (fun _ h9 => h9) rfl (by decide +kernel) rfl rfl (Nat.le_of_ble_eq_true rfl) rfl dX5_readBranch_55 (fun H23 lc23 hP23 hD23 hS23 => ?_)
          clear hP17 hD17 hS17
          refine lv_aload_n hx hb dX5_readBranch_58 rfl (lv_at hl20 1 rfl) ?_
          refine va_get (D := D) (ci := 5) (v := .ref (r0 1)) (C := RX5) (T := TX5) (N := 4) hx hb hts hi_X5_readBranch_5 hown E.1 hP23 0 rfl rfl 0 (by decide) (hts _ (List.mem_of_getElem? (i := 2) rfl)) (fun _ h9 => h9) rfl dX5_readBranch_59 ?_
          refine lv_iconst (v := 2) hx hb dX5_readBranch_62 (by decide) ?_
          refine lv_iload_n hx hb dX5_readBranch_63 rfl (lv_at hl20 0 rfl) ?_
          refine lv_imul hx hb dX5_readBranch_64 ?_
          refine lv_aload_n hx hb dX5_readBranch_65 rfl (lv_at hl20 1 rfl) ?_
          refine lv_aload_n hx hb dX5_readBranch_66 rfl (lv_at hl20 2 rfl) ?_
          refine lv_iload_n hx hb dX5_readBranch_67 rfl (lv_at hl20 3 rfl) ?_
          refine lv_iconst (v := 1) hx hb dX5_readBranch_68 (by decide) ?_
          refine lv_iadd hx hb dX5_readBranch_69 ?_
          obtain ⟨y_24, e_nodeCount_25, e_tokenCount_26, e_branches_27, t_position_28, t_fault_29, hcl30, hm30⟩ := bd6_some hm22; clear hm22
          have sb31 := ctS.mk (n := 4) (k := 0) (pre := [oB (r0 0) 5 [.ref (r0 1), .int e_nodeCount_21, .int e_tokenCount, .int e_root], aI (r0 1) cI 88 e_branches, aI (r1 1) cB 6000 t_bytes, oB (r1 0) 4 [.ref (r1 1), .int t_size, .int t_position_2, .int t_fault_11]]) (tl := []) [0, 1, 3, 2] [] [] [] rfl rfl (by decide +kernel) (by decide +kernel)
          refine ct_calli (r := y_24) E sb31 hP23 hD23 hS23 (va_runS (As := [.ref (r0 0), .ref (r1 0), .int (x2 + (1 : Int32))]) (rest := [.int ((2 : Int32) * e_nodeCount), .ref (r0 1)]) ⟨hx, hb, hml, hown, hts⟩ (ih H23.size (x2 + (1 : Int32)) e_nodeCount_21 e_tokenCount e_root e_branches t_size t_position_2 t_fault_11 t_bytes (y_24, e_nodeCount_25, e_tokenCount_26, e_branches_27, t_position_28, t_fault_29) hcl30) (va_cwS 3 hts gX5_readBranch_X5_readBranch rfl rfl rfl cdS_X5_readBranch ⟨by dsimp only [rm_X5_readBranch, rm_X5_readBranch]; omega, by dsimp only [rm_X5_readBranch, rm_X5_readBranch]; omega⟩) (ct_preS E sb31 hP23 hD23 hS23) rfl rfl hl20.1 rfl (lv_room (Nat.le_of_ble_eq_true rfl)) dX5_readBranch_70 ⟨Nat.zero_le _, Nat.zero_le _⟩) (fun H32 lc32 hP32 hD32 hS32 => ?_); clear sb31 hcl30
          clear hP23 hD23 hS23
          have hP32 : va_P D vwCl (wf [oB (r0 0) 5 [.ref (r0 1), .int e_nodeCount_25, .int e_tokenCount_26, .int e_root], aI (r0 1) cI 88 e_branches_27, oB (r1 0) 4 [.ref (r1 1), .int t_size, .int t_position_28, .int t_fault_29], aI (r1 1) cB 6000 t_bytes] []) H32 := hP32
          have hD32 : va_D A (wf [oB (r0 0) 5 [.ref (r0 1), .int e_nodeCount_25, .int e_tokenCount_26, .int e_root], aI (r0 1) cI 88 e_branches_27, oB (r1 0) 4 [.ref (r1 1), .int t_size, .int t_position_28, .int t_fault_29], aI (r1 1) cB 6000 t_bytes] []) := hD32
          obtain ⟨hin33, hm33⟩ := gi_some hm30; clear hm30
          obtain ⟨e_branches_34, ee_branches_34, hm35⟩ := nm_some hm33; clear hm33
          refine ct_iast (g := e_branches_34) (ws' := (wf [oB (r0 0) 5 [.ref (r0 1), .int e_nodeCount_25, .int e_tokenCount_26, .int e_root], aI (r0 1) cI 88 e_branches_34, oB (r1 0) 4 [.ref (r1 1), .int t_size, .int t_position_28, .int t_fault_29], aI (r1 1) cB 6000 t_bytes] [])) hx hb E.1 hP32 hD32 hS32 1 0 rfl rfl hin33 ee_branches_34 rfl dX5_readBranch_73 (fun H36 lc36 hP36 hD36 hS36 => ?_)
          clear hP32 hD32 hS32
          refine lv_aload_n hx hb dX5_readBranch_74 rfl (lv_at hl20 1 rfl) ?_
          refine va_get (D := D) (ci := 5) (v := .ref (r0 1)) (C := RX5) (T := TX5) (N := 4) hx hb hts hi_X5_readBranch_5 hown E.1 hP36 0 rfl rfl 0 (by decide) (hts _ (List.mem_of_getElem? (i := 2) rfl)) (fun _ h9 => h9) rfl dX5_readBranch_75 ?_
          refine lv_iconst (v := 2) hx hb dX5_readBranch_78 (by decide) ?_
          refine lv_iload_n hx hb dX5_readBranch_79 rfl (lv_at hl20 0 rfl) ?_
          refine lv_imul hx hb dX5_readBranch_80 ?_
          refine lv_iconst (v := 1) hx hb dX5_readBranch_81 (by decide) ?_
          refine lv_iadd hx hb dX5_readBranch_82 ?_
          refine lv_aload_n hx hb dX5_readBranch_83 rfl (lv_at hl20 1 rfl) ?_
          refine lv_aload_n hx hb dX5_readBranch_84 rfl (lv_at hl20 2 rfl) ?_
          refine lv_iload_n hx hb dX5_readBranch_85 rfl (lv_at hl20 3 rfl) ?_
          refine lv_iconst (v := 1) hx hb dX5_readBranch_86 (by decide) ?_
          refine lv_iadd hx hb dX5_readBranch_87 ?_
          obtain ⟨y_37, e_nodeCount_38, e_tokenCount_39, e_branches_40, t_position_41, t_fault_42, hcl43, hm43⟩ := bd6_some hm35; clear hm35
          have sb44 := ctS.mk (n := 4) (k := 0) (pre := [oB (r0 0) 5 [.ref (r0 1), .int e_nodeCount_25, .int e_tokenCount_26, .int e_root], aI (r0 1) cI 88 e_branches_34, oB (r1 0) 4 [.ref (r1 1), .int t_size, .int t_position_28, .int t_fault_29], aI (r1 1) cB 6000 t_bytes]) (tl := []) [0, 1, 2, 3] [] [] [] rfl rfl (by decide +kernel) (by decide +kernel)
          refine ct_calli (r := y_37) E sb44 hP36 hD36 hS36 (va_runS (As := [.ref (r0 0), .ref (r1 0), .int (x2 + (1 : Int32))]) (rest := [.int (((2 : Int32) * e_nodeCount) + (1 : Int32)), .ref (r0 1)]) ⟨hx, hb, hml, hown, hts⟩ (ih H36.size (x2 + (1 : Int32)) e_nodeCount_25 e_tokenCount_26 e_root e_branches_34 t_size t_position_28 t_fault_29 t_bytes (y_37, e_nodeCount_38, e_tokenCount_39, e_branches_40, t_position_41, t_fault_42) hcl43) (va_cwS 3 hts gX5_readBranch_X5_readBranch rfl rfl rfl cdS_X5_readBranch ⟨by dsimp only [rm_X5_readBranch, rm_X5_readBranch]; omega, by dsimp only [rm_X5_readBranch, rm_X5_readBranch]; omega⟩) (ct_preS E sb44 hP36 hD36 hS36) rfl rfl hl20.1 rfl (lv_room (Nat.le_of_ble_eq_true rfl)) dX5_readBranch_88 ⟨Nat.zero_le _, Nat.zero_le _⟩) (fun H45 lc45 hP45 hD45 hS45 => ?_); clear sb44 hcl43
          clear hP36 hD36 hS36
          have hP45 : va_P D vwCl (wf [oB (r0 0) 5 [.ref (r0 1), .int e_nodeCount_38, .int e_tokenCount_39, .int e_root], aI (r0 1) cI 88 e_branches_40, oB (r1 0) 4 [.ref (r1 1), .int t_size, .int t_position_41, .int t_fault_42], aI (r1 1) cB 6000 t_bytes] []) H45 := hP45
          have hD45 : va_D A (wf [oB (r0 0) 5 [.ref (r0 1), .int e_nodeCount_38, .int e_tokenCount_39, .int e_root], aI (r0 1) cI 88 e_branches_40, oB (r1 0) 4 [.ref (r1 1), .int t_size, .int t_position_41, .int t_fault_42], aI (r1 1) cB 6000 t_bytes] []) := hD45
          obtain ⟨hin46, hm46⟩ := gi_some hm43; clear hm43
          obtain ⟨e_branches_47, ee_branches_47, hm48⟩ := nm_some hm46; clear hm46
          refine ct_iast (g := e_branches_47) (ws' := (wf [oB (r0 0) 5 [.ref (r0 1), .int e_nodeCount_38, .int e_tokenCount_39, .int e_root], aI (r0 1) cI 88 e_branches_47, oB (r1 0) 4 [.ref (r1 1), .int t_size, .int t_position_41, .int t_fault_42], aI (r1 1) cB 6000 t_bytes] [])) hx hb E.1 hP45 hD45 hS45 1 0 rfl rfl hin46 ee_branches_47 rfl dX5_readBranch_91 (fun H49 lc49 hP49 hD49 hS49 => ?_)
          clear hP45 hD45 hS45
          refine lv_iload_n hx hb dX5_readBranch_92 rfl (lv_at hl20 0 rfl) ?_
          obtain rfl := Option.some.inj hm48
          rw [hQ]
          exact ct_iret hx hb hr hlk hP49 hD49 hS49 rfl dX5_readBranch_93
        · have hm50 := bq_t hm15 hc18; clear hm15
          refine lv_iconst (v := 0) hx hb dX5_readBranch_41 (by decide) ?_
          obtain ⟨hP51, hD51⟩ := ct_ord (n := 4) (k := 0) [0, 1, 3, 2] [] hP17 hD17 rfl rfl (by decide +kernel) (by decide +kernel)
          have hS51 := hS17
          have hP51 : va_P D vwCl (wf [oB (r0 0) 5 [.ref (r0 1), .int e_nodeCount, .int e_tokenCount, .int e_root], aI (r0 1) cI 88 e_branches, oB (r1 0) 4 [.ref (r1 1), .int t_size, .int t_position_2, .int t_fault_11], aI (r1 1) cB 6000 t_bytes] []) H17 := hP51
          have hD51 : va_D A (wf [oB (r0 0) 5 [.ref (r0 1), .int e_nodeCount, .int e_tokenCount, .int e_root], aI (r0 1) cI 88 e_branches, oB (r1 0) 4 [.ref (r1 1), .int t_size, .int t_position_2, .int t_fault_11], aI (r1 1) cB 6000 t_bytes] []) := hD51
          obtain rfl := Option.some.inj hm50
          rw [hQ]
          exact ct_iret hx hb hr hlk hP51 hD51 hS51 rfl dX5_readBranch_42
      refine lv_icmp_ge (tgt := 29) hx hb dX5_readBranch_17 (by decide) (fun hc52 => ?_) (fun hc52 => ?_)
      · have hm53 := bq_t hm10 hc52; clear hm10
        refine lv_aload_n hx hb dX5_readBranch_29 rfl (lv_at hl0 1 rfl) ?_
        refine lv_iconst (v := 3) hx hb dX5_readBranch_30 (by decide) ?_
        obtain ⟨t_fault_54, hcl55, hm55⟩ := bd1_some hm53; clear hm53
        have sb56 := ctS.mk (n := 4) (k := 0) (pre := [oB (r0 0) 5 [.ref (r0 1), .int e_nodeCount, .int e_tokenCount, .int e_root], aI (r0 1) cI 88 e_branches, oB (r1 0) 4 [.ref (r1 1), .int t_size, .int t_position_2, .int t_fault_3], aI (r1 1) cB 6000 t_bytes]) (tl := []) [2] [0, 1, 3] [] [] rfl rfl (by decide +kernel) (by decide +kernel)
        refine ct_callv E sb56 hP6 hD6 hS6 (va_runV (As := [.int (3 : Int32)]) (rest := []) ⟨hx, hb, hml, hown, hts⟩ (c_X4_fail l D cB cI cJ cQ N r1 H6.size (3 : Int32) t_size t_position_2 t_fault_3 (t_fault_54) hcl55) (cwV 1 hts gX5_readBranch_X4_fail rfl rfl rfl cdV_X4_fail ⟨by dsimp only [rm_X5_readBranch, rm_X4_fail]; omega, by dsimp only [rm_X5_readBranch, rm_X4_fail]; omega⟩) (ct_preV (q0 := 2) (ci := 4) E sb56 hP6 hD6 hS6 rfl rfl) rfl rfl hl0.1 rfl (lv_room (Nat.le_of_ble_eq_true rfl)) dX5_readBranch_31 ⟨Nat.zero_le _, Nat.zero_le _⟩) (fun H57 lc57 hP57 hD57 hS57 => ?_); clear sb56 hcl55
        clear hP6 hD6 hS6
        have hP57 : va_P D vwCl (wf [oB (r0 0) 5 [.ref (r0 1), .int e_nodeCount, .int e_tokenCount, .int e_root], aI (r0 1) cI 88 e_branches, aI (r1 1) cB 6000 t_bytes, oB (r1 0) 4 [.ref (r1 1), .int t_size, .int t_position_2, .int t_fault_54]] []) H57 := hP57
        have hD57 : va_D A (wf [oB (r0 0) 5 [.ref (r0 1), .int e_nodeCount, .int e_tokenCount, .int e_root], aI (r0 1) cI 88 e_branches, aI (r1 1) cB 6000 t_bytes, oB (r1 0) 4 [.ref (r1 1), .int t_size, .int t_position_2, .int t_fault_54]] []) := hD57
        obtain ⟨hP58, hD58⟩ := ct_ord (n := 4) (k := 0) [0, 1, 3, 2] [] hP57 hD57 rfl rfl (by decide +kernel) (by decide +kernel)
        have hS58 := hS57
        have hP58 : va_P D vwCl (wf [oB (r0 0) 5 [.ref (r0 1), .int e_nodeCount, .int e_tokenCount, .int e_root], aI (r0 1) cI 88 e_branches, oB (r1 0) 4 [.ref (r1 1), .int t_size, .int t_position_2, .int t_fault_54], aI (r1 1) cB 6000 t_bytes] []) H57 := hP58
        have hD58 : va_D A (wf [oB (r0 0) 5 [.ref (r0 1), .int e_nodeCount, .int e_tokenCount, .int e_root], aI (r0 1) cI 88 e_branches, oB (r1 0) 4 [.ref (r1 1), .int t_size, .int t_position_2, .int t_fault_54], aI (r1 1) cB 6000 t_bytes] []) := hD58
        exact KJ10 t_fault_54 _ _ _ hm55 hP58 hD58 hS58 (lv_sub hl0 [0, 1, 2] rfl)
      · have hm59 := bq_f hm10 hc52; clear hm10
        refine lv_aload_n hx hb dX5_readBranch_20 rfl (lv_at hl0 0 rfl) ?_
        refine va_get (D := D) (ci := 5) (v := .int e_nodeCount) (C := RX5) (T := TX5) (N := 4) hx hb hts hi_X5_readBranch_5 hown E.1 hP6 0 rfl rfl 1 (by decide) (hts _ (List.mem_of_getElem? (i := 1) rfl)) (fun _ h9 => h9) rfl dX5_readBranch_21 ?_
        refine lv_bipush (v := 44) hx hb dX5_readBranch_24 (by decide) ?_
        refine lv_icmp_lt (tgt := 34) hx hb dX5_readBranch_26 (by decide) (fun hc60 => ?_) (fun hc60 => ?_)
        · have hm61 := bq_t hm59 hc60; clear hm59
          exact KJ10 t_fault_3 _ _ _ hm61 hP6 hD6 hS6 (lv_sub hl0 [0, 1, 2] rfl)
        · have hm62 := bq_f hm59 hc60; clear hm59
          refine lv_aload_n hx hb dX5_readBranch_29 rfl (lv_at hl0 1 rfl) ?_
          refine lv_iconst (v := 3) hx hb dX5_readBranch_30 (by decide) ?_
          obtain ⟨t_fault_63, hcl64, hm64⟩ := bd1_some hm62; clear hm62
          have sb65 := ctS.mk (n := 4) (k := 0) (pre := [oB (r0 0) 5 [.ref (r0 1), .int e_nodeCount, .int e_tokenCount, .int e_root], aI (r0 1) cI 88 e_branches, oB (r1 0) 4 [.ref (r1 1), .int t_size, .int t_position_2, .int t_fault_3], aI (r1 1) cB 6000 t_bytes]) (tl := []) [2] [0, 1, 3] [] [] rfl rfl (by decide +kernel) (by decide +kernel)
          refine ct_callv E sb65 hP6 hD6 hS6 (va_runV (As := [.int (3 : Int32)]) (rest := []) ⟨hx, hb, hml, hown, hts⟩ (c_X4_fail l D cB cI cJ cQ N r1 H6.size (3 : Int32) t_size t_position_2 t_fault_3 (t_fault_63) hcl64) (cwV 1 hts gX5_readBranch_X4_fail rfl rfl rfl cdV_X4_fail ⟨by dsimp only [rm_X5_readBranch, rm_X4_fail]; omega, by dsimp only [rm_X5_readBranch, rm_X4_fail]; omega⟩) (ct_preV (q0 := 2) (ci := 4) E sb65 hP6 hD6 hS6 rfl rfl) rfl rfl hl0.1 rfl (lv_room (Nat.le_of_ble_eq_true rfl)) dX5_readBranch_31 ⟨Nat.zero_le _, Nat.zero_le _⟩) (fun H66 lc66 hP66 hD66 hS66 => ?_); clear sb65 hcl64
          clear hP6 hD6 hS6
          have hP66 : va_P D vwCl (wf [oB (r0 0) 5 [.ref (r0 1), .int e_nodeCount, .int e_tokenCount, .int e_root], aI (r0 1) cI 88 e_branches, aI (r1 1) cB 6000 t_bytes, oB (r1 0) 4 [.ref (r1 1), .int t_size, .int t_position_2, .int t_fault_63]] []) H66 := hP66
          have hD66 : va_D A (wf [oB (r0 0) 5 [.ref (r0 1), .int e_nodeCount, .int e_tokenCount, .int e_root], aI (r0 1) cI 88 e_branches, aI (r1 1) cB 6000 t_bytes, oB (r1 0) 4 [.ref (r1 1), .int t_size, .int t_position_2, .int t_fault_63]] []) := hD66
          obtain ⟨hP67, hD67⟩ := ct_ord (n := 4) (k := 0) [0, 1, 3, 2] [] hP66 hD66 rfl rfl (by decide +kernel) (by decide +kernel)
          have hS67 := hS66
          have hP67 : va_P D vwCl (wf [oB (r0 0) 5 [.ref (r0 1), .int e_nodeCount, .int e_tokenCount, .int e_root], aI (r0 1) cI 88 e_branches, oB (r1 0) 4 [.ref (r1 1), .int t_size, .int t_position_2, .int t_fault_63], aI (r1 1) cB 6000 t_bytes] []) H66 := hP67
          have hD67 : va_D A (wf [oB (r0 0) 5 [.ref (r0 1), .int e_nodeCount, .int e_tokenCount, .int e_root], aI (r0 1) cI 88 e_branches, oB (r1 0) 4 [.ref (r1 1), .int t_size, .int t_position_2, .int t_fault_63], aI (r1 1) cB 6000 t_bytes] []) := hD67
          exact KJ10 t_fault_63 _ _ _ hm64 hP67 hD67 hS67 (lv_sub hl0 [0, 1, 2] rfl)
    · have hm68 := bq_t hm4 hc7; clear hm4
      refine lv_aload_n hx hb dX5_readBranch_8 rfl (lv_at hl0 0 rfl) ?_
      refine lv_aload_n hx hb dX5_readBranch_9 rfl (lv_at hl0 1 rfl) ?_
      obtain ⟨y_69, e_tokenCount_70, t_position_71, t_fault_72, hcl73, hm73⟩ := bd4_some hm68; clear hm68
      have sb74 := ctS.mk (n := 4) (k := 0) (pre := [oB (r0 0) 5 [.ref (r0 1), .int e_nodeCount, .int e_tokenCount, .int e_root], aI (r0 1) cI 88 e_branches, oB (r1 0) 4 [.ref (r1 1), .int t_size, .int t_position_2, .int t_fault_3], aI (r1 1) cB 6000 t_bytes]) (tl := []) [0, 2, 3] [1] [] [] rfl rfl (by decide +kernel) (by decide +kernel)
      refine ct_calli (r := y_69) E sb74 hP6 hD6 hS6 (va_runV (As := [.ref (r1 0)]) (rest := []) ⟨hx, hb, hml, hown, hts⟩ (c_X5_readLeaf l D cB cI cJ cQ N r0 r1 H6.size e_nodeCount e_tokenCount e_root t_size t_position_2 t_fault_3 t_bytes (y_69, e_tokenCount_70, t_position_71, t_fault_72) hcl73) (cwV 1 hts gX5_readBranch_X5_readLeaf rfl rfl rfl cdV_X5_readLeaf ⟨by dsimp only [rm_X5_readBranch, rm_X5_readLeaf]; omega, by dsimp only [rm_X5_readBranch, rm_X5_readLeaf]; omega⟩) (ct_preV (q0 := 0) (ci := 5) E sb74 hP6 hD6 hS6 rfl rfl) rfl rfl hl0.1 rfl (lv_room (Nat.le_of_ble_eq_true rfl)) dX5_readBranch_10 ⟨Nat.zero_le _, Nat.zero_le _⟩) (fun H75 lc75 hP75 hD75 hS75 => ?_); clear sb74 hcl73
      clear hP6 hD6 hS6
      have hP75 : va_P D vwCl (wf [aI (r0 1) cI 88 e_branches, oB (r0 0) 5 [.ref (r0 1), .int e_nodeCount, .int e_tokenCount_70, .int e_root], oB (r1 0) 4 [.ref (r1 1), .int t_size, .int t_position_71, .int t_fault_72], aI (r1 1) cB 6000 t_bytes] []) H75 := hP75
      have hD75 : va_D A (wf [aI (r0 1) cI 88 e_branches, oB (r0 0) 5 [.ref (r0 1), .int e_nodeCount, .int e_tokenCount_70, .int e_root], oB (r1 0) 4 [.ref (r1 1), .int t_size, .int t_position_71, .int t_fault_72], aI (r1 1) cB 6000 t_bytes] []) := hD75
      obtain ⟨hP76, hD76⟩ := ct_ord (n := 4) (k := 0) [1, 0, 2, 3] [] hP75 hD75 rfl rfl (by decide +kernel) (by decide +kernel)
      have hS76 := hS75
      have hP76 : va_P D vwCl (wf [oB (r0 0) 5 [.ref (r0 1), .int e_nodeCount, .int e_tokenCount_70, .int e_root], aI (r0 1) cI 88 e_branches, oB (r1 0) 4 [.ref (r1 1), .int t_size, .int t_position_71, .int t_fault_72], aI (r1 1) cB 6000 t_bytes] []) H75 := hP76
      have hD76 : va_D A (wf [oB (r0 0) 5 [.ref (r0 1), .int e_nodeCount, .int e_tokenCount_70, .int e_root], aI (r0 1) cI 88 e_branches, oB (r1 0) 4 [.ref (r1 1), .int t_size, .int t_position_71, .int t_fault_72], aI (r1 1) cB 6000 t_bytes] []) := hD76
      obtain rfl := Option.some.inj hm73
      rw [hQ]
      exact ct_iret hx hb hr hlk hP76 hD76 hS76 rfl dX5_readBranch_13

def f_X5_read (e_nodeCount : Int32) (e_tokenCount : Int32) (e_root : Int32) (e_branches : Nat → Int32) (t_size : Int32) (t_position : Int32) (t_fault : Int32) (t_bytes : Nat → Int32) : Option (Int32 × Int32 × Int32 × (Nat → Int32) × Int32 × Int32) :=
  bd6 (f_X5_readBranch 14 (0 : Int32) (0 : Int32) (0 : Int32) e_branches t_size t_position t_fault t_bytes) fun y_3 e_nodeCount_4 e_tokenCount_5 e_branches_6 t_position_7 t_fault_8 =>
  some (e_nodeCount_4, e_tokenCount_5, y_3, e_branches_6, t_position_7, t_fault_8)

abbrev rm_X5_read : Room := { frames := 19, cells := 0, slots := 0, locals := 783 }

theorem cdS_X5_read : yX5_read.cls ≠ "java/lang/invoke/MethodHandle" ∧ yX5_read.cls ≠ "java/lang/invoke/VarHandle" ∧ (parseMethodDescriptor yX5_read.desc).map (fun d => d.parameters.length) = some 1 := by decide +kernel

theorem cdV_X5_read : yX5_read.cls = RX5 ∧ yX5_read.cls ≠ "java/lang/invoke/MethodHandle" ∧ yX5_read.cls ≠ "java/lang/invoke/VarHandle" ∧ (parseMethodDescriptor yX5_read.desc).map (fun d => d.parameters.length) = some 1 := ⟨rfl, cdS_X5_read⟩

theorem hi_X5_read_5 : ∀ w ∈ u_ws RX5 TX5 4, w ∈ wsX5_read := fun _ h => List.mem_cons_of_mem _ (List.mem_append_left _ (List.mem_append_right _ h))

set_option maxHeartbeats 40000000 in
set_option maxRecDepth 100000 in
theorem c_X5_read (l : Launch) (D : va_G) (cB cI cJ cQ : ClassId) (N : Nat) (r0 : Nat → Nat) (r1 : Nat → Nat) (sz : Nat) (e_nodeCount : Int32) (e_tokenCount : Int32) (e_root : Int32) (e_branches : Nat → Int32) (t_size : Int32) (t_position : Int32) (t_fault : Int32) (t_bytes : Nat → Int32) (o : Int32 × Int32 × Int32 × (Nat → Int32) × Int32 × Int32) (hm0 : f_X5_read e_nodeCount e_tokenCount e_root e_branches t_size t_position t_fault t_bytes = some o) : Met l yX5_read wsX5_read rm_X5_read (ctP D cB cI cJ cQ N sz [.ref (r0 0), .ref (r1 0)] (wf [oB (r0 0) 5 [.ref (r0 1), .int e_nodeCount, .int e_tokenCount, .int e_root], aI (r0 1) cI 88 e_branches, oB (r1 0) 4 [.ref (r1 1), .int t_size, .int t_position, .int t_fault], aI (r1 1) cB 6000 t_bytes] [])) (ctQv D (wf [oB (r0 0) 5 [.ref (r0 1), .int (o.1), .int (o.2.1), .int (o.2.2.1)], aI (r0 1) cI 88 (o.2.2.2.1), oB (r1 0) 4 [.ref (r1 1), .int t_size, .int (o.2.2.2.2.1), .int (o.2.2.2.2.2)], aI (r1 1) cB 6000 t_bytes] []) (va_A (wf [oB (r0 0) 5 [.ref (r0 1), .int e_nodeCount, .int e_tokenCount, .int e_root], aI (r0 1) cI 88 e_branches, oB (r1 0) 4 [.ref (r1 1), .int t_size, .int t_position, .int t_fault], aI (r1 1) cB 6000 t_bytes] []) sz)) 0 0 (va_A (wf [oB (r0 0) 5 [.ref (r0 1), .int e_nodeCount, .int e_tokenCount, .int e_root], aI (r0 1) cI 88 e_branches, oB (r1 0) 4 [.ref (r1 1), .int t_size, .int t_position, .int t_fault], aI (r1 1) cB 6000 t_bytes] []) sz) := by
  refine ct_of (cc := cX5_read) (maxL := 2) (ret := none) (own := RX5) (Qp := ctQv D (wf [oB (r0 0) 5 [.ref (r0 1), .int (o.1), .int (o.2.1), .int (o.2.2.1)], aI (r0 1) cI 88 (o.2.2.2.1), oB (r1 0) 4 [.ref (r1 1), .int t_size, .int (o.2.2.2.2.1), .int (o.2.2.2.2.2)], aI (r1 1) cB 6000 t_bytes] [])) (by decide) rfl rfl (Nat.le_of_ble_eq_true rfl) ?_
  intro p e s m args below meth c A hx hb hr hml hown hts hlk hnm hsz hAe E hP0 hD0 hS0 ls0 hl0
  subst hsz
  have hl0 : lv_has ls0 2 [(0, .ref (r0 0)), (1, .ref (r1 0))] := hl0
  obtain ⟨QQ, hQ⟩ : ∃ Q : State → Prop, Q = MQ below (ctQv D (wf [oB (r0 0) 5 [.ref (r0 1), .int (o.1), .int (o.2.1), .int (o.2.2.1)], aI (r0 1) cI 88 (o.2.2.2.1), oB (r1 0) 4 [.ref (r1 1), .int t_size, .int (o.2.2.2.2.1), .int (o.2.2.2.2.2)], aI (r1 1) cB 6000 t_bytes] []) A) args s 0 0 A := ⟨_, rfl⟩
  rw [← hQ]
  unfold f_X5_read at hm0
  refine lv_aload_n hx hb dX5_read_0 rfl (lv_at hl0 0 rfl) ?_
  refine lv_iconst (v := 0) hx hb dX5_read_1 (by decide) ?_
  refine ct_put (D := D) (ci := 5) (v := .int (0 : Int32)) (ty := .int) (C := RX5) (T := TX5) (N := 4) (ws' := (wf [oB (r0 0) 5 [.ref (r0 1), .int (0 : Int32), .int e_tokenCount, .int e_root], aI (r0 1) cI 88 e_branches, oB (r1 0) 4 [.ref (r1 1), .int t_size, .int t_position, .int t_fault], aI (r1 1) cB 6000 t_bytes] [])) hx hb hts hi_X5_read_5 tyX5 tyX5_ok nmX5 hown E.1 hP0 hD0 hS0 0 rfl rfl 1 (by decide) (hts _ (List.mem_of_getElem? (i := 1) rfl)) (fun _ h9 => h9) rfl (by decide +kernel) rfl rfl (Nat.le_of_ble_eq_true rfl) rfl dX5_read_2 (fun H1 lc1 hP1 hD1 hS1 => ?_)
  clear hP0 hD0 hS0
  refine lv_aload_n hx hb dX5_read_5 rfl (lv_at hl0 0 rfl) ?_
  refine lv_iconst (v := 0) hx hb dX5_read_6 (by decide) ?_
  refine ct_put (D := D) (ci := 5) (v := .int (0 : Int32)) (ty := .int) (C := RX5) (T := TX5) (N := 4) (ws' := (wf [oB (r0 0) 5 [.ref (r0 1), .int (0 : Int32), .int (0 : Int32), .int e_root], aI (r0 1) cI 88 e_branches, oB (r1 0) 4 [.ref (r1 1), .int t_size, .int t_position, .int t_fault], aI (r1 1) cB 6000 t_bytes] [])) hx hb hts hi_X5_read_5 tyX5 tyX5_ok nmX5 hown E.1 hP1 hD1 hS1 0 rfl rfl 2 (by decide) (hts _ (List.mem_of_getElem? (i := 2) rfl)) (fun _ h9 => h9) rfl (by decide +kernel) rfl rfl (Nat.le_of_ble_eq_true rfl) rfl dX5_read_7 (fun H2 lc2 hP2 hD2 hS2 => ?_)
  clear hP1 hD1 hS1
  refine lv_aload_n hx hb dX5_read_10 rfl (lv_at hl0 0 rfl) ?_
  refine lv_aload_n hx hb dX5_read_11 rfl (lv_at hl0 0 rfl) ?_
  refine lv_aload_n hx hb dX5_read_12 rfl (lv_at hl0 1 rfl) ?_
  refine lv_iconst (v := 0) hx hb dX5_read_13 (by decide) ?_
  obtain ⟨y_3, e_nodeCount_4, e_tokenCount_5, e_branches_6, t_position_7, t_fault_8, hcl9, hm9⟩ := bd6_some hm0; clear hm0
  have sb10 := ctS.mk (n := 4) (k := 0) (pre := [oB (r0 0) 5 [.ref (r0 1), .int (0 : Int32), .int (0 : Int32), .int e_root], aI (r0 1) cI 88 e_branches, oB (r1 0) 4 [.ref (r1 1), .int t_size, .int t_position, .int t_fault], aI (r1 1) cB 6000 t_bytes]) (tl := []) [0, 1, 2, 3] [] [] [] rfl rfl (by decide +kernel) (by decide +kernel)
  refine ct_calli (r := y_3) E sb10 hP2 hD2 hS2 (va_runS (As := [.ref (r0 0), .ref (r1 0), .int (0 : Int32)]) (rest := [.ref (r0 0)]) ⟨hx, hb, hml, hown, hts⟩ (c_X5_readBranch l D cB cI cJ cQ N r0 r1 14 H2.size (0 : Int32) (0 : Int32) (0 : Int32) e_root e_branches t_size t_position t_fault t_bytes (y_3, e_nodeCount_4, e_tokenCount_5, e_branches_6, t_position_7, t_fault_8) hcl9) (va_cwS 3 hts gX5_read_X5_readBranch rfl rfl rfl cdS_X5_readBranch ⟨Nat.le_of_ble_eq_true rfl, Nat.le_of_ble_eq_true rfl⟩) (ct_preS E sb10 hP2 hD2 hS2) rfl rfl hl0.1 rfl (lv_room (Nat.le_of_ble_eq_true rfl)) dX5_read_14 ⟨Nat.zero_le _, Nat.zero_le _⟩) (fun H11 lc11 hP11 hD11 hS11 => ?_); clear sb10 hcl9
  clear hP2 hD2 hS2
  have hP11 : va_P D vwCl (wf [oB (r0 0) 5 [.ref (r0 1), .int e_nodeCount_4, .int e_tokenCount_5, .int e_root], aI (r0 1) cI 88 e_branches_6, oB (r1 0) 4 [.ref (r1 1), .int t_size, .int t_position_7, .int t_fault_8], aI (r1 1) cB 6000 t_bytes] []) H11 := hP11
  have hD11 : va_D A (wf [oB (r0 0) 5 [.ref (r0 1), .int e_nodeCount_4, .int e_tokenCount_5, .int e_root], aI (r0 1) cI 88 e_branches_6, oB (r1 0) 4 [.ref (r1 1), .int t_size, .int t_position_7, .int t_fault_8], aI (r1 1) cB 6000 t_bytes] []) := hD11
  refine ct_put (D := D) (ci := 5) (v := .int y_3) (ty := .int) (C := RX5) (T := TX5) (N := 4) (ws' := (wf [oB (r0 0) 5 [.ref (r0 1), .int e_nodeCount_4, .int e_tokenCount_5, .int y_3], aI (r0 1) cI 88 e_branches_6, oB (r1 0) 4 [.ref (r1 1), .int t_size, .int t_position_7, .int t_fault_8], aI (r1 1) cB 6000 t_bytes] [])) hx hb hts hi_X5_read_5 tyX5 tyX5_ok nmX5 hown E.1 hP11 hD11 hS11 0 rfl rfl 3 (by decide) (hts _ (List.mem_of_getElem? (i := 3) rfl)) (fun _ h9 => h9) rfl (by decide +kernel) rfl rfl (Nat.le_of_ble_eq_true rfl) rfl dX5_read_17 (fun H12 lc12 hP12 hD12 hS12 => ?_)
  clear hP11 hD11 hS11
  obtain rfl := Option.some.inj hm9
  rw [hQ]
  exact ct_vret hx hb hr hlk hP12 hD12 hS12 dX5_read_20

def f_X5_readToken_L7 (e_branches : Nat → Int32) (t_size : Int32) (t_bytes : Nat → Int32) : Nat → Int32 → Int32 → Int32 → Int32 → Option (Int32 × Int32 × Int32)
  | 0, _, _, _, _ => none
  | n + 1, t_position_4, t_fault_5, v2_6, v3_7 =>
  (if (12 : Int32) ≤ v3_7 then
  (some (t_position_4, t_fault_5, v2_6))
  else
  ((if v2_6 < (0 : Int32) then
  (some (t_position_4, t_fault_5, v2_6))
  else
  (bd3 (f_X4_bit t_size t_position_4 t_fault_5 t_bytes) fun y_17 t_position_18 t_fault_19 =>
  gi (((2 : Int32) * v2_6) + y_17) 88 <|
  nm ((e_branches (((2 : Int32) * v2_6) + y_17).toNatClampNeg) : Int32) fun v2_24 =>
  nm (v3_7 + (1 : Int32) : Int32) fun v3_27 =>
  f_X5_readToken_L7 e_branches t_size t_bytes n t_position_18 t_fault_19 v2_24 v3_27))))

def f_X5_readToken (e_root : Int32) (e_branches : Nat → Int32) (t_size : Int32) (t_position : Int32) (t_fault : Int32) (t_bytes : Nat → Int32) : Option (Int32 × Int32 × Int32) :=
  bd3 (f_X5_readToken_L7 e_branches t_size t_bytes 4000 t_position t_fault e_root (0 : Int32)) fun t_position_30 t_fault_31 v2_32 =>
  some (((-1 : Int32) - v2_32), t_position_30, t_fault_31)

abbrev rm_X5_readToken : Room := { frames := 2, cells := 0, slots := 0, locals := 42 }

theorem cdS_X5_readToken : yX5_readToken.cls ≠ "java/lang/invoke/MethodHandle" ∧ yX5_readToken.cls ≠ "java/lang/invoke/VarHandle" ∧ (parseMethodDescriptor yX5_readToken.desc).map (fun d => d.parameters.length) = some 1 := by decide +kernel

theorem cdV_X5_readToken : yX5_readToken.cls = RX5 ∧ yX5_readToken.cls ≠ "java/lang/invoke/MethodHandle" ∧ yX5_readToken.cls ≠ "java/lang/invoke/VarHandle" ∧ (parseMethodDescriptor yX5_readToken.desc).map (fun d => d.parameters.length) = some 1 := ⟨rfl, cdS_X5_readToken⟩

theorem hi_X5_readToken_5 : ∀ w ∈ u_ws RX5 TX5 4, w ∈ wsX5_readToken := fun _ h => List.mem_cons_of_mem _ (List.mem_append_left _ (List.mem_append_right _ h))

set_option maxHeartbeats 40000000 in
set_option maxRecDepth 100000 in
theorem c_X5_readToken (l : Launch) (D : va_G) (cB cI cJ cQ : ClassId) (N : Nat) (r0 : Nat → Nat) (r1 : Nat → Nat) (sz : Nat) (e_nodeCount : Int32) (e_tokenCount : Int32) (e_root : Int32) (e_branches : Nat → Int32) (t_size : Int32) (t_position : Int32) (t_fault : Int32) (t_bytes : Nat → Int32) (o : Int32 × Int32 × Int32) (hm0 : f_X5_readToken e_root e_branches t_size t_position t_fault t_bytes = some o) : Met l yX5_readToken wsX5_readToken rm_X5_readToken (ctP D cB cI cJ cQ N sz [.ref (r0 0), .ref (r1 0)] (wf [oB (r0 0) 5 [.ref (r0 1), .int e_nodeCount, .int e_tokenCount, .int e_root], aI (r0 1) cI 88 e_branches, oB (r1 0) 4 [.ref (r1 1), .int t_size, .int t_position, .int t_fault], aI (r1 1) cB 6000 t_bytes] [])) (ctQi D (o.1) (wf [oB (r0 0) 5 [.ref (r0 1), .int e_nodeCount, .int e_tokenCount, .int e_root], aI (r0 1) cI 88 e_branches, oB (r1 0) 4 [.ref (r1 1), .int t_size, .int (o.2.1), .int (o.2.2)], aI (r1 1) cB 6000 t_bytes] []) (va_A (wf [oB (r0 0) 5 [.ref (r0 1), .int e_nodeCount, .int e_tokenCount, .int e_root], aI (r0 1) cI 88 e_branches, oB (r1 0) 4 [.ref (r1 1), .int t_size, .int t_position, .int t_fault], aI (r1 1) cB 6000 t_bytes] []) sz)) 0 0 (va_A (wf [oB (r0 0) 5 [.ref (r0 1), .int e_nodeCount, .int e_tokenCount, .int e_root], aI (r0 1) cI 88 e_branches, oB (r1 0) 4 [.ref (r1 1), .int t_size, .int t_position, .int t_fault], aI (r1 1) cB 6000 t_bytes] []) sz) := by
  refine ct_of (cc := cX5_readToken) (maxL := 4) (ret := (some .int)) (own := RX5) (Qp := ctQi D (o.1) (wf [oB (r0 0) 5 [.ref (r0 1), .int e_nodeCount, .int e_tokenCount, .int e_root], aI (r0 1) cI 88 e_branches, oB (r1 0) 4 [.ref (r1 1), .int t_size, .int (o.2.1), .int (o.2.2)], aI (r1 1) cB 6000 t_bytes] [])) (by decide) rfl rfl (Nat.le_of_ble_eq_true rfl) ?_
  intro p e s m args below meth c A hx hb hr hml hown hts hlk hnm hsz hAe E hP0 hD0 hS0 ls0 hl0
  subst hsz
  have hl0 : lv_has ls0 4 [(0, .ref (r0 0)), (1, .ref (r1 0))] := hl0
  obtain ⟨QQ, hQ⟩ : ∃ Q : State → Prop, Q = MQ below (ctQi D (o.1) (wf [oB (r0 0) 5 [.ref (r0 1), .int e_nodeCount, .int e_tokenCount, .int e_root], aI (r0 1) cI 88 e_branches, oB (r1 0) 4 [.ref (r1 1), .int t_size, .int (o.2.1), .int (o.2.2)], aI (r1 1) cB 6000 t_bytes] []) A) args s 0 0 A := ⟨_, rfl⟩
  rw [← hQ]
  unfold f_X5_readToken at hm0
  refine lv_aload_n hx hb dX5_readToken_0 rfl (lv_at hl0 0 rfl) ?_
  refine va_get (D := D) (ci := 5) (v := .int e_root) (C := RX5) (T := TX5) (N := 4) hx hb hts hi_X5_readToken_5 hown E.1 hP0 0 rfl rfl 3 (by decide) (hts _ (List.mem_of_getElem? (i := 1) rfl)) (fun _ h9 => h9) rfl dX5_readToken_1 ?_
  refine lv_istore_n (lv' := [(2, .int e_root), (0, .ref (r0 0)), (1, .ref (r1 0))]) hx hb dX5_readToken_4 rfl hl0 (by decide) rfl (fun ls1 hl1 => ?_); clear hl0
  refine lv_iconst (v := 0) hx hb dX5_readToken_5 (by decide) ?_
  refine lv_istore_n (lv' := [(3, .int (0 : Int32)), (2, .int e_root), (0, .ref (r0 0)), (1, .ref (r1 0))]) hx hb dX5_readToken_6 rfl hl1 (by decide) rfl (fun ls2 hl2 => ?_); clear hl1
  obtain ⟨t_position_30, t_fault_31, v2_32, hlp3, hm33⟩ := bd3_some hm0; clear hm0
  have LP3 : ∀ (n : Nat) (t_position_4 : Int32) (t_fault_5 : Int32) (v2_6 : Int32) (v3_7 : Int32) (z3 : Int32 × Int32 × Int32) (H8 : Heap) (lc8 : List Loc) (ls8 : Array Slot), f_X5_readToken_L7 e_branches t_size t_bytes n t_position_4 t_fault_5 v2_6 v3_7 = some z3 → va_P D vwCl (wf [oB (r0 0) 5 [.ref (r0 1), .int e_nodeCount, .int e_tokenCount, .int e_root], aI (r0 1) cI 88 e_branches, oB (r1 0) 4 [.ref (r1 1), .int t_size, .int t_position_4, .int t_fault_5], aI (r1 1) cB 6000 t_bytes] []) H8 → va_D A (wf [oB (r0 0) 5 [.ref (r0 1), .int e_nodeCount, .int e_tokenCount, .int e_root], aI (r0 1) cI 88 e_branches, oB (r1 0) 4 [.ref (r1 1), .int t_size, .int t_position_4, .int t_fault_5], aI (r1 1) cB 6000 t_bytes] []) → va_S A s.heap H8 lc8 → lv_has ls8 4 [(0, .ref (r0 0)), (1, .ref (r1 0)), (2, .int v2_6), (3, .int v3_7)] → (∀ (H : Heap) (lc : List Loc) (ls : Array Slot), va_P D vwCl (wf [oB (r0 0) 5 [.ref (r0 1), .int e_nodeCount, .int e_tokenCount, .int e_root], aI (r0 1) cI 88 e_branches, oB (r1 0) 4 [.ref (r1 1), .int t_size, .int (z3.1), .int (z3.2.1)], aI (r1 1) cB 6000 t_bytes] []) H → va_D A (wf [oB (r0 0) 5 [.ref (r0 1), .int e_nodeCount, .int e_tokenCount, .int e_root], aI (r0 1) cI 88 e_branches, oB (r1 0) 4 [.ref (r1 1), .int t_size, .int (z3.1), .int (z3.2.1)], aI (r1 1) cB 6000 t_bytes] []) → va_S A s.heap H lc → lv_has ls 4 [(2, .int (z3.2.2))] → W p l e rm_X5_readToken s m args below meth c H lc 0 0 QQ (F0 m 37 ls [])) → W p l e rm_X5_readToken s m args below meth c H8 lc8 0 0 QQ (F0 m 7 ls8 []) := by
    intro n
    induction n with
    | zero =>
      intro t_position_4 t_fault_5 v2_6 v3_7 z3 H8 lc8 ls8 hm10; simp [f_X5_readToken_L7] at hm10
    | succ n ih =>
      intro t_position_4 t_fault_5 v2_6 v3_7 z3 H8 lc8 ls8 hm10 hP8 hD8 hS8 hl8 kx
      rw [f_X5_readToken_L7] at hm10
      refine lv_iload_n hx hb dX5_readToken_7 rfl (lv_at hl8 3 rfl) ?_
      refine lv_bipush (v := 12) hx hb dX5_readToken_8 (by decide) ?_
      refine lv_icmp_ge (tgt := 37) hx hb dX5_readToken_10 (by decide) (fun hc11 => ?_) (fun hc11 => ?_)
      · have hm12 := bq_t hm10 hc11; clear hm10
        obtain rfl := Option.some.inj hm12
        exact kx _ _ _ hP8 hD8 hS8 (lv_sub hl8 [2] rfl)
      · have hm13 := bq_f hm10 hc11; clear hm10
        refine lv_iload_n hx hb dX5_readToken_13 rfl (lv_at hl8 2 rfl) ?_
        refine lv_if_lt (tgt := 37) hx hb dX5_readToken_14 (by decide) (fun hc14 => ?_) (fun hc14 => ?_)
        · have hm15 := bq_t hm13 hc14; clear hm13
          obtain rfl := Option.some.inj hm15
          exact kx _ _ _ hP8 hD8 hS8 (lv_sub hl8 [2] rfl)
        · have hm16 := bq_f hm13 hc14; clear hm13
          refine lv_aload_n hx hb dX5_readToken_17 rfl (lv_at hl8 0 rfl) ?_
          refine va_get (D := D) (ci := 5) (v := .ref (r0 1)) (C := RX5) (T := TX5) (N := 4) hx hb hts hi_X5_readToken_5 hown E.1 hP8 0 rfl rfl 0 (by decide) (hts _ (List.mem_of_getElem? (i := 2) rfl)) (fun _ h9 => h9) rfl dX5_readToken_18 ?_
          refine lv_iconst (v := 2) hx hb dX5_readToken_21 (by decide) ?_
          refine lv_iload_n hx hb dX5_readToken_22 rfl (lv_at hl8 2 rfl) ?_
          refine lv_imul hx hb dX5_readToken_23 ?_
          refine lv_aload_n hx hb dX5_readToken_24 rfl (lv_at hl8 1 rfl) ?_
          obtain ⟨y_17, t_position_18, t_fault_19, hcl20, hm20⟩ := bd3_some hm16; clear hm16
          have sb21 := ctS.mk (n := 4) (k := 0) (pre := [oB (r0 0) 5 [.ref (r0 1), .int e_nodeCount, .int e_tokenCount, .int e_root], aI (r0 1) cI 88 e_branches, oB (r1 0) 4 [.ref (r1 1), .int t_size, .int t_position_4, .int t_fault_5], aI (r1 1) cB 6000 t_bytes]) (tl := []) [2, 3] [0, 1] [] [] rfl rfl (by decide +kernel) (by decide +kernel)
          refine ct_calli (r := y_17) E sb21 hP8 hD8 hS8 (va_runV (As := []) (rest := [.int ((2 : Int32) * v2_6), .ref (r0 1)]) ⟨hx, hb, hml, hown, hts⟩ (c_X4_bit l D cB cI cJ cQ N r1 H8.size t_size t_position_4 t_fault_5 t_bytes (y_17, t_position_18, t_fault_19) hcl20) (cwV 0 hts gX5_readToken_X4_bit rfl rfl rfl cdV_X4_bit ⟨Nat.le_of_ble_eq_true rfl, Nat.le_of_ble_eq_true rfl⟩) (ct_preV (q0 := 2) (ci := 4) E sb21 hP8 hD8 hS8 rfl rfl) rfl rfl hl8.1 rfl (lv_room (Nat.le_of_ble_eq_true rfl)) dX5_readToken_25 ⟨Nat.zero_le _, Nat.zero_le _⟩) (fun H22 lc22 hP22 hD22 hS22 => ?_); clear sb21 hcl20
          clear hP8 hD8 hS8
          have hP22 : va_P D vwCl (wf [oB (r0 0) 5 [.ref (r0 1), .int e_nodeCount, .int e_tokenCount, .int e_root], aI (r0 1) cI 88 e_branches, oB (r1 0) 4 [.ref (r1 1), .int t_size, .int t_position_18, .int t_fault_19], aI (r1 1) cB 6000 t_bytes] []) H22 := hP22
          have hD22 : va_D A (wf [oB (r0 0) 5 [.ref (r0 1), .int e_nodeCount, .int e_tokenCount, .int e_root], aI (r0 1) cI 88 e_branches, oB (r1 0) 4 [.ref (r1 1), .int t_size, .int t_position_18, .int t_fault_19], aI (r1 1) cB 6000 t_bytes] []) := hD22
          refine lv_iadd hx hb dX5_readToken_28 ?_
          obtain ⟨hin23, hm23⟩ := gi_some hm20; clear hm20
          refine va_iald hx hb E.1 hP22 1 0 rfl rfl hin23 dX5_readToken_29 ?_
          obtain ⟨v2_24, ev2_24, hm25⟩ := nm_some hm23; clear hm23
          refine ct_topi ev2_24 ?_
          refine lv_istore_n (lv' := [(2, .int v2_24), (0, .ref (r0 0)), (1, .ref (r1 0)), (3, .int v3_7)]) hx hb dX5_readToken_30 rfl hl8 (by decide) rfl (fun ls26 hl26 => ?_); clear hl8
          obtain ⟨v3_27, ev3_27, hm28⟩ := nm_some hm25; clear hm25
          refine lv_iinc (v := v3_27) (lv' := [(3, .int v3_27), (2, .int v2_24), (0, .ref (r0 0)), (1, .ref (r1 0))]) hx hb dX5_readToken_31 hl26 (k := 3) rfl (by rw [ev3_27]; rfl) (by decide) rfl (fun ls29 hl29 => ?_); clear hl26
          refine lv_goto (tgt := 7) hx hb dX5_readToken_34 (by decide) ?_
          exact ih t_position_18 t_fault_19 v2_24 v3_27 _ _ _ _ hm28 hP22 hD22 hS22 (lv_sub hl29 [2, 3, 1, 0] rfl) kx
  refine LP3 4000 t_position t_fault e_root (0 : Int32) (t_position_30, t_fault_31, v2_32) _ _ _ hlp3 hP0 hD0 hS0 (lv_sub hl2 [2, 3, 1, 0] rfl) (fun H34 lc34 ls34 hP34 hD34 hS34 hl34 => ?_); clear LP3 hlp3
  clear hP0 hD0 hS0
  have hl34 : lv_has ls34 4 [(2, .int v2_32)] := hl34
  have hP34 : va_P D vwCl (wf [oB (r0 0) 5 [.ref (r0 1), .int e_nodeCount, .int e_tokenCount, .int e_root], aI (r0 1) cI 88 e_branches, oB (r1 0) 4 [.ref (r1 1), .int t_size, .int t_position_30, .int t_fault_31], aI (r1 1) cB 6000 t_bytes] []) H34 := hP34
  have hD34 : va_D A (wf [oB (r0 0) 5 [.ref (r0 1), .int e_nodeCount, .int e_tokenCount, .int e_root], aI (r0 1) cI 88 e_branches, oB (r1 0) 4 [.ref (r1 1), .int t_size, .int t_position_30, .int t_fault_31], aI (r1 1) cB 6000 t_bytes] []) := hD34
  refine lv_iconst (v := -1) hx hb dX5_readToken_37 (by decide) ?_
  refine lv_iload_n hx hb dX5_readToken_38 rfl (lv_at hl34 0 rfl) ?_
  refine lv_isub hx hb dX5_readToken_39 ?_
  obtain rfl := Option.some.inj hm33
  rw [hQ]
  exact ct_iret hx hb hr hlk hP34 hD34 hS34 rfl dX5_readToken_40

def f_X6_bring (x0 : Int32) (x1 : Int32) (x2 : Int32) : Option (Int32) :=
  some ((if x1 < (if x0 < x2 then x0 else x2) then (if x0 < x2 then x0 else x2) else x1))

abbrev rm_X6_bring : Room := { frames := 1, cells := 0, slots := 0, locals := 60 }

theorem cdS_X6_bring : yX6_bring.cls ≠ "java/lang/invoke/MethodHandle" ∧ yX6_bring.cls ≠ "java/lang/invoke/VarHandle" ∧ (parseMethodDescriptor yX6_bring.desc).map (fun d => d.parameters.length) = some 3 := by decide +kernel

set_option maxHeartbeats 40000000 in
set_option maxRecDepth 100000 in
theorem c_X6_bring (l : Launch) (D : va_G) (cB cI cJ cQ : ClassId) (N : Nat) (sz : Nat) (x0 : Int32) (x1 : Int32) (x2 : Int32) (o : Int32) (hm0 : f_X6_bring x0 x1 x2 = some o) : Met l yX6_bring wsX6_bring rm_X6_bring (ctP D cB cI cJ cQ N sz [.int x0, .int x1, .int x2] (wf [] [])) (ctQi D o (wf [] []) (va_A (wf [] []) sz)) 0 0 (va_A (wf [] []) sz) := by
  refine ct_of (cc := cX6_bring) (maxL := 3) (ret := (some .int)) (own := RX6) (Qp := ctQi D o (wf [] [])) (by decide) rfl rfl (Nat.le_of_ble_eq_true rfl) ?_
  intro p e s m args below meth c A hx hb hr hml hown hts hlk hnm hsz hAe E hP0 hD0 hS0 ls0 hl0
  subst hsz
  have hl0 : lv_has ls0 3 [(0, .int x0), (1, .int x1), (2, .int x2)] := hl0
  obtain ⟨QQ, hQ⟩ : ∃ Q : State → Prop, Q = MQ below (ctQi D o (wf [] []) A) args s 0 0 A := ⟨_, rfl⟩
  rw [← hQ]
  unfold f_X6_bring at hm0
  refine lv_iload_n hx hb dX6_bring_0 rfl (lv_at hl0 1 rfl) ?_
  refine lv_iload_n hx hb dX6_bring_1 rfl (lv_at hl0 2 rfl) ?_
  refine lv_iload_n hx hb dX6_bring_2 rfl (lv_at hl0 0 rfl) ?_
  refine va_mmin hx hb (hml.trans hl0.1.symm) hown (hts _ (List.mem_of_getElem? (i := 1) rfl)) (hts _ (List.mem_of_getElem? (i := 2) rfl)) (hts _ (List.mem_of_getElem? (i := 3) rfl)) (hts _ (List.mem_of_getElem? (i := 4) rfl)) (Nat.le_of_ble_eq_true rfl) (Nat.le_of_ble_eq_true rfl) (Nat.zero_le _) (Nat.zero_le _) dX6_bring_3 ?_
  refine va_mmax hx hb (hml.trans hl0.1.symm) hown (hts _ (List.mem_of_getElem? (i := 5) rfl)) (hts _ (List.mem_of_getElem? (i := 6) rfl)) (hts _ (List.mem_of_getElem? (i := 3) rfl)) (hts _ (List.mem_of_getElem? (i := 7) rfl)) (Nat.le_of_ble_eq_true rfl) (Nat.le_of_ble_eq_true rfl) (Nat.zero_le _) (Nat.zero_le _) dX6_bring_6 ?_
  obtain rfl := Option.some.inj hm0
  rw [hQ]
  exact ct_iret hx hb hr hlk hP0 hD0 hS0 rfl dX6_bring_9
